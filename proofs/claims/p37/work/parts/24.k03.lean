/-! FAIR 3: deeds that it hardly sees -/
theorem k_e {J N : zM} {v r : Int32} (h : some (v, J) = some (r, N)) : v = r ∧ J = N := Prod.mk.inj (Option.some.inj h)
theorem v_isP {J : zM} {np q : Nat} (hA : J 1 1080 = nI np) (hnp : np ≤ 12) (hq : q < np) : f_X9_isPerson J (nI q) = some 1 := by
  unfold f_X9_isPerson
  rw [hA, show nI np - 1 = nI (np - 1) from pk_sub (b := 1) (by omega), in_e, if_neg (nI_pos (by omega)), if_pos (nI_le (by omega) (by omega)), zb_s]
  exact zck_t (by decide +kernel)
theorem v_isT {J : zM} {nt t : Nat} (hA : J 1 1081 = nI nt) (hnt : nt ≤ 10) (ht : t < nt) : f_X9_isTool J (nI t) = some 1 := by
  unfold f_X9_isTool
  rw [hA, show nI nt - 1 = nI (nt - 1) from pk_sub (b := 1) (by omega), in_e, if_neg (nI_pos (by omega)), if_pos (nI_le (by omega) (by omega)), zb_s]
  exact zck_t (by decide +kernel)
theorem k_wish {I J N : zM} {np nt B0 : Nat} (hR : RO I 1 (J 1) np nt B0) {x t v r : Int32} (h : f_X9_wish J x t v = some (r, N)) : KS J N np nt := by
  obtain ⟨c1, c2, c3, c4, c5, c6, -⟩ := hR.1
  unfold f_X9_wish at h
  rcases pr_isPerson c3 c4 c1 x with ⟨-, e⟩ | ⟨q, hq, rfl, -, e⟩
  · rw [e, zb_s, if_pos rfl] at h
    exact KS_e h
  · rw [e, zb_s, if_neg one0] at h
    rcases pr_isTool c5 c6 c2 t with ⟨-, e⟩ | ⟨u, hu, rfl, -, e⟩
    · rw [e, zb_s, if_pos rfl] at h
      exact KS_e h
    · rw [e, zb_s, if_neg one0] at h
      obtain ⟨a, -, h⟩ := zb_e h
      by_cases g : a = 0
      · rw [if_pos g] at h
        exact KS_e h
      · rw [if_neg g, show (5 : Int32) + nI u = nI (5 + u) from nI_add 5 u, sp_p J (q := q) (f := 5 + u) (by omega), zb_s, sp_setP J (q := q) (f := 5 + u) (by omega), zb_s] at h
        obtain ⟨-, rfl⟩ := k_e h
        exact KS_w c1 c2 (fun a ha => ms_sn (by
          rcases ha with ⟨q', f, h1, h2, h3, h4⟩ | ⟨u', f, h1, h2, h3⟩ | h1 <;> omega))
theorem k_use {I J N : zM} {np nt B0 : Nat} (hR : RO I 1 (J 1) np nt B0) {t v r : Int32} (h : f_X9_use J t v = some (r, N)) : KS J N np nt := by
  obtain ⟨c1, c2, c3, c4, c5, c6, -⟩ := hR.1
  unfold f_X9_use at h
  rcases pr_isTool c5 c6 c2 t with ⟨-, e⟩ | ⟨u, hu, rfl, -, e⟩
  · rw [e, zb_s, if_pos rfl] at h
    exact KS_e h
  · rw [e, zb_s, if_neg one0] at h
    obtain ⟨a, -, h⟩ := zb_e h
    by_cases g : a = 0
    · rw [if_pos g] at h
      exact KS_e h
    · rw [if_neg g] at h
      obtain ⟨b, -, h⟩ := zb_e h
      by_cases g2 : b = 0
      · rw [if_pos g2] at h
        exact KS_e h
      · rw [if_neg g2] at h
        obtain ⟨q7, -, h⟩ := zb_e h
        obtain ⟨q8, -, h⟩ := zb_e h
        rw [show f_X9_setT J (nI u) 1 q8 = some (ms J 1 (180 + u * 90 + 1) q8) from sp_setT J (t := u) (f := 1) (by omega) q8, zb_s] at h
        obtain ⟨q10, -, h⟩ := zb_e h
        obtain ⟨-, rfl⟩ := k_e h
        exact KS_w c1 c2 (fun a ha => ms_sn (by
          rcases ha with ⟨q', f, h1, h2, h3, h4⟩ | ⟨u', f, h1, h2, h3⟩ | h1 <;> omega))
theorem k_refused {J N : zM} {np nt : Nat} (hp : np ≤ 12) (hn : nt ≤ 10) {x y r : Int32} (h : f_X9_refused J x y = some (r, N)) : KS J N np nt ∧ ∀ a, a ≠ 1 → N a = J a := by
  have go : ∀ s, f_X9_refused_j16 J x y s = some (r, N) → KS J N np nt ∧ ∀ a, a ≠ 1 → N a = J a := by
    intro s h
    unfold f_X9_refused_j16 at h
    rw [zlet_s, zlet_s, zlet_s] at h
    obtain ⟨-, rfl⟩ := k_e h
    refine ⟨KS_w hp hn (fun a ha => ?_), fun a ha => by rw [ms_n ha, ms_n ha, ms_n ha]⟩
    have : a ≠ 1084 ∧ a ≠ 1085 ∧ a ≠ 1086 := by
      rcases ha with ⟨q', f, h1, h2, h3, h4⟩ | ⟨u', f, h1, h2, h3⟩ | h1 <;> omega
    rw [ms_sn this.2.2, ms_sn this.2.1, ms_sn this.1]
  unfold f_X9_refused at h
  split at h
  · exact go _ h
  · exact go _ h
theorem k_claim {I J N : zM} {np nt B0 : Nat} (hR : RO I 1 (J 1) np nt B0) {x t v r : Int32} (h : f_X9_claim J x t v = some (r, N)) : KS J N np nt := by
  obtain ⟨c1, c2, c3, c4, c5, c6, -⟩ := hR.1
  unfold f_X9_claim at h
  rcases pr_isPerson c3 c4 c1 x with ⟨-, e⟩ | ⟨q, hq, rfl, -, e⟩
  · rw [e, zb_s, if_pos rfl] at h
    exact KS_e h
  · rw [e, zb_s, if_neg one0] at h
    rcases pr_isTool c5 c6 c2 t with ⟨-, e⟩ | ⟨u, hu, rfl, -, e⟩
    · rw [e, zb_s, if_pos rfl] at h
      exact KS_e h
    · rw [e, zb_s, if_neg one0] at h
      obtain ⟨ev, n, m, L, S, -, -, -, hc⟩ := hR.2.2 u hu
      have hl8 : L.length ≤ 8 := hc.1.2.2.2.1
      have h57 : f_X9_t J (nI u) 57 = some (nI L.length) := by rw [← hc.2.1]; exact sp_t J (t := u) (f := 57) (by omega)
      obtain ⟨a, -, h⟩ := zb_e h
      by_cases g : a = 0
      · rw [if_pos g] at h
        exact KS_e h
      · rw [if_neg g] at h
        obtain ⟨a2, -, h⟩ := zb_e h
        by_cases g2 : a2 = 0
        · rw [if_pos g2] at h
          exact KS_e h
        · rw [if_neg g2] at h
          obtain ⟨a3, -, h⟩ := zb_e h
          by_cases g3 : 0 ≤ a3
          · rw [if_pos g3] at h
            exact KS_e h
          · rw [if_neg g3] at h
            obtain ⟨a4, -, h⟩ := zb_e h
            by_cases g4 : a4 = nI q
            · rw [if_pos g4] at h
              exact KS_e h
            · rw [if_neg g4, h57, zb_s] at h
              by_cases g5 : nI L.length = 8
              · rw [if_pos g5] at h
                exact KS_e h
              · have h8 : L.length < 8 := by
                  rcases Nat.lt_or_ge L.length 8 with z | z
                  · exact z
                  · exact absurd (show nI L.length = nI 8 by rw [show L.length = 8 by omega]) g5
                have e0 : (58 : Int32) + 4 * nI L.length = nI (58 + 4 * L.length) := by rw [show (4 : Int32) = nI 4 from rfl, pk_mul]; exact nI_add 58 _
                have e1 : (58 : Int32) + 4 * nI L.length + 1 = nI (58 + 4 * L.length + 1) := by rw [e0]; exact nI_add _ 1
                have e2 : (58 : Int32) + 4 * nI L.length + 2 = nI (58 + 4 * L.length + 2) := by rw [e0]; exact nI_add _ 2
                have e3 : (58 : Int32) + 4 * nI L.length + 3 = nI (58 + 4 * L.length + 3) := by rw [e0]; exact nI_add _ 3
                have s57 : ∀ M : zM, ∀ v, f_X9_setT M (nI u) 57 v = some (ms M 1 (180 + u * 90 + 57) v) := fun M v => sp_setT M (t := u) (f := 57) (by omega) v
                rw [if_neg g5, zb_s, e1, e2, e3, e0, sp_setT J (t := u) (f := 58 + 4 * L.length) (by omega), zb_s, sp_setT _ (t := u) (f := 58 + 4 * L.length + 1) (by omega), zb_s, sp_setT _ (t := u) (f := 58 + 4 * L.length + 2) (by omega), zb_s, sp_setT _ (t := u) (f := 58 + 4 * L.length + 3) (by omega), zb_s, s57, zb_s] at h
                obtain ⟨a6, -, h⟩ := zb_e h
                obtain ⟨-, rfl⟩ := k_e h
                refine KS_c c1 c2 (t := u) (by omega) (fun a ha => ?_)
                rw [ms_sn (by omega), ms_sn (by omega), ms_sn (by omega), ms_sn (by omega), ms_sn (by omega)]
theorem k_waive {I J N : zM} {np nt B0 : Nat} (hR : RO I 1 (J 1) np nt B0) {x t r : Int32} (h : f_X9_waive J x t = some (r, N)) : KS J N np nt := by
  obtain ⟨c1, c2, c3, c4, c5, c6, -⟩ := hR.1
  unfold f_X9_waive at h
  rcases pr_isPerson c3 c4 c1 x with ⟨-, e⟩ | ⟨q, hq, rfl, -, e⟩
  · rw [e, zb_s, if_pos rfl] at h
    exact KS_e h
  · rw [e, zb_s, if_neg one0] at h
    rcases pr_isTool c5 c6 c2 t with ⟨-, e⟩ | ⟨u, hu, rfl, -, e⟩
    · rw [e, zb_s, if_pos rfl] at h
      exact KS_e h
    · rw [e, zb_s, if_neg one0] at h
      obtain ⟨ev, n, m, L, S, -, -, -, hc⟩ := hR.2.2 u hu
      rcases pr_claimOn (show u < 10 by omega) hc c1 (show q < 12 by omega) with ⟨i, j, c, k1, k2, -, -, k5⟩ | ⟨-, -, k5⟩
      · obtain ⟨M, N2, S2, -, b2, -, -, b5, b6, -⟩ := pr_goes (show u < 10 by omega) hc k1 k2
        have hjl := (List.getElem?_eq_some_iff.mp k2).1
        have hpl := hc.2.2.2.2.1.length_eq
        have hl8 : L.length ≤ 8 := hc.1.2.2.2.1
        rw [k5, zb_s, if_pos (show (0 : Int32) ≤ nI j from nI_pos' (by omega)), b2, zb_s] at h
        obtain ⟨a, -, h⟩ := zb_e h
        obtain ⟨-, rfl⟩ := k_e h
        exact KS_c c1 c2 (t := u) (by omega) b6
      · rw [k5, zb_s, if_neg (show ¬ (0 : Int32) ≤ -2 by decide)] at h
        exact KS_e h
theorem k_days {I J N : zM} {np nt B0 B C : Nat} (hR : RO I 1 (J 1) np nt B0) (hB : B ≤ 2 ^ 20) (hF : FF C B J) {x r : Int32} (h : f_X9_days J x = some (r, N)) : FF C (B + 1) N := by
  have hA := FF_at hR hF
  unfold f_X9_days at h
  rw [in_e] at h
  by_cases c1 : x < 1
  · rw [if_pos c1, zb_s, if_pos rfl] at h
    obtain ⟨-, rfl⟩ := k_e h
    exact FF_m hF (by omega)
  · rw [if_neg c1] at h
    by_cases c2 : x ≤ 99
    · have c0 : ¬ x < 0 := fun q => c1 (Int32.lt_of_lt_of_le q (by decide))
      obtain ⟨k, hk, rfl⟩ := nI_of2 (M := 99) (n := 99) (by decide) c0 c2
      rw [if_pos c2, zb_s, if_neg one0, zlet_s] at h
      obtain ⟨-, rfl⟩ := k_e h
      have hA0 := hA
      obtain ⟨h1, h2, ⟨dd, d1, d2, d3⟩, ⟨c, e1, e2⟩, h5⟩ := hA
      have v : ∀ a, a ≠ 1082 → ms J 1 1082 (J 1 1082 + nI k) 1 a = J 1 a := fun a ha => ms_sn ha
      have hnp := hR.1.1
      have hnt := hR.1.2.1
      refine FF_of hR (v _ (by omega)) (v _ (by omega)) (FA_w hA0 (dd := dd + k) (c := c) (by omega) ?_ (fun q hq => FP_c (h1 q hq) (v _ (by omega)) (v _ (by omega)) (v _ (by omega)) (by omega)) (fun q hq => v _ (by omega)) (fun t ht => FT_c (d3 t ht) (v _ (by omega)) (v _ (by omega)) (v _ (by omega)) (fun a a1 a2 => v _ (by omega)) (by omega)) e1 ((v _ (by omega)).trans e2) ?_)
      · rw [ms_ss, d2, nI_add]
      · rw [SP_c np (fun q hq => v _ (by omega)), SD_c nt (fun t ht => v _ (by omega))]
        rw [e2, cN_n e1] at h5
        exact h5
    · rw [if_neg c2, zb_s, if_pos rfl] at h
      obtain ⟨-, rfl⟩ := k_e h
      exact FF_m hF (by omega)
