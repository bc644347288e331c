/-! FAIR 6: passed on, swapped -/
-- one passing on, where nothing stands against it
theorem k_pass1 {J N : zM} {np nt C B t p p0 : Nat} (hC : C < 2 ^ 31) (hnp : np ≤ 12) (hnt : nt ≤ 10) (ht : t < nt) (hp : p < np) (hp0 : p0 < np) (hne : p ≠ p0) (hF : FA (J 1) np nt C B) (hh : J 1 (180 + t * 90 + 2) = nI p0) (hw : f_X9_noPass J (nI t) (nI p) = some 0) (h : f_X9_passes J (nI t) (nI p) = some N) : FA (N 1) np nt C B ∧ KA J N ∧ N 1 (180 + t * 90 + 2) = nI p ∧ (∀ a, 180 ≤ a → a < 1083 → (a < 180 + t * 90 ∨ 180 + t * 90 + 90 ≤ a) → N 1 a = J 1 a) := by
  obtain ⟨dd, d1, d2, d3⟩ := hF.2.2.1
  obtain ⟨n, n8, n6, L, hd, -⟩ := d3 t ht
  obtain ⟨⟨k, k1, k2⟩, -, -⟩ := hF.1 p hp
  rcases hd with ⟨a, -⟩ | ⟨p', g, p1, a1, a2, a3, a4, a5⟩
  · exact absurd (hh.symm.trans a) (nI_nm1 (by omega))
  · rw [sp_noPass (by omega) (by omega), d2, a4, k2] at hw
    have hgk : g ≤ k := by
      have h0 := Option.some.inj hw
      unfold whyV at h0
      split at h0
      · split at h0
        next c => exact (nI_leI (by omega) k1).mp c
        next => exact absurd h0 (by decide)
      · exact absurd h0 (by decide)
    exact k_passes hC hnp hnt ht hp hp0 hne hF hh a4 a3 k2 k1 hgk h
theorem k_pass {I J N : zM} {np nt B0 B C : Nat} {x y r : Int32} (hR : RO I 1 (J 1) np nt B0) (hC : C < 2 ^ 31) (hF : FF C B J) (h : f_X9_pass J x y = some (r, N)) : FF C B N := by
  have hA := FF_at hR hF
  obtain ⟨c1, c2, c3, c4, c5, c6, -⟩ := hR.1
  unfold f_X9_pass at h
  rcases pr_isTool c5 c6 c2 x with ⟨-, e⟩ | ⟨u, hu, rfl, -, e⟩
  · rw [e, zb_s, if_pos rfl] at h
    exact FF_k hR hF (KS_e h)
  · rw [e, zb_s, if_neg one0] at h
    rcases pr_isPerson c3 c4 c1 y with ⟨-, e⟩ | ⟨q, hq, rfl, -, e⟩
    · rw [e, zb_s, if_pos rfl] at h
      exact FF_k hR hF (KS_e h)
    · rw [e, zb_s, if_neg one0, show f_X9_t J (nI u) 2 = some (J 1 (180 + u * 90 + 2)) from sp_t J (t := u) (f := 2) (by omega), zb_s] at h
      by_cases g : J 1 (180 + u * 90 + 2) = nI q
      · rw [if_pos g] at h
        exact FF_k hR hF (KS_e h)
      · rw [if_neg g] at h
        rcases RO_out hR hu with ⟨-, -, -, -, -, -, b7⟩ | ⟨p, d, b0, bd, -, b2, -, -, b5, -, b7⟩
        · rw [b7, zb_s, if_pos rfl] at h
          exact FF_k hR hF (KS_e h)
        · rw [b7, zb_s, if_neg one0] at h
          obtain ⟨v, ev, h⟩ := zb_e h
          by_cases v0 : v = 0
          · rw [if_pos v0] at h
            subst v0
            obtain ⟨q11, e11, h⟩ := zb_e h
            obtain ⟨-, rfl⟩ := k_e h
            obtain ⟨g1, g2, -⟩ := k_pass1 hC c1 c2 hu hq b0 (fun z => g (by rw [b2, z])) hA b2 ev e11
            exact FF_of hR g2.2.1 g2.2.2 g1
          · rw [if_neg v0, zb_eta] at h
            exact FF_k hR hF (k_refused c1 c2 h).1
theorem k_swapped {J N : zM} {np nt C B u v p q : Nat} {r : Int32} (hC : C < 2 ^ 31) (hnp : np ≤ 12) (hnt : nt ≤ 10) (hu : u < nt) (hv : v < nt) (huv : u ≠ v) (hp : p < np) (hq : q < np) (hpq : p ≠ q) (hF : FA (J 1) np nt C B) (h2 : J 1 (180 + u * 90 + 2) = nI p) (h4 : J 1 (180 + v * 90 + 2) = nI q) (h : f_X9_swapped J (nI u) (nI v) = some (r, N)) : (∀ a, a ≠ 1 → N a = J a) ∧ (r = 0 → FA (N 1) np nt C B ∧ N 1 1080 = J 1 1080 ∧ N 1 1081 = J 1 1081) := by
  have n5 : ∀ y : Int32, (y = 0 ∨ y = 2 ∨ y = 3) → 50 + y = 0 → False := fun y hy h => by
    rcases hy with rfl | rfl | rfl <;> exact absurd h (by decide)
  unfold f_X9_swapped at h
  obtain ⟨g, -, h⟩ := zb_e h
  by_cases g0 : g = 0
  · rw [if_pos g0] at h
    obtain ⟨hr, rfl⟩ := k_e h
    exact ⟨fun _ _ => rfl, fun h0 => absurd (hr.trans h0) (by decide)⟩
  · rw [if_neg g0, show f_X9_t J (nI u) 2 = some (nI p) from by rw [← h2]; exact sp_t J (t := u) (f := 2) (by omega), zb_s, show f_X9_t J (nI v) 2 = some (nI q) from by rw [← h4]; exact sp_t J (t := v) (f := 2) (by omega), zb_s] at h
    obtain ⟨w, ew, h⟩ := zb_e h
    have wc : w = 0 ∨ w = 2 ∨ w = 3 := by
      rw [sp_noPass (by omega) (by omega)] at ew
      rw [← Option.some.inj ew]
      exact whyV_c _ _ _ _
    by_cases w0 : w = 0
    · rw [if_pos w0] at h
      subst w0
      obtain ⟨M, eM, h⟩ := zb_e h
      obtain ⟨m1, ⟨m2, m3, m4⟩, m5, m6⟩ := k_pass1 hC hnp hnt hu hq hp (fun z => hpq z.symm) hF h2 ew eM
      obtain ⟨w', ew', h⟩ := zb_e h
      have wc' : w' = 0 ∨ w' = 2 ∨ w' = 3 := by
        rw [sp_noPass (by omega) (by omega)] at ew'
        rw [← Option.some.inj ew']
        exact whyV_c _ _ _ _
      by_cases w0' : w' = 0
      · rw [if_pos w0'] at h
        subst w0'
        obtain ⟨M2, eM2, h⟩ := zb_e h
        obtain ⟨-, rfl⟩ := k_e h
        obtain ⟨n1, ⟨n2, n3, n4⟩, -⟩ := k_pass1 hC hnp hnt hv hp hq hpq m1 ((m6 _ (by omega) (by omega) (by omega)).trans h4) ew' eM2
        exact ⟨fun a ha => (n2 a ha).trans (m2 a ha), fun _ => ⟨n1, n3.trans m3, n4.trans m4⟩⟩
      · rw [if_neg w0'] at h
        obtain ⟨hr, rfl⟩ := k_e h
        exact ⟨m2, fun h0 => absurd (hr.trans h0) (fun z => n5 _ wc' z)⟩
    · rw [if_neg w0] at h
      obtain ⟨hr, rfl⟩ := k_e h
      exact ⟨fun _ _ => rfl, fun h0 => absurd (hr.trans h0) (fun z => n5 _ wc z)⟩
theorem k_swap {I J N : zM} {np nt B0 B C : Nat} {x y r : Int32} (hR : RO I 1 (J 1) np nt B0) (hC : C < 2 ^ 31) (hF : FF C B J) (h : f_X9_swap J x y = some (r, N)) : FF C B N := by
  have hA := FF_at hR hF
  obtain ⟨c1, c2, c3, c4, c5, c6, -⟩ := hR.1
  unfold f_X9_swap at h
  rcases pr_isTool c5 c6 c2 x with ⟨-, e⟩ | ⟨u, hu, rfl, -, e⟩
  · rw [e, zb_s, if_pos rfl] at h
    exact FF_k hR hF (KS_e h)
  · rw [e, zb_s, if_neg one0] at h
    rcases pr_isTool c5 c6 c2 y with ⟨-, e⟩ | ⟨v, hv, rfl, -, e⟩
    · rw [e, zb_s, if_pos rfl] at h
      exact FF_k hR hF (KS_e h)
    · rw [e, zb_s, if_neg one0] at h
      obtain ⟨m, em, h⟩ := zb_e h
      by_cases m0 : m = 0
      · rw [if_pos m0] at h
        exact FF_k hR hF (KS_e h)
      · rw [if_neg m0] at h
        obtain ⟨g, -, h⟩ := zb_e h
        rw [sp_take (J := J) (a := 1) (c := 2) (by decide), zb_s] at h
        -- what may be swapped
        have t2 : ∀ w, w < 10 → f_X9_t J (nI w) 2 = some (J 1 (180 + w * 90 + 2)) := fun w hw => sp_t J (t := w) (f := 2) (by omega)
        unfold f_X9_mayBeSwapped at em
        by_cases huv : nI u = nI v
        · rw [if_pos huv] at em
          exact absurd (Option.some.inj em).symm m0
        · rw [if_neg huv] at em
          rcases RO_out hR hu with ⟨-, -, -, -, -, -, b7⟩ | ⟨p, d, b0, bd, -, b2, -, -, b5, -, b7⟩
          · rw [b7, zb_s, if_pos rfl] at em
            exact absurd (Option.some.inj em).symm m0
          · rw [b7, zb_s, if_neg one0] at em
            rcases RO_out hR hv with ⟨-, -, -, -, -, -, b7'⟩ | ⟨q, d', b0', bd', -, b2', -, -, b5', -, b7'⟩
            · rw [b7', zb_s, if_pos rfl] at em
              exact absurd (Option.some.inj em).symm m0
            · rw [b7', zb_s, if_neg one0, t2 u (by omega), zb_s, t2 v (by omega), zb_s, b2, b2'] at em
              by_cases hpq : nI p = nI q
              · rw [if_pos hpq] at em
                exact absurd (Option.some.inj em).symm m0
              · obtain ⟨w, ew, h⟩ := zb_e h
                have cpn : ∀ a, a ≠ 2 → cp J 2 1 0 1087 a = J a := fun a ha => cp_n ha
                obtain ⟨g1, g2⟩ := k_swapped (J := cp J 2 1 0 1087) (r := w.1) (N := w.2) hC c1 c2 hu hv (fun z => huv (by rw [z])) b0 b0' (fun z => hpq (by rw [z])) (by rw [cpn 1 (by decide)]; exact hA) (by rw [cpn 1 (by decide)]; exact b2) (by rw [cpn 1 (by decide)]; exact b2') ew
                by_cases w0 : w.1 = 0
                · rw [if_pos w0] at h
                  obtain ⟨-, rfl⟩ := k_e h
                  obtain ⟨k1, k2, k3⟩ := g2 w0
                  exact FF_of hR (k2.trans (by rw [cpn 1 (by decide)])) (k3.trans (by rw [cpn 1 (by decide)])) k1
                · rw [if_neg w0, sp_take (J := w.2) (a := 2) (c := 1) (by decide), zb_s, zb_eta] at h
                  have hs : ∀ a, a < 1087 → cp w.2 1 2 0 1087 1 a = J 1 a := fun a ha => by
                    rw [cp_s, if_pos (by omega), g1 2 (by decide), cp_s, if_pos (by omega)]
                  have hk := (k_refused c1 c2 h).1
                  have h0 : KS J (cp w.2 1 2 0 1087) np nt := KS_w c1 c2 (fun a ha => hs a (by
                    rcases ha with ⟨q', f, h1, h2, h3, h4⟩ | ⟨u', f, h1, h2, h3⟩ | h1 <;> omega))
                  exact FF_k hR hF (KS_t h0 hk)
theorem k_lease {I J N : zM} {np nt B0 B C : Nat} {x t y r : Int32} (hR : RO I 1 (J 1) np nt B0) (hF : FF C B J) (h : f_X9_lease J x t y = some (r, N)) : FF C B N := by
  have hA := FF_at hR hF
  obtain ⟨c1, c2, c3, c4, c5, c6, -⟩ := hR.1
  have j47 : ∀ M : zM, f_X9_lease_j47 J = some (r, M) → FF C B M := fun M h => by
    unfold f_X9_lease_j47 at h
    rw [zb_eta] at h
    exact FF_k hR hF (k_refused c1 c2 h).1
  unfold f_X9_lease at h
  rcases pr_isPerson c3 c4 c1 x with ⟨-, e⟩ | ⟨q, hq, rfl, -, e⟩
  · rw [e, zb_s, if_pos rfl] at h
    exact FF_k hR hF (KS_e h)
  · rw [e, zb_s, if_neg one0] at h
    rcases pr_isTool c5 c6 c2 t with ⟨-, e⟩ | ⟨u, hu, rfl, -, e⟩
    · rw [e, zb_s, if_pos rfl] at h
      exact FF_k hR hF (KS_e h)
    · rw [e, zb_s, if_neg one0] at h
      obtain ⟨a, -, h⟩ := zb_e h
      by_cases g : a = 0
      · rw [if_pos g] at h
        exact FF_k hR hF (KS_e h)
      · rw [if_neg g] at h
        rcases RO_out hR hu with ⟨-, b2, -, -, -, -, b7⟩ | ⟨p, d, b0, bd, -, b2, -, -, b5, -, b7⟩
        · rw [b7, zb_s, if_pos rfl] at h
          obtain ⟨q10, -, h⟩ := zb_e h
          by_cases g9 : q10 = 9
          · rw [if_pos g9] at h
            exact j47 N h
          · rw [if_neg g9] at h
            obtain ⟨q12, e12, h⟩ := zb_e h
            by_cases g12 : q12 = 0
            · rw [if_pos g12, zb_eta] at h
              exact FF_k hR hF (k_refused c1 c2 h).1
            · rw [if_neg g12, zb_eta] at h
              obtain ⟨w, xw, gg, w1, w2, x9, g9', -, z2, -, z4, -, z6⟩ := RO_num hR hu
              obtain ⟨⟨k, k1, k2⟩, -, -⟩ := hA.1 q hq
              have hwk := k_mayPay (show u < 10 by omega) (show q < 12 by omega) z2 w2 k2 k1 e12 g12
              obtain ⟨n1, n2⟩ := k_leased c1 c2 hu hq hA b2 z2 w1 w2 k2 k1 hwk y h
              exact FF_of hR n2.2.1 n2.2.2 n1
        · rw [b7, zb_s, if_neg one0] at h
          exact j47 N h
