/-! FAIR 5: offered, returned -/
theorem k_claimAt {J : zM} {t z : Nat} {k : Int32} (ht : t < 10) (hz : J 1 (180 + t * 90 + 57) = nI z) (hz8 : z ≤ 8) : ∀ (fuel y : Nat) (r : Int32), y ≤ z → f_X9_claimAt_l2 J (nI t) k fuel (nI y) = some r → r = -2 ∨ ∃ i, i < z ∧ r = nI i := by
  have h57 : f_X9_t J (nI t) 57 = some (nI z) := by rw [← hz]; exact sp_t J (t := t) (f := 57) (by omega)
  intro fuel
  induction fuel with
  | zero =>
    intro y r hy h
    rw [f_X9_claimAt_l2] at h
    cases h
  | succ fuel ih =>
    intro y r hy h
    rw [f_X9_claimAt_l2, h57, zb_s] at h
    by_cases c : nI z ≤ nI y
    · rw [if_pos c] at h
      exact Or.inl (Option.some.inj h).symm
    · have hyz : y < z := by
        rcases Nat.lt_or_ge y z with q | q
        · exact q
        · exact absurd (nI_le q (by omega)) c
      rw [if_neg c] at h
      obtain ⟨q3, -, h⟩ := zb_e h
      by_cases c2 : q3 = k
      · rw [if_pos c2] at h
        exact Or.inr ⟨y, hyz, (Option.some.inj h).symm⟩
      · rw [if_neg c2, nI_1] at h
        exact ih (y + 1) r (by omega) h
theorem k_next {J : zM} {t z : Nat} (ht : t < 10) (hz : J 1 (180 + t * 90 + 57) = nI z) (hz8 : z ≤ 8) : ∀ (fuel y : Nat) (r : Int32), y ≤ z → f_X9_nextClaim_l2 J (nI t) fuel (nI y) = some r → r = -2 ∨ ∃ i c0 v, i < z ∧ r = nI i ∧ f_X9_c J (nI t) (nI i) 0 = some c0 ∧ f_X9_mayPay J (nI t) c0 = some v ∧ ¬ v = 0 := by
  have h57 : f_X9_t J (nI t) 57 = some (nI z) := by rw [← hz]; exact sp_t J (t := t) (f := 57) (by omega)
  intro fuel
  induction fuel with
  | zero =>
    intro y r hy h
    rw [f_X9_nextClaim_l2] at h
    cases h
  | succ fuel ih =>
    intro y r hy h
    rw [f_X9_nextClaim_l2, h57, zb_s] at h
    by_cases c : nI z ≤ nI y
    · rw [if_pos c] at h
      exact Or.inl (Option.some.inj h).symm
    · have hyz : y < z := by
        rcases Nat.lt_or_ge y z with q | q
        · exact q
        · exact absurd (nI_le q (by omega)) c
      rw [if_neg c] at h
      obtain ⟨q3, e3, h⟩ := zb_e h
      obtain ⟨q4, e4, h⟩ := zb_e h
      obtain ⟨q5, e5, h⟩ := zb_e h
      by_cases c2 : q5 = 0
      · rw [if_pos c2, nI_1] at h
        exact ih (y + 1) r (by omega) h
      · rw [if_neg c2] at h
        have er := Option.some.inj h
        unfold f_X9_claimAt at e3
        have e3 : f_X9_claimAt_l2 J (nI t) (nI y) zFu (nI 0) = some q3 := e3
        rcases k_claimAt ht hz hz8 zFu 0 q3 (Nat.zero_le _) e3 with e | ⟨i, hi, e⟩
        · exact Or.inl (er.symm.trans e)
        · rw [e] at e4
          exact Or.inr ⟨i, q4, q5, hi, er.symm.trans e, e4, e5, c2⟩
theorem k_mayPay {J : zM} {t p w k : Nat} {v : Int32} (ht : t < 10) (hp : p < 12) (hw : J 1 (180 + t * 90 + 0) = nI w) (hw9 : w ≤ 99) (hk : J 1 (p * 15 + 1) = nI k) (hk2 : k < 2 ^ 31) (h : f_X9_mayPay J (nI t) (nI p) = some v) (hv : ¬ v = 0) : w ≤ k := by
  have q0 : f_X9_t J (nI t) 0 = some (nI w) := by rw [← hw]; exact sp_t J (t := t) (f := 0) (by omega)
  have q1 : f_X9_p J (nI p) 1 = some (nI k) := by rw [← hk]; exact sp_p J (q := p) (f := 1) (by omega)
  unfold f_X9_mayPay at h
  obtain ⟨a, -, h⟩ := zb_e h
  by_cases c : 9 ≤ a
  · rw [if_pos c] at h
    exact absurd (Option.some.inj h).symm hv
  · rw [if_neg c, q1, zb_s, q0, zb_s] at h
    by_cases c2 : nI k < nI w
    · rw [if_pos c2] at h
      exact absurd (Option.some.inj h).symm hv
    · exact (nI_leI (by omega) hk2).mp (Int32.not_lt.mp c2)
theorem k_offered {M N : zM} {np nt C B t w z : Nat} (hnp : np ≤ 12) (hnt : nt ≤ 10) (ht : t < nt) (hF : FA (M 1) np nt C B) (ho : M 1 (180 + t * 90 + 2) = -1) (hw : M 1 (180 + t * 90 + 0) = nI w) (hw1 : 1 ≤ w) (hw9 : w ≤ 99) (hz : M 1 (180 + t * 90 + 57) = nI z) (hz8 : z ≤ 8) (hcl : ∀ i, i < z → ∃ p, p < np ∧ M 1 (180 + t * 90 + (58 + 4 * i + 0)) = nI p) (h : f_X9_offered M (nI t) = some N) : FA (N 1) np nt C B ∧ KA M N := by
  unfold f_X9_offered at h
  obtain ⟨q1, e1, h⟩ := zb_e h
  by_cases c : q1 < 0
  · rw [if_pos c] at h
    obtain rfl := Option.some.inj h
    exact ⟨hF, fun _ _ => rfl, rfl, rfl⟩
  · rw [if_neg c] at h
    unfold f_X9_nextClaim at e1
    have e1 : f_X9_nextClaim_l2 M (nI t) zFu (nI 0) = some q1 := e1
    rcases k_next (show t < 10 by omega) hz hz8 zFu 0 q1 (Nat.zero_le _) e1 with e | ⟨i, c0, v, hi, rfl, ec, em, hv⟩
    · exact absurd (by rw [e]; decide) c
    · obtain ⟨p, hp, hpc⟩ := hcl i hi
      have ec2 : f_X9_c M (nI t) (nI i) 0 = some (nI p) := by
        unfold f_X9_c
        rw [show (58 : Int32) + 4 * nI i + 0 = nI (58 + 4 * i + 0) from by
          rw [show (4 : Int32) * nI i = nI (4 * i) from pk_mul 4 i, show (58 : Int32) + nI (4 * i) = nI (58 + 4 * i) from nI_add 58 _]
          exact nI_add _ 0, sp_t M (by omega), zb_s, hpc]
      obtain rfl := Option.some.inj (ec.symm.trans ec2)
      obtain ⟨⟨k, k1, k2⟩, -, -⟩ := hF.1 p hp
      have hwk := k_mayPay (show t < 10 by omega) (show p < 12 by omega) hw hw9 k2 k1 em hv
      rw [ec2, zb_s] at h
      obtain ⟨dy, -, h⟩ := zb_e h
      rw [sp_claimGoes (J := M) (t := t) (j := i) (z := z - 1) (by omega) (by omega) (by omega) (by rw [hz, show z - 1 + 1 = z by omega]), zb_s] at h
      generalize hM5 : ms (shL M 1 (180 + t * 90 + (58 + 4 * i + 0)) (180 + t * 90 + (58 + 4 * i + 4)) (4 * (z - 1 - i))) 1 (180 + t * 90 + 57) (nI (z - 1)) = M5 at h
      have k5 : ∀ a, (a < 180 + t * 90 + 57 ∨ 180 + t * 90 + 90 ≤ a) → M5 1 a = M 1 a := fun a ha => by rw [← hM5, ms_sn (by omega), shL_s, if_neg (by omega)]
      have o5 : ∀ a, a ≠ 1 → M5 a = M a := fun a ha => by rw [← hM5, ms_n ha, shL_n ha]
      have hF5 : FA (M5 1) np nt C B := FA_c hF (KS_c hnp hnt (show t < 10 by omega) k5).1 (Nat.le_refl _)
      obtain ⟨q6, e6, h⟩ := zb_e h
      obtain rfl := Option.some.inj h
      obtain ⟨g1, g2, g3, g4⟩ := k_leased (v := q6.1) (N := q6.2) hnp hnt ht hp hF5 ((k5 _ (by omega)).trans ho) ((k5 _ (by omega)).trans hw) hw1 hw9 ((k5 _ (by omega)).trans k2) k1 hwk dy e6
      exact ⟨g1, fun a ha => (g2 a ha).trans (o5 a ha), g3.trans (k5 _ (by omega)), g4.trans (k5 _ (by omega))⟩
theorem k_fee {J : zM} {t a d w g : Nat} (ht : t < 10) (hd : J 1 (180 + t * 90 + 4) = nI d) (hw : J 1 (180 + t * 90 + 0) = nI w) (hg : J 1 (180 + t * 90 + 5) = nI g) (hw9 : w ≤ 99) (hg9 : g ≤ 99) (ha : a ≤ 2 ^ 27) (hd9 : d ≤ 2 ^ 27) : f_X9_fee J (nI t) (nI a) = some (nI (if (a - d) * (1 + w / 10) < g then (a - d) * (1 + w / 10) else g)) := by
  have q4 : f_X9_t J (nI t) 4 = some (nI d) := by rw [← hd]; exact sp_t J (t := t) (f := 4) (by omega)
  have q0 : f_X9_t J (nI t) 0 = some (nI w) := by rw [← hw]; exact sp_t J (t := t) (f := 0) (by omega)
  have q5 : f_X9_t J (nI t) 5 = some (nI g) := by rw [← hg]; exact sp_t J (t := t) (f := 5) (by omega)
  have hm : (a - d) * (1 + w / 10) ≤ 2 ^ 27 * 10 := Nat.mul_le_mul (by omega) (by omega)
  have fin : ∀ f : Nat, f < 2 ^ 31 → f_X9_fee_j30 J (nI t) (nI f) = some (nI (if f < g then f else g)) := fun f hf => by
    unfold f_X9_fee_j30
    rw [q5, zb_s, zb_s]
    by_cases c : f < g
    · rw [if_neg (nI_ge c (by omega)), if_pos c]
    · rw [if_pos (nI_le (by omega) hf), if_neg c]
  unfold f_X9_fee
  rw [q4, zb_s, zlet_s]
  by_cases c : a ≤ d
  · have hle : nI a - nI d ≤ 0 := by
      by_cases c2 : a < d
      · exact Int32.le_of_lt (pk_sneg (by omega) c2)
      · rw [show a = d by omega, pk_sub (Nat.le_refl d), Nat.sub_self]
        decide
    rw [if_pos hle, show a - d = 0 by omega, Nat.zero_mul]
    exact fin 0 (by decide)
  · rw [pk_sub (by omega), if_neg (nI_nle (by omega) (by omega)), q0, zb_s, show nI w / 10 = nI (w / 10) from pk_div (d := 10) (by omega) (by decide) (by decide), show (1 : Int32) + nI (w / 10) = nI (1 + w / 10) from nI_add 1 _, pk_mul]
    exact fin _ (by omega)
-- from the look on: the fee is taken, the rest given back, the link ends, it is offered
theorem k_fin {J1 J4 N : zM} {np nt C B t p k c g f w z : Nat} {r x : Int32} (hnp : np ≤ 12) (hnt : nt ≤ 10) (hC : C < 2 ^ 31) (ht : t < nt) (hp : p < np) (hF : FA (J1 1) np nt C B) (hh : J1 1 (180 + t * 90 + 2) = nI p) (hg : J1 1 (180 + t * 90 + 5) = nI g) (hg9 : g ≤ 99) (hfg : f ≤ g) (hk : J1 1 (p * 15 + 1) = nI k) (hk2 : k < 2 ^ 31) (hc : J1 1 1083 = nI c) (hc2 : c < 2 ^ 31) (hw : J1 1 (180 + t * 90 + 0) = nI w) (hw1 : 1 ≤ w) (hw9 : w ≤ 99) (hz : J1 1 (180 + t * 90 + 57) = nI z) (hz8 : z ≤ 8) (hcl : ∀ i, i < z → ∃ p, p < np ∧ J1 1 (180 + t * 90 + (58 + 4 * i + 0)) = nI p) (h4 : ∀ a, a ≠ p * 15 + 1 → a ≠ p * 15 + 2 → a ≠ p * 15 + 3 → a ≠ 1083 → J4 1 a = J1 1 a) (h41 : J4 1 (p * 15 + 1) = nI (k + g - f)) (h483 : J4 1 1083 = nI (c + f)) (h : (zb (f_X9_setT J4 (nI t) 5 0) (fun q21 => zb (f_X9_ends q21 (nI t)) (fun q22 => zb (f_X9_offered q22 (nI t)) (fun q23 => some (x, q23))))) = some (r, N)) : FA (N 1) np nt C B ∧ N 1 1080 = J1 1 1080 ∧ N 1 1081 = J1 1 1081 ∧ r = x := by
  have hF0 := hF
  obtain ⟨f1, f2, ⟨dd, d1, d2, d3⟩, -, f5⟩ := hF
  obtain ⟨n, n8, n6, LL, hd, m, x', m1, m2, x9', m3, m4⟩ := d3 t ht
  have n1 : 1 ≤ n := by
    rcases hd with ⟨a, -⟩ | ⟨p', g', p1, a1, a2, a3, a4, a5⟩
    · exact absurd (hh.symm.trans a) (nI_nm1 (by omega))
    · exact a5
  rw [show f_X9_setT J4 (nI t) 5 0 = some (ms J4 1 (180 + t * 90 + 5) 0) from sp_setT J4 (t := t) (f := 5) (by omega) 0, zb_s] at h
  have h46 : ms J4 1 (180 + t * 90 + 5) 0 1 (180 + t * 90 + 6) = nI n := by rw [ms_sn (by omega), h4 _ (by omega) (by omega) (by omega) (by omega)]; exact n6
  have h482 : ms J4 1 (180 + t * 90 + 5) 0 1 1082 = nI dd := by rw [ms_sn (by omega), h4 _ (by omega) (by omega) (by omega) (by omega)]; exact d2
  have rE := sp_ends (J := ms J4 1 (180 + t * 90 + 5) 0) (t := t) (by omega) n1 n8 h46
  rw [h482] at rE
  rw [rE, zb_s] at h
  generalize hM : ms (ms (ms J4 1 (180 + t * 90 + 5) 0) 1 (180 + t * 90 + (8 + 3 * (n - 1) + 2)) (nI dd)) 1 (180 + t * 90 + 2) (-1) = M at h
  have kM : ∀ a, a ≠ 180 + t * 90 + 2 → a ≠ 180 + t * 90 + (8 + 3 * (n - 1) + 2) → a ≠ 180 + t * 90 + 5 → a ≠ p * 15 + 1 → a ≠ p * 15 + 2 → a ≠ p * 15 + 3 → a ≠ 1083 → M 1 a = J1 1 a := fun a a1 a2 a3 a4 a5 a6 a7 => by rw [← hM, ms_sn a1, ms_sn a2, ms_sn a3, h4 a a4 a5 a6 a7]
  have m2' : M 1 (180 + t * 90 + 2) = -1 := by rw [← hM, ms_ss]
  have m5 : M 1 (180 + t * 90 + 5) = nI 0 := by rw [← hM, ms_sn (by omega), ms_sn (by omega), ms_ss]; rfl
  have ml : M 1 (180 + t * 90 + (8 + 3 * (n - 1) + 2)) = nI dd := by rw [← hM, ms_sn (by omega), ms_ss]
  have mp : M 1 (p * 15 + 1) = nI (k + g - f) := by rw [← hM, ms_sn (by omega), ms_sn (by omega), ms_sn (by omega), h41]
  have m83 : M 1 1083 = nI (c + f) := by rw [← hM, ms_sn (by omega), ms_sn (by omega), ms_sn (by omega), h483]
  have e1 := SP_1 (A := J1 1) (A2 := M 1) (q := p) np hp (fun u hu hn => kM _ (by omega) (by omega) (by omega) (by omega) (by omega) (by omega) (by omega))
  have e2 := SD_1 (A := J1 1) (A2 := M 1) (t := t) nt ht (fun u hu hn => kM _ (by omega) (by omega) (by omega) (by omega) (by omega) (by omega) (by omega))
  have l1 := SP_le (A := J1 1) np hp
  have l2 := SD_le (A := J1 1) nt ht
  rw [hk, cN_n hk2] at l1
  rw [hg, cN_n (by omega)] at l2
  rw [hc, cN_n hc2] at f5
  rw [hk, mp, cN_n hk2, cN_n (by omega)] at e1
  rw [hg, m5, cN_n (by omega), cN_n (by decide)] at e2
  have hFM : FA (M 1) np nt C B := by
    refine FA_w hF0 d1 ((kM _ (by omega) (by omega) (by omega) (by omega) (by omega) (by omega) (by omega)).trans d2) (fun u hu => ?_) (fun u hu => kM _ (by omega) (by omega) (by omega) (by omega) (by omega) (by omega) (by omega)) (fun u hu => ?_) (by omega) m83 (by omega)
    · by_cases e : u = p
      · subst e
        obtain ⟨-, ⟨d, b1, b2⟩, b3⟩ := f1 u hp
        refine ⟨⟨k + g - f, by omega, mp⟩, ⟨d, b1, (kM _ (by omega) (by omega) (by omega) (by omega) (by omega) (by omega) (by omega)).trans b2⟩, ?_⟩
        rw [kM _ (by omega) (by omega) (by omega) (by omega) (by omega) (by omega) (by omega)]
        exact b3
      · exact FP_c (f1 u hu) (kM _ (by omega) (by omega) (by omega) (by omega) (by omega) (by omega) (by omega)) (kM _ (by omega) (by omega) (by omega) (by omega) (by omega) (by omega) (by omega)) (kM _ (by omega) (by omega) (by omega) (by omega) (by omega) (by omega) (by omega)) (Nat.le_refl _)
    · by_cases e : u = t
      · subst e
        refine ⟨n, n8, (kM _ (by omega) (by omega) (by omega) (by omega) (by omega) (by omega) (by omega)).trans n6, ?_, Or.inl ⟨m2', m5⟩, m, x', m1, m2, x9', (kM _ (by omega) (by omega) (by omega) (by omega) (by omega) (by omega) (by omega)).trans m3, (kM _ (by omega) (by omega) (by omega) (by omega) (by omega) (by omega) (by omega)).trans m4⟩
        rw [m2']
        refine FL_end LL n1 (fun i j hi hj => ?_)
        show M 1 _ = if _ then _ else J1 1 _
        by_cases e9 : i = n - 1 ∧ j = 2
        · rw [if_pos e9, e9.1, e9.2, ml]
        · rw [if_neg e9, kM _ (by omega) (by omega) (by omega) (by omega) (by omega) (by omega) (by omega)]
      · exact FT_c (d3 u hu) (kM _ (by omega) (by omega) (by omega) (by omega) (by omega) (by omega) (by omega)) (kM _ (by omega) (by omega) (by omega) (by omega) (by omega) (by omega) (by omega)) (kM _ (by omega) (by omega) (by omega) (by omega) (by omega) (by omega) (by omega)) (fun a a1 a2 => kM _ (by omega) (by omega) (by omega) (by omega) (by omega) (by omega) (by omega)) (Nat.le_refl _)
  obtain ⟨q23, e23, h⟩ := zb_e h
  obtain ⟨hr, rfl⟩ := k_e h
  obtain ⟨g1, -, g3, g4⟩ := k_offered hnp hnt ht hFM m2' ((kM _ (by omega) (by omega) (by omega) (by omega) (by omega) (by omega) (by omega)).trans hw) hw1 hw9 ((kM _ (by omega) (by omega) (by omega) (by omega) (by omega) (by omega) (by omega)).trans hz) hz8 (fun i hi => by
    obtain ⟨p', a, b⟩ := hcl i hi
    exact ⟨p', a, (kM _ (by omega) (by omega) (by omega) (by omega) (by omega) (by omega) (by omega)).trans b⟩) e23
  exact ⟨g1, g3.trans (kM _ (by omega) (by omega) (by omega) (by omega) (by omega) (by omega) (by omega)), g4.trans (kM _ (by omega) (by omega) (by omega) (by omega) (by omega) (by omega) (by omega)), hr.symm⟩
theorem k_returned {I J N : zM} {np nt B0 B C : Nat} {x r : Int32} (hB0 : B0 ≤ 2 ^ 20) (hM : MT I 1) (hR : RO I 1 (J 1) np nt B0) (hC : C < 2 ^ 31) (hF : FF C B J) (h : f_X9_returned J x = some (r, N)) : FF C (B + 12) N ∧ N 1 1081 = J 1 1081 ∧ (∀ u, u < nt → x = nI u → r = -5 ∨ (f_X9_isOut J (nI u) = some 1 ∧ f_X9_fee J (nI u) (J 1 1082) = some r)) := by
  have hA := FF_at hR hF
  obtain ⟨c1, c2, c3, c4, c5, c6, -⟩ := hR.1
  unfold f_X9_returned at h
  rcases pr_isTool c5 c6 c2 x with ⟨-, e⟩ | ⟨u, hu, rfl, -, e⟩
  · rw [e, zb_s, if_pos rfl] at h
    obtain ⟨-, rfl⟩ := k_e h
    refine ⟨FF_m hF (by omega), rfl, fun u hu hx => ?_⟩
    exfalso
    have e2 : f_X9_isTool J (nI u) = some 1 := v_isT c6 c2 hu
    rw [hx, e2] at e
    exact absurd (Option.some.inj e) one0
  · rw [e, zb_s, if_neg one0] at h
    rcases RO_out hR hu with ⟨-, -, -, -, -, -, b7⟩ | ⟨p, d, b0, bd, -, b2, -, -, b5, -, b7⟩
    · rw [b7, zb_s, if_pos rfl] at h
      obtain ⟨hr, rfl⟩ := k_e h
      exact ⟨FF_m hF (by omega), rfl, fun _ _ _ => Or.inl hr.symm⟩
    · rw [b7, zb_s, if_neg one0] at h
      obtain ⟨q5, e5, h⟩ := zb_e h
      obtain ⟨l1, l2⟩ := k_looks (r := q5.1) (N := q5.2) hB0 hM hR hu hC hA e5
      generalize q5.2 = J1 at h l1 l2
      obtain ⟨w, xw, g, w1, w2, x9, g9, -, z2, -, z4, -, z6⟩ := RO_num hR hu
      obtain ⟨ev, n, m, L, S, -, -, -, hc⟩ := hR.2.2 u hu
      have hpl := hc.2.2.2.2.1.length_eq
      have hl8 : L.length ≤ 8 := hc.1.2.2.2.1
      obtain ⟨a, a1, -, a2⟩ := hR.1.2.2.2.2.2.2.1
      have j2 : J1 1 (180 + u * 90 + 2) = nI p := (l2 _ (by omega) (by omega) (by omega)).trans b2
      have j4 : J1 1 (180 + u * 90 + 4) = nI d := (l2 _ (by omega) (by omega) (by omega)).trans b5
      have j0 : J1 1 (180 + u * 90 + 0) = nI w := (l2 _ (by omega) (by omega) (by omega)).trans z2
      have j5 : J1 1 (180 + u * 90 + 5) = nI g := (l2 _ (by omega) (by omega) (by omega)).trans z6
      have j82 : J1 1 1082 = nI a := (l2 _ (by omega) (by omega) (by omega)).trans a2
      have fe := k_fee (J := J) (show u < 10 by omega) (a := a) b5 z2 z6 w2 g9 (by omega) (by omega)
      have fe1 := k_fee (J := J1) (show u < 10 by omega) (a := a) j4 j0 j5 w2 g9 (by omega) (by omega)
      have hfg : (if (a - d) * (1 + w / 10) < g then (a - d) * (1 + w / 10) else g) ≤ g := by
        split
        · omega
        · exact Nat.le_refl _
      generalize (if (a - d) * (1 + w / 10) < g then (a - d) * (1 + w / 10) else g) = f at fe fe1 hfg
      obtain ⟨⟨k, k1, k2⟩, -, -⟩ := l1.1 p b0
      obtain ⟨cc, cc1, cc2⟩ := l1.2.2.2.1
      have q2 : f_X9_t J1 (nI u) 2 = some (nI p) := by rw [← j2]; exact sp_t J1 (t := u) (f := 2) (by omega)
      have q4 : f_X9_t J1 (nI u) 4 = some (nI d) := by rw [← j4]; exact sp_t J1 (t := u) (f := 4) (by omega)
      rw [q2, zb_s, j82, fe1, zb_s, q4, zb_s] at h
      have go : ∀ s0, f_X9_returned_j70 J1 (nI u) (nI p) (nI f) s0 = some (r, N) → FA (N 1) np nt C (B + 12) ∧ N 1 1080 = J1 1 1080 ∧ N 1 1081 = J1 1 1081 ∧ r = nI f := by
        intro s0 h
        have r1 : f_X9_p (ms J1 1 1083 (nI (cc + f))) (nI p) 1 = some (nI k) := by
          rw [show f_X9_p (ms J1 1 1083 (nI (cc + f))) (nI p) 1 = some (ms J1 1 1083 (nI (cc + f)) 1 (p * 15 + 1)) from sp_p _ (q := p) (f := 1) (by omega), ms_sn (by omega), k2]
        have r5 : f_X9_t (ms J1 1 1083 (nI (cc + f))) (nI u) 5 = some (nI g) := by
          rw [show f_X9_t (ms J1 1 1083 (nI (cc + f))) (nI u) 5 = some (ms J1 1 1083 (nI (cc + f)) 1 (180 + u * 90 + 5)) from sp_t _ (t := u) (f := 5) (by omega), ms_sn (by omega), j5]
        have s1 : ∀ (M : zM) v, f_X9_setP M (nI p) 1 v = some (ms M 1 (p * 15 + 1) v) := fun M v => sp_setP M (q := p) (f := 1) (by omega) v
        have s2 : ∀ (M : zM) v, f_X9_setP M (nI p) 2 v = some (ms M 1 (p * 15 + 2) v) := fun M v => sp_setP M (q := p) (f := 2) (by omega) v
        have s3 : ∀ (M : zM) v, f_X9_setP M (nI p) 3 v = some (ms M 1 (p * 15 + 3) v) := fun M v => sp_setP M (q := p) (f := 3) (by omega) v
        unfold f_X9_returned_j70 at h
        rw [zlet_s, cc2, nI_add, r1, zb_s, r5, zb_s, nI_add, pk_sub (by omega), s1, zb_s] at h
        obtain ⟨q14, -, h⟩ := zb_e h
        have go2 : ∀ s, f_X9_returned_j124 (ms (ms J1 1 1083 (nI (cc + f))) 1 (p * 15 + 1) (nI (k + g - f))) (nI u) (nI p) (nI f) s0 s q14 (nI p) = some (r, N) → FA (N 1) np nt C (B + 12) ∧ N 1 1080 = J1 1 1080 ∧ N 1 1081 = J1 1 1081 ∧ r = nI f := by
          intro s h
          unfold f_X9_returned_j124 at h
          rw [s3, zb_s] at h
          obtain ⟨q17, -, h⟩ := zb_e h
          have go3 : ∀ s', f_X9_returned_j148 (ms (ms (ms J1 1 1083 (nI (cc + f))) 1 (p * 15 + 1) (nI (k + g - f))) 1 (p * 15 + 3) (q14 + s)) (nI u) (nI f) s' q17 (nI p) = some (r, N) → FA (N 1) np nt C (B + 12) ∧ N 1 1080 = J1 1 1080 ∧ N 1 1081 = J1 1 1081 ∧ r = nI f := by
            intro s' h
            unfold f_X9_returned_j148 at h
            obtain ⟨q19, -, h⟩ := zb_e h
            rw [s2, zb_s] at h
            refine k_fin (g := g) (f := f) (k := k) (c := cc) (w := w) (z := L.length) c1 c2 hC hu b0 l1 j2 j5 g9 hfg k2 k1 cc2 cc1 j0 w1 w2 ((l2 _ (by omega) (by omega) (by omega)).trans hc.2.1) hl8 (fun i hi => ?_) (fun a a1 a2 a3 a4 => ?_) ?_ ?_ h
            · have hiS : i < S.length := by omega
              obtain ⟨ci, hci⟩ : ∃ c, S[i]? = some c := ⟨_, List.getElem?_eq_getElem hiS⟩
              have hm : ci ∈ L := hc.2.2.2.2.1.mem_iff.mpr (List.mem_of_getElem? hci)
              exact ⟨ci.1, (hc.2.2.2.2.2.2.1 ci hm).1, (l2 _ (by omega) (by omega) (by omega)).trans (hc.2.2.2.1 i ci hci).1⟩
            · rw [ms_sn a2, ms_sn a3, ms_sn a1, ms_sn a4]
            · rw [ms_sn (by omega), ms_sn (by omega), ms_ss]
            · rw [ms_sn (by omega), ms_sn (by omega), ms_sn (by omega), ms_ss]
          split at h
          · exact go3 _ h
          · exact go3 _ h
        split at h
        · exact go2 _ h
        · exact go2 _ h
      have fin : FA (N 1) np nt C (B + 12) ∧ N 1 1080 = J1 1 1080 ∧ N 1 1081 = J1 1 1081 ∧ r = nI f := by
        split at h
        · exact go _ h
        · exact go _ h
      obtain ⟨g1, g2, g3, g4⟩ := fin
      refine ⟨FF_of hR (g2.trans (l2 _ (by omega) (by omega) (by omega))) (g3.trans (l2 _ (by omega) (by omega) (by omega))) g1, g3.trans (l2 _ (by omega) (by omega) (by omega)), fun u' hu' hx => Or.inr ?_⟩
      have eu : u' = u := nI_inj hx.symm (by omega) (by omega)
      rw [eu, a2, g4]
      exact ⟨b7, fe⟩
