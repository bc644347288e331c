/-! PURE 10: lease, use -/
theorem d_refuse {I J : zM} {o B np nt : Nat} {x y : Int32} (hx : x ≠ 0) (hM : MT I o) (hR : RO I o (J 1) np nt B) : ∃ r I2 J2 np2 nt2, f_X2_refuse I o x y = some (r, I2) ∧ f_X9_refused J x y = some (r, J2) ∧ np ≤ np2 ∧ nt ≤ nt2 ∧ MT I2 o ∧ RO I2 o (J2 1) np2 nt2 (B + 1) ∧ FJ J J2 := by
  unfold f_X2_refuse f_X9_refused f_X9_refused_j16
  simp only [zlet_s]
  by_cases c : y = 0
  · rw [if_pos c]
    refine ⟨_, _, _, np, nt, rfl, rfl, Nat.le_refl _, Nat.le_refl _, MT_o (MT_o hM), ?_, FJ_g (FJ_g (FJ_g FJ_r))⟩
    rw [ms_s, ms_s, ms_s]
    exact RO_m (RO_why hR hx (Or.inl ⟨rfl, c⟩)) (Nat.le_succ B)
  · rw [if_neg c]
    refine ⟨_, _, _, np, nt, rfl, rfl, Nat.le_refl _, Nat.le_refl _, MT_o (MT_o hM), ?_, FJ_g (FJ_g (FJ_g FJ_r))⟩
    rw [ms_s, ms_s, ms_s]
    exact RO_m (RO_why hR hx (Or.inr ⟨rfl, c⟩)) (Nat.le_succ B)
-- a tool is at the office, or with a person
theorem RO_out {I J : zM} {o B np nt t : Nat} (hR : RO I o (J 1) np nt B) (ht : t < nt) : (I (o + 39 + 7 * t) 2 = -2 ∧ J 1 (180 + t * 90 + 2) = -1 ∧ I (o + 39 + 7 * t) 3 = -2 ∧ I (o + 39 + 7 * t) 4 = -2 ∧ J 1 (180 + t * 90 + 5) = nI 0 ∧ f_X7_isLeased I (o + 39 + 7 * t) = some 0 ∧ f_X9_isOut J (nI t) = some 0) ∨ ∃ p d, p < np ∧ d ≤ 99 * B + 30 ∧ I (o + 39 + 7 * t) 2 = nI p ∧ J 1 (180 + t * 90 + 2) = nI p ∧ I (o + 39 + 7 * t) 3 = J 1 (180 + t * 90 + 3) ∧ I (o + 39 + 7 * t) 4 = nI d ∧ J 1 (180 + t * 90 + 4) = nI d ∧ f_X7_isLeased I (o + 39 + 7 * t) = some 1 ∧ f_X9_isOut J (nI t) = some 1 := by
  have hnp := hR.1.1
  have hnt := hR.1.2.1
  obtain ⟨e, n, m, L, S, ⟨a1, a2, a3, a4, a5, a6, a7, a8⟩, hl, hk, hc⟩ := hR.2.2 t ht
  have hq : f_X9_t J (nI t) 2 = some (J 1 (180 + t * 90 + 2)) := sp_t J (t := t) (f := 2) (by omega)
  unfold f_X7_isLeased f_X9_isOut
  rw [hq, zb_s]
  rcases a3 with ⟨b1, b2, b3, b4, b5⟩ | ⟨p, d, b0, b1, b2, b3, b4, b5, b6, b7⟩
  · refine Or.inl ⟨b1, b2, b3, b4, b5, ?_, ?_⟩
    · rw [b1]
      exact if_pos (by decide)
    · rw [b2]
      exact if_pos (by decide)
  · refine Or.inr ⟨p, d, b0, b6, b1, b2, b3, b4, b5, ?_, ?_⟩
    · rw [b1]
      exact if_neg (nI_pos (by omega))
    · rw [b2]
      exact if_neg (nI_pos (by omega))
theorem RO_num {I J : zM} {o B np nt t : Nat} (hR : RO I o (J 1) np nt B) (ht : t < nt) : ∃ w x g, 1 ≤ w ∧ w ≤ 99 ∧ x ≤ 9 ∧ g ≤ 99 ∧ I (o + 39 + 7 * t) 0 = nI w ∧ J 1 (180 + t * 90 + 0) = nI w ∧ I (o + 39 + 7 * t) 1 = nI x ∧ J 1 (180 + t * 90 + 1) = nI x ∧ I (o + 39 + 7 * t) 5 = nI g ∧ J 1 (180 + t * 90 + 5) = nI g := by
  obtain ⟨e, n, m, L, S, ⟨⟨a1, w, w1, w2, w3⟩, ⟨a2, x, x1, x2⟩, a3, ⟨a4, g, g1, g2⟩, a5, a6, a7, a8⟩, hl, hk, hc⟩ := hR.2.2 t ht
  exact ⟨w, x, g, w1, w2, x1, g1, by rw [a1, w3], w3, by rw [a2, x2], x2, by rw [a4, g2], g2⟩
theorem RT_wear {I : zM} {o np B t x : Nat} {A : Nat → Int32} (h : RT I o A np B t) (hx : x ≤ 9) : RT (ms I (o + 39 + 7 * t) 1 (nI x)) o (upd A (180 + t * 90 + 1) (nI x)) np B t := by
  obtain ⟨e, n, m, L, S, ⟨a1, a2, a3, a4, a5, a6, a7, a8⟩, hl, hk, hc⟩ := h
  have u : ∀ k, k ≠ 180 + t * 90 + 1 → upd A (180 + t * 90 + 1) (nI x) k = A k := fun k hk => by rw [upd_at, if_neg hk]
  refine ⟨e, n, m, L, S, ⟨?_, ⟨?_, x, hx, ?_⟩, ?_, ?_, ?_, ?_, a7, a8⟩, RTl_c hl (ms_n (by omega)) (ms_n (by omega)) (u _ (by omega)) (fun k a b => u k (by omega)), RTk_c hk (ms_n (by omega)) (ms_n (by omega)) (fun k a b => u k (by omega)), RTc_c hc (ms_n (by omega)) (ms_n (by omega)) (fun k a b => u k (by omega))⟩
  · rw [ms_sn (by decide), u _ (by omega)]
    exact a1
  · rw [ms_ss, upd_at, if_pos rfl]
  · rw [upd_at, if_pos rfl]
  · rw [ms_sn (by decide), ms_sn (by decide), ms_sn (by decide), u _ (by omega), u _ (by omega), u _ (by omega), u _ (by omega)]
    exact a3
  · rw [ms_sn (by decide), u _ (by omega)]
    exact a4
  · rw [ms_sn (by decide)]
    exact a5
  · rw [u _ (by omega)]
    exact a6
theorem RO_wear {I : zM} {o np nt B t x : Nat} {A : Nat → Int32} (h : RO I o A np nt B) (ht : t < nt) (hx : x ≤ 9) : RO (ms I (o + 39 + 7 * t) 1 (nI x)) o (upd A (180 + t * 90 + 1) (nI x)) np nt B := by
  have h10 := h.1.2.1
  exact RO_t h (sI_ms (by omega)) (sI_ms (by omega)) (sA_upd (by omega)) (sA_upd (by omega)) ht (RT_wear (h.2.2 t ht) hx)
theorem d_lease {I J : zM} {o B : Nat} (hB : B ≤ 2 ^ 20) (x t y : Int32) : Deed I J o B (f_X2_leaseTo I o x t y) (f_X9_lease J x t y) := by
  intro np nt hM hR
  obtain ⟨c1, c2, c3, c4, c5, c6, -⟩ := hR.1
  unfold f_X2_leaseTo f_X9_lease
  rcases pr_isPerson c3 c4 c1 x with ⟨e1, e2⟩ | ⟨q, hq, rfl, e1, e2⟩
  · rw [e1, e2]
    exact dd_same hM hR (-1) rfl rfl
  · rw [e1, e2, zb_s, zb_s, if_neg one0, if_neg one0]
    rcases pr_isTool c5 c6 c2 t with ⟨e1, e2⟩ | ⟨u, hu, rfl, e1, e2⟩
    · rw [e1, e2]
      exact dd_same hM hR (-1) rfl rfl
    · rw [e1, e2, zb_s, zb_s, if_neg one0, if_neg one0, in_e]
      by_cases d1 : y < 1
      · rw [if_pos d1, if_pos d1]
        exact dd_same hM hR (-1) rfl rfl
      · rw [if_neg d1, if_neg d1]
        by_cases d2 : y ≤ 30
        · rw [if_pos d2, if_pos d2, zb_s, if_neg one0, sp_toolAt I o (by omega), zb_s]
          have e0 : ¬ y < 0 := fun h => d1 (Int32.lt_of_lt_of_le h (by decide))
          obtain ⟨k, hk, rfl⟩ := nI_of2 (M := 30) (n := 30) (by decide) e0 d2
          obtain ⟨w, x, g, w1, w2, x1, g1, z1, z2, z3, z4, z5, z6⟩ := RO_num hR hu
          have q1 : f_X9_t J (nI u) 1 = some (nI x) := by rw [← z4]; exact sp_t J (t := u) (f := 1) (by omega)
          have q0 : f_X9_t J (nI u) 0 = some (nI w) := by rw [← z2]; exact sp_t J (t := u) (f := 0) (by omega)
          have hp1 := (hR.2.1 q hq).1 1 (by decide)
          have q2 : f_X9_p J (nI q) 1 = some (I (o + 15 + 2 * q) 1) := by rw [hp1]; exact sp_p J (q := q) (f := 1) (by omega)
          rcases RO_out hR hu with ⟨b1, b2, -, -, -, b6, b7⟩ | ⟨p, d, b0, -, b1, b2, b3, b4, b5, b6, b7⟩
          · rw [b6, b7, zb_s, zb_s, if_pos rfl, if_pos rfl, q1, zb_s, z3]
            by_cases d3 : x < 9
            · have l9 : nI x < 9 := nI_lt d3 (b := 9) (by decide)
              have n9 : ¬ nI x = 9 := fun h => absurd ((nI_eq (by omega) (by decide)).mp (show nI x = nI 9 from h)) (by omega)
              have g9 : ¬ (9 : Int32) ≤ nI x := nI_ge d3 (b := 9) (by decide)
              rw [if_pos l9, if_neg n9, sp_personAt I o (by omega), zb_s, z1]
              unfold f_X9_mayPay
              rw [q1, zb_s, if_neg g9, q2, zb_s, q0, zb_s]
              by_cases d4 : nI w ≤ I (o + 15 + 2 * q) 1
              · rw [if_pos d4, if_neg (Int32.not_lt.mpr d4), zb_s, if_neg one0]
                obtain ⟨M, N, v, r1, r2, r3, r4, r5, r6⟩ := RO_lease hB hM hR hu hq hk
                rw [r1, r2, zb_s, zb_s, ← r3]
                exact ⟨v, M, N, np, nt, rfl, rfl, Nat.le_refl _, Nat.le_refl _, r4, r5, r6⟩
              · rw [if_neg d4, if_pos (Int32.not_le.mp d4), zb_s, if_pos rfl]
                obtain ⟨r, I2, J2, np2, nt2, r1, r2, r3⟩ := d_refuse (x := 2) (y := 0) (by decide) hM hR
                rw [r1, r2]
                exact ⟨r, I2, J2, np2, nt2, rfl, rfl, r3⟩
            · have hx9 : x = 9 := by omega
              subst hx9
              rw [if_neg (by decide), if_pos (show nI 9 = 9 from rfl)]
              unfold f_X2_leaseTo_j54 f_X9_lease_j47
              obtain ⟨r, I2, J2, np2, nt2, r1, r2, r3⟩ := d_refuse (x := 1) (y := 0) (by decide) hM hR
              rw [r1, r2]
              exact ⟨r, I2, J2, np2, nt2, rfl, rfl, r3⟩
          · rw [b6, b7, zb_s, zb_s, if_neg one0, if_neg one0]
            unfold f_X2_leaseTo_j54 f_X9_lease_j47
            obtain ⟨r, I2, J2, np2, nt2, r1, r2, r3⟩ := d_refuse (x := 1) (y := 0) (by decide) hM hR
            rw [r1, r2]
            exact ⟨r, I2, J2, np2, nt2, rfl, rfl, r3⟩
        · rw [if_neg d2, if_neg d2]
          exact dd_same hM hR (-1) rfl rfl
theorem d_use {I J : zM} {o B : Nat} (t y : Int32) : Deed I J o B (f_X2_wearDown I o t y) (f_X9_use J t y) := by
  intro np nt hM hR
  obtain ⟨c1, c2, c3, c4, c5, c6, -⟩ := hR.1
  unfold f_X2_wearDown f_X9_use
  rcases pr_isTool c5 c6 c2 t with ⟨e1, e2⟩ | ⟨u, hu, rfl, e1, e2⟩
  · rw [e1, e2]
    exact dd_same hM hR (-1) rfl rfl
  · rw [e1, e2, zb_s, zb_s, if_neg one0, if_neg one0, in_e]
    by_cases d1 : y < 1
    · rw [if_pos d1, if_pos d1]
      exact dd_same hM hR (-1) rfl rfl
    · rw [if_neg d1, if_neg d1]
      by_cases d2 : y ≤ 9
      · rw [if_pos d2, if_pos d2, zb_s, if_neg one0, sp_toolAt I o (by omega), zb_s]
        have e0 : ¬ y < 0 := fun h => d1 (Int32.lt_of_lt_of_le h (by decide))
        obtain ⟨k, hk, rfl⟩ := nI_of2 (M := 9) (n := 9) (by decide) e0 d2
        obtain ⟨w, x, g, w1, w2, x1, g1, z1, z2, z3, z4, z5, z6⟩ := RO_num hR hu
        have q1 : f_X9_t J (nI u) 1 = some (nI x) := by rw [← z4]; exact sp_t J (t := u) (f := 1) (by omega)
        rcases RO_out hR hu with ⟨b1, b2, -, -, -, b6, b7⟩ | ⟨p, d, b0, -, b1, b2, b3, b4, b5, b6, b7⟩
        · rw [b6, b7, zb_s, zb_s, if_pos rfl, if_pos rfl]
          exact dd_same hM hR (-5) rfl rfl
        · rw [b6, b7, zb_s, zb_s, if_neg one0, if_neg one0, q1, zb_s, z3, nI_add]
          obtain ⟨v, hv, r1, r2⟩ : ∃ v, v ≤ 9 ∧ (if (9 : Int32) < nI (x + k) then (9 : Int32) else nI (x + k)) = nI v ∧ f_X9_cut J (nI (x + k)) 0 9 = some (nI v) := by
            unfold f_X9_cut
            rw [if_pos (show (0 : Int32) ≤ nI (x + k) from nI_pos' (by omega))]
            by_cases d3 : x + k ≤ 9
            · exact ⟨x + k, d3, if_neg (nI_nlt d3 (by decide)), if_pos (nI_le d3 (by decide))⟩
            · exact ⟨9, Nat.le_refl _, if_pos (nI_lt (a := 9) (by omega) (by omega)), if_neg (nI_ge (a := 9) (by omega) (by omega))⟩
          have s1 : f_X9_setT J (nI u) 1 (nI v) = some (ms J 1 (180 + u * 90 + 1) (nI v)) := sp_setT J (t := u) (f := 1) (by omega) _
          have q3 : f_X9_t (ms J 1 (180 + u * 90 + 1) (nI v)) (nI u) 1 = some (ms J 1 (180 + u * 90 + 1) (nI v) 1 (180 + u * 90 + 1)) := sp_t _ (t := u) (f := 1) (by omega)
          rw [r1, r2, zb_s, s1, zb_s, q3, zb_s, ms_ss]
          simp only [zlet_s, ms_ss]
          refine ⟨_, _, _, np, nt, rfl, rfl, Nat.le_refl _, Nat.le_refl _, MT_t hM (by omega), ?_, FJ_g FJ_r⟩
          rw [ms_s]
          exact RO_m (RO_wear hR hu hv) (Nat.le_succ B)
      · rw [if_neg d2, if_neg d2]
        exact dd_same hM hR (-1) rfl rfl
