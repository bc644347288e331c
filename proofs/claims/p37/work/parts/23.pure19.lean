/-! PURE 19: look, whole -/
theorem mulz (w : Int32) : w * 0 / 9 = 0 := by
  rw [Int32.mul_zero]
  decide
theorem pr_wear {I J : zM} {o np nt B t : Nat} (hR : RO I o (J 1) np nt B) (ht : t < nt) : ∃ x, f_X7_wearSinceLook I (o + 39 + 7 * t) = some x ∧ f_X9_moreWear J (nI t) = some x := by
  have hnt := hR.1.2.1
  obtain ⟨e, n, m, L, S, ⟨a1, a2, -⟩, hl, hk, hc⟩ := hR.2.2 t ht
  obtain ⟨k1, k2, k3, k4, -⟩ := hk
  have hm6 : m ≤ 6 := k1.2.2.2.1
  have em : nI m - 1 = nI (m - 1) := pk_sub (a := m) (b := 1) k2
  have e4 := k4 (m - 1) 1 (by omega) (by decide)
  refine ⟨I (o + 39 + 7 * t) 1 - I (o + 39 + 7 * t + 3 + 1) ((m - 1) * 4 + 1), ?_, ?_⟩
  · unfold f_X7_wearSinceLook
    have u : f_X4_cell I (o + 39 + 7 * t + 3) (nI (m - 1)) 1 = some (I (o + 39 + 7 * t + 3 + 1) ((m - 1) * 4 + 1)) := sp_cell k1 (i := m - 1) (j := 1) (by omega) (by decide)
    rw [sp_size k1, zb_s, em, u, zb_s]
  · unfold f_X9_moreWear
    have w1 : f_X9_t J (nI t) 1 = some (J 1 (180 + t * 90 + 1)) := sp_t J (t := t) (f := 1) (by omega)
    have w32 : f_X9_t J (nI t) 32 = some (nI m) := by rw [← k3]; exact sp_t J (t := t) (f := 32) (by omega)
    have e33 : (33 : Int32) + 4 * (nI m - 1) = nI (33 + 4 * (m - 1)) := by rw [em, show (4 : Int32) = nI 4 from rfl, show (33 : Int32) = nI 33 from rfl, pk_mul, nI_add]
    have w2 : f_X9_t J (nI t) (nI (33 + 4 * (m - 1)) + 1) = some (J 1 (180 + t * 90 + (33 + 4 * (m - 1) + 1))) := by
      rw [show nI (33 + 4 * (m - 1)) + 1 = nI (33 + 4 * (m - 1) + 1) from nI_add _ 1]
      exact sp_t J (t := t) (f := 33 + 4 * (m - 1) + 1) (by omega)
    rw [w1, zb_s, w32, zb_s, e33, w2, zb_s, e4, a2.1]
theorem pr_cost {I J : zM} {o np nt B t : Nat} (hR : RO I o (J 1) np nt B) (ht : t < nt) : ∃ x, f_X7_cost I (o + 39 + 7 * t) = some x ∧ f_X9_costOf J (nI t) = some x := by
  have hnt := hR.1.2.1
  obtain ⟨x, x1, x2⟩ := pr_wear hR ht
  obtain ⟨w, y, g, w1, w2, y1, g1, z1, z2, -⟩ := RO_num hR ht
  have q0 : f_X9_t J (nI t) 0 = some (nI w) := by rw [← z2]; exact sp_t J (t := t) (f := 0) (by omega)
  unfold f_X7_cost f_X9_costOf
  rw [x1, x2, zb_s, zb_s, zlet_s, z1, q0, zb_s]
  by_cases c : x ≤ 0
  · rw [if_pos c]
    by_cases c2 : x < 0
    · rw [if_pos c2, mulz]
      exact ⟨_, rfl, rfl⟩
    · have h0 : x = 0 := Int32.le_antisymm c (Int32.not_lt.mp c2)
      subst h0
      rw [if_neg c2, mulz]
      exact ⟨_, rfl, rfl⟩
  · rw [if_neg c, if_neg (fun h => c (Int32.le_of_lt h))]
    exact ⟨_, rfl, rfl⟩
theorem pr_looks {I J : zM} {o np nt B t : Nat} (hB : B ≤ 2 ^ 20) (hM : MT I o) (hR : RO I o (J 1) np nt B) (ht : t < nt) : ∃ r I2 J2, f_X2_lookAt I o (nI t) = some (r, I2) ∧ f_X9_looks J (nI t) = some (r, J2) ∧ MT I2 o ∧ RO I2 o (J2 1) np nt B ∧ FJ J J2 ∧ I2 (o + 39 + 7 * t) = I (o + 39 + 7 * t) ∧ 0 ≤ r := by
  have hz := zFu_big
  have hnp := hR.1.1
  have hnt := hR.1.2.1
  have it : f_X2_isTool I o (nI t) = some 1 := by
    unfold f_X2_isTool
    rw [if_neg (nI_pos (by omega)), hR.1.2.2.2.2.1, if_neg (nI_ge ht (by omega))]
  obtain ⟨x, x1, x2⟩ := pr_wear hR ht
  obtain ⟨P, I1, J1, hP, b1, b2, b3, b4, b5⟩ := pr_blame hB hR ht (h := o + 12) hM.2 (Or.inl rfl)
  have hJ1 : J1 1 = J 1 := b5.1 1 (by decide) (by decide)
  have hR1 : RO I1 o (J1 1) np nt B := by
    rw [hJ1]
    exact RO_b hR b4
  have hM1 : MT I1 o := MT_b hM b4 b3.1.m
  obtain ⟨c, c1, -⟩ := pr_cost hR ht
  obtain ⟨c', c1', c2'⟩ := pr_cost hR1 ht
  have hT1 : I1 (o + 39 + 7 * t) = I (o + 39 + 7 * t) := b4 _ (by omega) (by omega) (by omega)
  have hcc : c = c' := by
    have e1 : f_X7_wearSinceLook I1 (o + 39 + 7 * t) = f_X7_wearSinceLook I (o + 39 + 7 * t) := by
      have h3 : I1 (o + 39 + 7 * t + 3) = I (o + 39 + 7 * t + 3) := b4 _ (by omega) (by omega) (by omega)
      have h4 : I1 (o + 39 + 7 * t + 3 + 1) = I (o + 39 + 7 * t + 3 + 1) := b4 _ (by omega) (by omega) (by omega)
      unfold f_X7_wearSinceLook f_X4_size f_X4_cell
      rw [hT1, h3, h4]
    unfold f_X7_cost at c1 c1'
    rw [e1, x1, zb_s, zlet_s, hT1] at c1'
    rw [x1, zb_s, zlet_s] at c1
    rw [c1] at c1'
    exact Option.some.inj c1'
  subst hcc
  obtain ⟨M, N, l1, l2, l3, l4, l5, l6, l7⟩ := RO_look hM1 hR1 ht
  have l2' : f_X9_seesNow J1 (nI t) = some N := l2
  unfold f_X2_lookAt f_X9_looks
  rw [it, zb_s, if_neg one0, sp_toolAt I o (by omega), zb_s, x1, zb_s, c1, zb_s, b1, zb_s, l1, zb_s, x2, zb_s, b2, zb_s, c2', zb_s, l2', zb_s]
  have hTM : M (o + 39 + 7 * t) = I (o + 39 + 7 * t) := by rw [l6 _ (by omega) (by omega), hT1]
  have fj : FJ J N := FJ_t ⟨fun a d1 d2 d3 d4 => b5.1 a d1 d4, b5.2⟩ l5
  by_cases hn : 0 < x
  · rw [if_pos hn, if_pos hn]
    have hb2 : BL M N (o + 12) P := by
      obtain ⟨y1, y2, y3, y4, y5, y6⟩ := b3
      have n5 : N 5 = J1 5 ∧ N 0 = J1 0 := by
        obtain ⟨N', n1, n2, -⟩ := sp_seesNow (J := J1) (t := t) (m := (hR1.2.2 t ht).choose_spec.choose_spec.choose) (by omega) (hR1.2.2 t ht).choose_spec.choose_spec.choose_spec.choose_spec.choose_spec.2.2.1.1.2.2.2.1 (hR1.2.2 t ht).choose_spec.choose_spec.choose_spec.choose_spec.choose_spec.2.2.1.2.2.1
        rw [l2'] at n1
        cases n1
        exact ⟨n2 5 (by decide), n2 0 (by decide)⟩
      refine ⟨TB_c y1 (l6 _ (by omega) (by omega)), fun i z hi => ?_, ?_, ?_, y5, y6⟩
      · rw [l6 _ (by omega) (by omega), n5.1]
        exact y2 i z hi
      · rw [l6 _ (by omega) (by omega)]
        exact y3
      · rw [n5.2]
        exact y4
    have hlen := hb2.len
    obtain ⟨I2, J2, r1, r2, r3, r4, r5, r6, r7⟩ := l_looks x c hn hP (fun M18 => zb (f_X0_size M18 (o + 12)) (fun q19 => some (q19, M18))) P.length 0 zFu zFu M N (by omega) (by omega) (by omega) l3 l4 hb2
    have r1 : f_X2_lookAt_l52 o x c _ zFu M 0 = _ := r1
    have r2 : f_X9_looks_l31 x c zFu N 0 = _ := r2
    rw [r1, r2]
    unfold f_X0_size
    rw [sp_size r5.1, zb_s, zb_s]
    exact ⟨nI P.length, I2, J2, rfl, rfl, r3, r4, FJ_t fj (FJ_1 r6), by rw [r7 _ (by omega), hTM], nI_pos' (by omega)⟩
  · rw [if_neg hn, if_neg hn]
    exact ⟨0, M, N, rfl, rfl, l3, l4, fj, hTM, by decide⟩
theorem d_look {I J : zM} {o B : Nat} (hB : B ≤ 2 ^ 20) (t : Int32) : Deed I J o B (f_X2_lookAt I o t) (f_X9_look J t) := by
  intro np nt hM hR
  obtain ⟨c1, c2, c3, c4, c5, c6, -⟩ := hR.1
  unfold f_X9_look
  rcases pr_isTool c5 c6 c2 t with ⟨e1, e2⟩ | ⟨u, hu, rfl, e1, e2⟩
  · have eh : f_X2_lookAt I o t = some (-1, I) := by
      unfold f_X2_lookAt
      rw [e1, zb_s, if_pos rfl]
    rw [eh, e2]
    exact dd_same hM hR (-1) rfl rfl
  · rw [e2, zb_s, if_neg one0]
    obtain ⟨r, I2, J2, r1, r2, r3, r4, r5, -⟩ := pr_looks hB hM hR hu
    rw [r1, r2]
    exact ⟨r, I2, J2, np, nt, rfl, rfl, Nat.le_refl _, Nat.le_refl _, r3, RO_m r4 (Nat.le_succ B), r5⟩
