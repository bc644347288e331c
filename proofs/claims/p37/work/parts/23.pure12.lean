/-! PURE 12: pass -/
def whyV (day due dep purse : Int32) : Int32 := if day ≤ due then (if dep ≤ purse then 0 else 2) else 3
theorem sp_why (I : zM) (o T : Nat) (v : Int32) : f_X2_whyNotPassed I o T v = some (whyV (I o 7) (I T 4) (I T 5) v) := by
  unfold f_X2_whyNotPassed whyV
  by_cases c : I o 7 ≤ I T 4
  · rw [if_pos c, if_pos c]
    by_cases c2 : I T 5 ≤ v
    · rw [if_pos c2, if_pos c2]
    · rw [if_neg c2, if_neg c2]
  · rw [if_neg c, if_neg c]
theorem sp_noPass {J : zM} {t q : Nat} (ht : t < 10) (hq : q < 12) : f_X9_noPass J (nI t) (nI q) = some (whyV (J 1 1082) (J 1 (180 + t * 90 + 4)) (J 1 (180 + t * 90 + 5)) (J 1 (q * 15 + 1))) := by
  have q4 : f_X9_t J (nI t) 4 = some (J 1 (180 + t * 90 + 4)) := sp_t J (t := t) (f := 4) (by omega)
  have q5 : f_X9_t J (nI t) 5 = some (J 1 (180 + t * 90 + 5)) := sp_t J (t := t) (f := 5) (by omega)
  have q1 : f_X9_p J (nI q) 1 = some (J 1 (q * 15 + 1)) := sp_p J (q := q) (f := 1) (by omega)
  unfold f_X9_noPass whyV
  rw [q4, zb_s, q1, q5, zb_s, zb_s]
  by_cases c : J 1 1082 ≤ J 1 (180 + t * 90 + 4)
  · rw [if_pos c, if_pos c]
    by_cases c2 : J 1 (180 + t * 90 + 5) ≤ J 1 (q * 15 + 1)
    · rw [if_pos c2, if_pos c2]
    · rw [if_neg c2, if_neg c2]
  · rw [if_neg c, if_neg c]
theorem RO_dayE {I : zM} {A : Nat → Int32} {o np nt B : Nat} (hR : RO I o A np nt B) : I o 7 = A 1082 := by
  obtain ⟨d, -, a, b⟩ := hR.1.2.2.2.2.2.2.1
  rw [a, b]
theorem d_pass {I J : zM} {o B : Nat} (hB : B ≤ 2 ^ 20) (t x : Int32) : Deed I J o B (f_X2_passOn I o t x) (f_X9_pass J t x) := by
  intro np nt hM hR
  obtain ⟨c1, c2, c3, c4, c5, c6, -⟩ := hR.1
  have hday := RO_dayE hR
  unfold f_X2_passOn f_X9_pass
  rcases pr_isTool c5 c6 c2 t with ⟨e1, e2⟩ | ⟨u, hu, rfl, e1, e2⟩
  · rw [e1, e2]
    exact dd_same hM hR (-1) rfl rfl
  · rw [e1, e2, zb_s, zb_s, if_neg one0, if_neg one0]
    rcases pr_isPerson c3 c4 c1 x with ⟨e1, e2⟩ | ⟨q, hq, rfl, e1, e2⟩
    · rw [e1, e2]
      exact dd_same hM hR (-1) rfl rfl
    · rw [e1, e2, zb_s, zb_s, if_neg one0, if_neg one0, sp_toolAt I o (by omega), zb_s, zb_s]
      have q2 : f_X9_t J (nI u) 2 = some (J 1 (180 + u * 90 + 2)) := sp_t J (t := u) (f := 2) (by omega)
      rw [q2, zb_s]
      rcases RO_out hR hu with ⟨b1, b2, -, -, -, b6, b7⟩ | ⟨p, d, b0, -, b1, b2, b3, b4, b5, b6, b7⟩
      · have n1 : ¬ I (o + 39 + 7 * u) 2 = nI q := fun h => absurd (show nI q < 0 by rw [← h, b1]; decide) (nI_pos (by omega))
        have n2 : ¬ J 1 (180 + u * 90 + 2) = nI q := fun h => absurd (show nI q < 0 by rw [← h, b2]; decide) (nI_pos (by omega))
        rw [if_neg n1, if_neg n2, b6, b7, zb_s, zb_s, if_pos rfl, if_pos rfl]
        exact dd_same hM hR (-5) rfl rfl
      · rw [b1, b2]
        by_cases n1 : nI p = nI q
        · rw [if_pos n1, if_pos n1]
          exact dd_same hM hR (-1) rfl rfl
        · rw [if_neg n1, if_neg n1, b6, b7, zb_s, zb_s, if_neg one0, if_neg one0, sp_personAt I o (by omega), zb_s, sp_why, sp_noPass (by omega) (by omega), zb_s, zb_s]
          obtain ⟨w, x, g, w1, w2, x1, g1, z1, z2, z3, z4, z5, z6⟩ := RO_num hR hu
          have ew : whyV (I o 7) (I (o + 39 + 7 * u) 4) (I (o + 39 + 7 * u) 5) (I (o + 15 + 2 * q) 1) = whyV (J 1 1082) (J 1 (180 + u * 90 + 4)) (J 1 (180 + u * 90 + 5)) (J 1 (q * 15 + 1)) := by
            rw [hday, b4, b5, z5, z6, (hR.2.1 q hq).1 1 (by decide)]
          rw [ew]
          generalize whyV (J 1 1082) (J 1 (180 + u * 90 + 4)) (J 1 (180 + u * 90 + 5)) (J 1 (q * 15 + 1)) = y
          by_cases c : y = 0
          · rw [if_pos c, if_pos c]
            obtain ⟨M, N, r1, r2, r3, r4, r5, -⟩ := RO_over hB hM hR hu hq b0 b1
            rw [r1, r2, zb_s, zb_s]
            exact ⟨1, M, N, np, nt, rfl, rfl, Nat.le_refl _, Nat.le_refl _, r3, r4, FJ_1 r5⟩
          · rw [if_neg c, if_neg c]
            obtain ⟨r, I2, J2, np2, nt2, r1, r2, r3⟩ := d_refuse (x := 6) (y := y) (by decide) hM hR
            rw [r1, r2]
            exact ⟨r, I2, J2, np2, nt2, rfl, rfl, r3⟩
