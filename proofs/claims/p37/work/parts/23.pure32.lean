/-! PURE 32: what is ahead -/
theorem pr_due {I J : zM} {o np nt B t D : Nat} (hB : B ≤ 2 ^ 20) (hR : RO I o (J 1) np nt B) (ht : t < nt) (hD : D ≤ 99 * B + 90) : ∃ z f, f_X7_daysLateOn I (o + 39 + 7 * t) (nI D) = some z ∧ f_X7_feeOn I (o + 39 + 7 * t) (nI D) = some f ∧ ((z ≤ 0 ∧ f = 0 ∧ (f_X9_isOut J (nI t) = some 0 ∨ (f_X9_isOut J (nI t) = some 1 ∧ ∃ d, f_X9_t J (nI t) 4 = some (nI d) ∧ nI D ≤ nI d))) ∨ (¬ z ≤ 0 ∧ f_X9_isOut J (nI t) = some 1 ∧ f_X9_fee J (nI t) (nI D) = some f ∧ ∃ d, f_X9_t J (nI t) 4 = some (nI d) ∧ ¬ nI D ≤ nI d)) := by
  have hnt := hR.1.2.1
  obtain ⟨v0, v1, g0, -, -, -, g9, z1, -, -, -, z5, z6⟩ := RO_num hR ht
  rcases RO_out hR ht with ⟨-, -, -, -, b5, b6, b7⟩ | ⟨p, d, -, hd, -, -, -, b4, b5, b6, b7⟩
  · refine ⟨0, 0, ?_, ?_, Or.inl ⟨by decide, rfl, Or.inl b7⟩⟩
    · unfold f_X7_daysLateOn
      rw [b6, zb_s, if_pos rfl]
    · unfold f_X7_feeOn f_X7_daysLateOn
      rw [b6, zb_s, if_pos rfl, zb_s, zlet_s, Int32.zero_mul, z5, ← z6, b5]
      rfl
  · have t4 : f_X9_t J (nI t) 4 = some (nI d) := by rw [← b5]; exact sp_t J (t := t) (f := 4) (by omega)
    by_cases c : D ≤ d
    · have hz : (if nI D - nI d < 0 then (0 : Int32) else nI D - nI d) = 0 := by
        by_cases c2 : D < d
        · rw [if_pos (pk_sneg (by omega) c2)]
        · have : D = d := by omega
          subst this
          rw [pk_sub (Nat.le_refl D), Nat.sub_self]
          rfl
      have hday : f_X7_daysLateOn I (o + 39 + 7 * t) (nI D) = some 0 := by
        unfold f_X7_daysLateOn
        rw [b6, zb_s, if_neg one0, b4, zlet_s, hz]
      refine ⟨0, 0, hday, ?_, Or.inl ⟨by decide, rfl, Or.inr ⟨b7, d, t4, nI_le c (by omega)⟩⟩⟩
      unfold f_X7_feeOn
      rw [hday, zb_s, zlet_s, Int32.zero_mul, z5, if_neg (nI_pos (by omega))]
    · obtain ⟨f, f1, f2⟩ := pr_fee hR ht (nI D) b6 (b4.trans b5.symm)
      refine ⟨nI (D - d), f, ?_, f1, Or.inr ⟨nI_nle (by omega) (by omega), b7, f2, d, t4, nI_ge (by omega) (by omega)⟩⟩
      unfold f_X7_daysLateOn
      rw [b6, zb_s, if_neg one0, b4, pk_sub (by omega), if_neg (nI_pos (by omega)), zlet_s]
theorem l_ahead {I J : zM} {np nt B D : Nat} (hB : B ≤ 2 ^ 20) (hR : RO I 1 (J 1) np nt B) (hD : D ≤ 99 * B + 90) {n w : Int32} (hn : J 1 1082 + n = nI D) (K : Int32 → Int32 → Option Int32) : ∀ (d y f1 f2 fJ : Nat) (a b : Int32), nt = y + d → d < f1 → d < f2 → d < fJ → ∃ r s, f_X6_toolsDueBefore_l4 I (nI D) f1 a (nI y) = some r ∧ f_X6_feesOn_l4 I (nI D) f2 b (nI y) = some s ∧ f_X9_ahead_l29 J n w K fJ a b (nI y) = K r s := by
  obtain ⟨hnp, hnt, h5, hA5, h6, hA6, -⟩ := hR.1
  intro d
  induction d with
  | zero =>
    intro y f1 f2 fJ a b hd hf1 hf2 hfJ
    obtain ⟨m1, rfl⟩ : ∃ m, f1 = m + 1 := ⟨f1 - 1, by omega⟩
    obtain ⟨m2, rfl⟩ : ∃ m, f2 = m + 1 := ⟨f2 - 1, by omega⟩
    obtain ⟨m3, rfl⟩ : ∃ m, fJ = m + 1 := ⟨fJ - 1, by omega⟩
    refine ⟨a, b, ?_, ?_, ?_⟩
    · rw [f_X6_toolsDueBefore_l4, h6, if_pos (nI_le (by omega) (by omega))]
    · rw [f_X6_feesOn_l4, h6, if_pos (nI_le (by omega) (by omega))]
    · rw [f_X9_ahead_l29, hA6, if_pos (nI_le (by omega) (by omega))]
  | succ d ih =>
    intro y f1 f2 fJ a b hd hf1 hf2 hfJ
    obtain ⟨m1, rfl⟩ : ∃ m, f1 = m + 1 := ⟨f1 - 1, by omega⟩
    obtain ⟨m2, rfl⟩ : ∃ m, f2 = m + 1 := ⟨f2 - 1, by omega⟩
    obtain ⟨m3, rfl⟩ : ∃ m, fJ = m + 1 := ⟨fJ - 1, by omega⟩
    obtain ⟨z, f, e1, e2, h⟩ := pr_due hB hR (show y < nt by omega) hD
    have L1 : f_X6_toolsDueBefore_l4 I (nI D) (m1 + 1) a (nI y) = if z ≤ 0 then f_X6_toolsDueBefore_l4 I (nI D) m1 a (nI (y + 1)) else f_X6_toolsDueBefore_l4 I (nI D) m1 (a + 1) (nI (y + 1)) := by
      rw [f_X6_toolsDueBefore_l4, h6, if_neg (nI_ge (by omega) (by omega)), sp_toolAt I 1 (by omega), zb_s, e1, zb_s, nI_1]
    have L2 : f_X6_feesOn_l4 I (nI D) (m2 + 1) b (nI y) = f_X6_feesOn_l4 I (nI D) m2 (b + f) (nI (y + 1)) := by
      rw [f_X6_feesOn_l4, h6, if_neg (nI_ge (by omega) (by omega)), sp_toolAt I 1 (by omega), zb_s, e2, zb_s, zlet_s, nI_1]
    rcases h with ⟨k1, k2, k3⟩ | ⟨k1, k2, k3, dd, k4, k5⟩
    · have L3 : f_X9_ahead_l29 J n w K (m3 + 1) a b (nI y) = f_X9_ahead_l29 J n w K m3 a b (nI (y + 1)) := by
        rw [f_X9_ahead_l29, hA6, if_neg (nI_ge (by omega) (by omega))]
        rcases k3 with k3 | ⟨k3, dd, k4, k5⟩
        · rw [k3, zb_s, if_pos rfl, nI_1]
        · rw [k3, zb_s, if_neg one0, k4, zb_s, hn, if_pos k5, nI_1]
      rw [L1, L2, L3, if_pos k1, k2, a0]
      exact ih (y + 1) m1 m2 m3 a b (by omega) (by omega) (by omega) (by omega)
    · have L3 : f_X9_ahead_l29 J n w K (m3 + 1) a b (nI y) = f_X9_ahead_l29 J n w K m3 (a + 1) (b + f) (nI (y + 1)) := by
        rw [f_X9_ahead_l29, hA6, if_neg (nI_ge (by omega) (by omega)), k2, zb_s, if_neg one0, k4, zb_s, hn, if_neg k5, k3, zb_s, zlet_s, nI_1]
      rw [L1, L2, L3, if_neg k1]
      exact ih (y + 1) m1 m2 m3 (a + 1) (b + f) (by omega) (by omega) (by omega) (by omega)
