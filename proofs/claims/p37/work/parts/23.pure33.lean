/-! PURE 33: ahead, whole -/
theorem q_ahead {I J : zM} {np nt B : Nat} (hB : B ≤ 2 ^ 20) (hR : RO I 1 (J 1) np nt B) (n w : Int32) : Ask (f_X8_ahead I n w) (f_X9_ahead J n w) := by
  have hz := zFu_big
  have hnt := hR.1.2.1
  obtain ⟨d, hd, d1, d2⟩ := hR.1.2.2.2.2.2.2.1
  unfold f_X8_ahead f_X9_ahead
  rw [in_e, in_e]
  by_cases c1 : n < 0
  · rw [if_pos c1, if_pos c1, zb_s, if_pos rfl]
    exact ⟨-1, rfl, rfl⟩
  · rw [if_neg c1, if_neg c1]
    by_cases c2 : n ≤ 60
    · obtain ⟨k, hk, rfl⟩ := nI_of2 (M := 60) (n := 60) (by decide) c1 c2
      rw [if_pos c2, if_pos c2, zb_s, if_neg one0, d1, nI_add]
      have hn : J 1 1082 + nI k = nI (d + k) := by rw [d2, nI_add]
      obtain ⟨r, s, r1, r2, r3⟩ := l_ahead (w := w) hB hR (D := d + k) (by omega) hn (fun z12 z13 => if w = 0 then some z12 else some z13) nt 0 zFu zFu zFu 0 0 (by omega) (by omega) (by omega) (by omega)
      have r1 : f_X6_toolsDueBefore_l4 I (nI (d + k)) zFu 0 0 = _ := r1
      have r2 : f_X6_feesOn_l4 I (nI (d + k)) zFu 0 0 = _ := r2
      have r3 : f_X9_ahead_l29 J (nI k) w _ zFu 0 0 0 = _ := r3
      unfold f_X6_toolsDueBefore f_X6_feesOn
      rw [r1, r2, r3, zb_s, zb_s]
      by_cases w0 : w = 0
      · subst w0
        rw [if_pos rfl, if_neg (show ¬ (0 : Int32) < 0 by decide), if_pos (show (0 : Int32) ≤ 1 by decide), zb_s, if_neg one0]
        exact ⟨r, rfl, rfl⟩
      · rw [if_neg w0]
        by_cases w1 : w = 1
        · subst w1
          rw [if_pos rfl, if_neg (show ¬ (1 : Int32) < 0 by decide), if_pos (show (1 : Int32) ≤ 1 by decide), zb_s, if_neg one0, if_neg one0]
          exact ⟨s, rfl, rfl⟩
        · rw [if_neg w1]
          by_cases g1 : w < 0
          · rw [if_pos g1, zb_s, if_pos rfl]
            exact ⟨-1, rfl, rfl⟩
          · rw [if_neg g1]
            by_cases g2 : w ≤ 1
            · obtain ⟨j, hj, rfl⟩ := nI_of2 (M := 1) (n := 1) (by decide) g1 g2
              rcases (show j = 0 ∨ j = 1 by omega) with rfl | rfl
              · exact absurd rfl w0
              · exact absurd rfl w1
            · rw [if_neg g2, zb_s, if_pos rfl]
              exact ⟨-1, rfl, rfl⟩
    · rw [if_neg c2, if_neg c2, zb_s, if_pos rfl]
      exact ⟨-1, rfl, rfl⟩
