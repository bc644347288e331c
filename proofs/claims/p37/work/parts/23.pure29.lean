/-! PURE 29: what is asked: a tool -/
theorem q_toolOf {I J : zM} {np nt B : Nat} (hR : RO I 1 (J 1) np nt B) (x w : Int32) : Ask (f_X8_toolOf I x w) (f_X9_toolOf J x w) := by
  obtain ⟨c1, c2, c3, c4, c5, c6, -⟩ := hR.1
  unfold f_X8_toolOf f_X9_toolOf
  rcases pr_isTool c5 c6 c2 x with ⟨e1, e2⟩ | ⟨u, hu, rfl, e1, e2⟩
  · rw [e1, e2]
    exact ⟨-1, rfl, rfl⟩
  · rw [e1, e2, zb_s, zb_s, if_neg one0, if_neg one0, sp_toolAt I 1 (by omega), zb_s, in_e]
    have no : ∀ k : Int32, (w < 0 ∨ ¬ w ≤ 8) → (0 ≤ k ∧ k ≤ 8) → ¬ w = k := fun k h hk e => by
      subst e
      rcases h with h | h
      · exact absurd hk.1 (Int32.not_le.mpr h)
      · exact h hk.2
    by_cases g : w < 0 ∨ ¬ w ≤ 8
    · rw [if_neg (no 0 g (by decide)), if_neg (no 1 g (by decide)), if_neg (no 2 g (by decide)), if_neg (no 3 g (by decide)), if_neg (no 4 g (by decide)), if_neg (no 5 g (by decide)), if_neg (no 6 g (by decide)), if_neg (no 7 g (by decide)), if_neg (no 8 g (by decide))]
      by_cases g1 : w < 0
      · rw [if_pos g1, zb_s, if_pos rfl]
        exact ⟨-1, rfl, rfl⟩
      · rw [if_neg g1]
        rcases g with g | g
        · exact absurd g g1
        · rw [if_neg g, zb_s, if_pos rfl]
          exact ⟨-1, rfl, rfl⟩
    · have g1 : ¬ w < 0 := fun h => g (Or.inl h)
      have g2 : w ≤ 8 := Classical.byContradiction (fun h => g (Or.inr h))
      obtain ⟨k, hk, rfl⟩ := nI_of2 (M := 8) (n := 8) (by decide) g1 g2
      rw [if_neg g1, if_pos g2, zb_s, if_neg one0]
      have rt : ∀ f, f < 90 → f_X9_t J (nI u) (nI f) = some (J 1 (180 + u * 90 + f)) := fun f hf => sp_t J (by omega)
      have r57 : f_X9_t J (nI u) 57 = some (J 1 (180 + u * 90 + 57)) := rt 57 (by decide)
      have r6 : f_X9_t J (nI u) 6 = some (J 1 (180 + u * 90 + 6)) := rt 6 (by decide)
      have r32 : f_X9_t J (nI u) 32 = some (J 1 (180 + u * 90 + 32)) := rt 32 (by decide)
      obtain ⟨v0, v1, v2, -, -, -, -, z1, z2, z3, z4, z5, z6⟩ := RO_num hR hu
      have ho := RO_out hR hu
      obtain ⟨e, n, m, L, S, -, hl, hk2, hc⟩ := hR.2.2 u hu
      rcases (show k = 0 ∨ k = 1 ∨ k = 2 ∨ k = 3 ∨ k = 4 ∨ k = 5 ∨ k = 6 ∨ k = 7 ∨ k = 8 by omega) with rfl | rfl | rfl | rfl | rfl | rfl | rfl | rfl | rfl
      · rw [if_pos (by decide), if_neg (by decide), if_neg (by decide), if_neg (by decide), if_neg (by decide), if_neg (by decide), if_neg (by decide), rt 0 (by decide), zb_s, z1, z2]
        exact ⟨_, rfl, rfl⟩
      · rw [if_neg (by decide), if_pos (by decide), if_neg (by decide), if_neg (by decide), if_neg (by decide), if_neg (by decide), if_neg (by decide), if_neg (by decide), rt 1 (by decide), zb_s, z3, z4]
        exact ⟨_, rfl, rfl⟩
      · rw [if_neg (by decide), if_neg (by decide), if_pos (by decide), if_pos (by decide)]
        rcases ho with ⟨b1, b2, b3, b4, b5, b6, b7⟩ | ⟨p, d, -, -, b1, b2, b3, b4, b5, b6, b7⟩
        · rw [b7, zb_s, if_pos rfl, b1]
          exact ⟨-2, rfl, rfl⟩
        · rw [b7, zb_s, if_neg one0, rt 2 (by decide), zb_s, b1, b2]
          exact ⟨_, rfl, rfl⟩
      · rw [if_neg (by decide), if_neg (by decide), if_neg (by decide), if_pos (by decide), if_neg (by decide), if_pos (by decide)]
        rcases ho with ⟨b1, b2, b3, b4, b5, b6, b7⟩ | ⟨p, d, -, -, b1, b2, b3, b4, b5, b6, b7⟩
        · rw [b7, zb_s, if_pos rfl, b3]
          exact ⟨-2, rfl, rfl⟩
        · rw [b7, zb_s, if_neg one0, rt 3 (by decide), zb_s, b3]
          exact ⟨_, rfl, rfl⟩
      · rw [if_neg (by decide), if_neg (by decide), if_neg (by decide), if_neg (by decide), if_pos (by decide), if_neg (by decide), if_neg (by decide), if_pos (by decide)]
        rcases ho with ⟨b1, b2, b3, b4, b5, b6, b7⟩ | ⟨p, d, -, -, b1, b2, b3, b4, b5, b6, b7⟩
        · rw [b7, zb_s, if_pos rfl, b4]
          exact ⟨-2, rfl, rfl⟩
        · rw [b7, zb_s, if_neg one0, rt 4 (by decide), zb_s, b4, b5]
          exact ⟨_, rfl, rfl⟩
      · rw [if_neg (by decide), if_neg (by decide), if_neg (by decide), if_neg (by decide), if_neg (by decide), if_pos (by decide), if_neg (by decide), if_neg (by decide), if_neg (by decide), if_neg (by decide), if_neg (by decide), if_neg (by decide), rt 5 (by decide), zb_s, z5, z6]
        exact ⟨_, rfl, rfl⟩
      · rw [if_neg (by decide), if_neg (by decide), if_neg (by decide), if_neg (by decide), if_neg (by decide), if_neg (by decide), if_pos (by decide), if_neg (by decide), if_neg (by decide), if_neg (by decide), if_pos (by decide), zb_eta1, zb_eta1, sp_size hc.1, r57, hc.2.1]
        exact ⟨_, rfl, rfl⟩
      · rw [if_neg (by decide), if_neg (by decide), if_neg (by decide), if_neg (by decide), if_neg (by decide), if_neg (by decide), if_neg (by decide), if_pos (by decide), if_neg (by decide), if_neg (by decide), if_neg (by decide), if_neg (by decide), if_pos (by decide), zb_eta1, zb_eta1, sp_size hl.1, r6, hl.2.1]
        exact ⟨_, rfl, rfl⟩
      · rw [if_neg (by decide), if_neg (by decide), if_neg (by decide), if_neg (by decide), if_neg (by decide), if_neg (by decide), if_neg (by decide), if_neg (by decide), if_pos (by decide), if_neg (by decide), if_neg (by decide), if_neg (by decide), if_neg (by decide), if_neg (by decide), if_pos (by decide), zb_eta1, zb_eta1, sp_size hk2.1, r32, hk2.2.2.1]
        exact ⟨_, rfl, rfl⟩
