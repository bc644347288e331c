/-! PURE 28: what is asked: a person, a tool -/
theorem l_claimsOf {I J : zM} {np nt B : Nat} (hR : RO I 1 (J 1) np nt B) {q : Nat} (hq : q < 12) : ∀ (d y fI fJ : Nat) (a : Int32), nt = y + d → d < fI → d < fJ → ∃ r, f_X2_claimsOf_l4 I 1 (nI q) fI a (nI y) = some r ∧ f_X9_claimsOf_l4 J (nI q) fJ a (nI y) = some r := by
  obtain ⟨hnp, hnt, h5, hA5, h6, hA6, -⟩ := hR.1
  intro d
  induction d with
  | zero =>
    intro y fI fJ a hd hfI hfJ
    obtain ⟨m, rfl⟩ : ∃ m, fI = m + 1 := ⟨fI - 1, by omega⟩
    obtain ⟨m', rfl⟩ : ∃ m, fJ = m + 1 := ⟨fJ - 1, by omega⟩
    rw [f_X2_claimsOf_l4, f_X9_claimsOf_l4, h6, hA6, if_pos (nI_le (by omega) (by omega)), if_pos (nI_le (by omega) (by omega))]
    exact ⟨_, rfl, rfl⟩
  | succ d ih =>
    intro y fI fJ a hd hfI hfJ
    obtain ⟨m, rfl⟩ : ∃ m, fI = m + 1 := ⟨fI - 1, by omega⟩
    obtain ⟨m', rfl⟩ : ∃ m, fJ = m + 1 := ⟨fJ - 1, by omega⟩
    obtain ⟨e, n, m0, L, S, -, -, -, hc⟩ := hR.2.2 y (by omega)
    have h8 : L.length ≤ 8 := hc.1.2.2.2.1
    have hpl := hc.2.2.2.2.1.length_eq
    rw [f_X2_claimsOf_l4, f_X9_claimsOf_l4, h6, hA6, if_neg (nI_ge (by omega) (by omega)), if_neg (nI_ge (by omega) (by omega)), sp_toolAt I 1 (show y < 10 by omega), zb_s]
    rcases pr_claimOn (show y < 10 by omega) hc hnp hq with ⟨i, j, c, k1, k2, k3, k4, k5⟩ | ⟨-, k4, k5⟩
    · have hil := (List.getElem?_eq_some_iff.mp k1).1
      have hjl := (List.getElem?_eq_some_iff.mp k2).1
      rw [k4, k5, zb_s, zb_s, if_neg (nI_pos (by omega)), if_neg (nI_pos (by omega)), zlet_s, nI_1]
      exact ih (y + 1) m m' _ (by omega) (by omega) (by omega)
    · rw [k4, k5, zb_s, zb_s, if_pos (show (-1 : Int32) < 0 by decide), if_pos (show (-2 : Int32) < 0 by decide), zlet_s, nI_1, a0]
      exact ih (y + 1) m m' _ (by omega) (by omega) (by omega)
theorem q_personOf {I J : zM} {np nt B : Nat} (hR : RO I 1 (J 1) np nt B) (x w : Int32) : Ask (f_X8_personOf I x w) (f_X9_personOf J x w) := by
  have hz := zFu_big
  obtain ⟨c1, c2, c3, c4, c5, c6, -⟩ := hR.1
  unfold f_X8_personOf f_X9_personOf
  rcases pr_isPerson c3 c4 c1 x with ⟨e1, e2⟩ | ⟨q, hq, rfl, e1, e2⟩
  · rw [e1, e2]
    exact ⟨-1, rfl, rfl⟩
  · rw [e1, e2, zb_s, zb_s, if_neg one0, if_neg one0, sp_personAt I 1 (by omega), zb_s, in_e]
    have no : ∀ k : Int32, (w < 0 ∨ ¬ w ≤ 7) → (0 ≤ k ∧ k ≤ 7) → ¬ w = k := fun k h hk e => by
      subst e
      rcases h with h | h
      · exact absurd hk.1 (Int32.not_le.mpr h)
      · exact h hk.2
    by_cases g : w < 0 ∨ ¬ w ≤ 7
    · rw [if_neg (no 0 g (by decide)), if_neg (no 1 g (by decide)), if_neg (no 2 g (by decide)), if_neg (no 3 g (by decide)), if_neg (no 4 g (by decide)), if_neg (no 5 g (by decide)), if_neg (no 6 g (by decide)), if_neg (no 7 g (by decide))]
      by_cases g1 : w < 0
      · rw [if_pos g1, zb_s, if_pos rfl]
        exact ⟨-1, rfl, rfl⟩
      · rw [if_neg g1]
        rcases g with g | g
        · exact absurd g g1
        · rw [if_neg g, zb_s, if_pos rfl]
          exact ⟨-1, rfl, rfl⟩
    · have g1 : ¬ w < 0 := fun h => g (Or.inl h)
      have g2 : w ≤ 7 := Classical.byContradiction (fun h => g (Or.inr h))
      obtain ⟨k, hk, rfl⟩ := nI_of2 (M := 7) (n := 7) (by decide) g1 g2
      have hp := (hR.2.1 q hq).1
      have rp : ∀ f, f < 5 → f_X9_p J (nI q) (nI f) = some (I (1 + 15 + 2 * q) f) := fun f hf => by rw [hp f hf]; exact sp_p J (by omega)
      rw [if_neg g1, if_pos g2, zb_s, if_neg one0]
      rcases (show k = 0 ∨ k = 1 ∨ k = 2 ∨ k = 3 ∨ k = 4 ∨ k = 5 ∨ k = 6 ∨ k = 7 by omega) with rfl | rfl | rfl | rfl | rfl | rfl | rfl | rfl
      · rw [if_pos (by decide), if_neg (by decide), rp 0 (by decide), zb_s]
        exact ⟨_, rfl, rfl⟩
      · rw [if_neg (by decide), if_pos (by decide), if_neg (by decide), rp 1 (by decide), zb_s]
        exact ⟨_, rfl, rfl⟩
      · rw [if_neg (by decide), if_neg (by decide), if_pos (by decide), if_neg (by decide), rp 2 (by decide), zb_s]
        exact ⟨_, rfl, rfl⟩
      · rw [if_neg (by decide), if_neg (by decide), if_neg (by decide), if_pos (by decide), if_neg (by decide), rp 3 (by decide), zb_s]
        exact ⟨_, rfl, rfl⟩
      · rw [if_neg (by decide), if_neg (by decide), if_neg (by decide), if_neg (by decide), if_pos (by decide), if_neg (by decide), rp 4 (by decide), zb_s]
        exact ⟨_, rfl, rfl⟩
      · rw [if_neg (by decide), if_neg (by decide), if_neg (by decide), if_neg (by decide), if_neg (by decide), if_pos (by decide), if_pos (by decide), if_pos (by decide), zb_eta1, zb_eta1]
        exact q_toolsOf hR (by omega)
      · rw [if_neg (by decide), if_neg (by decide), if_neg (by decide), if_neg (by decide), if_neg (by decide), if_neg (by decide), if_pos (by decide), if_pos (by decide), if_neg (by decide), if_pos (by decide), zb_eta1, zb_eta1]
        exact q_rank hR hq
      · rw [if_neg (by decide), if_neg (by decide), if_neg (by decide), if_neg (by decide), if_neg (by decide), if_neg (by decide), if_neg (by decide), if_pos (by decide), if_pos (by decide), if_neg (by decide), if_neg (by decide), zb_eta1, zb_eta1]
        exact l_claimsOf hR (by omega) nt 0 zFu zFu 0 (by omega) (by omega) (by omega)
