/-! PURE 26: what is asked: ranks, counts of persons and tools -/
theorem q_three {I J : zM} {P : Nat} {v : Int32} (h : I P 0 = v) : ∃ z, f_X3_nameAsThreeLetters I P = some z ∧ f_X9_spread J v = some z := by
  unfold f_X3_nameAsThreeLetters f_X9_spread
  rw [h]
  by_cases c : 27 ≤ v
  · rw [if_pos c, if_pos c]
    by_cases c2 : 729 ≤ v
    · rw [if_pos c2]
      exact ⟨_, rfl, rfl⟩
    · rw [if_neg c2]
      exact ⟨_, rfl, rfl⟩
  · rw [if_neg c, if_neg c, show v * 27 * 27 = v * 729 from by rw [Int32.mul_assoc, show (27 : Int32) * 27 = 729 by decide]]
    exact ⟨_, rfl, rfl⟩
theorem q_goes {I J : zM} {o np nt B p q : Nat} (hR : RO I o (J 1) np nt B) (hp : p < np) (hq : q < np) : ∃ r, f_X3_goesAheadOf I (o + 15 + 2 * p) (o + 15 + 2 * q) = some r ∧ f_X9_isAhead J (nI p) (nI q) = some r ∧ (p = q → r = 0) := by
  have hnp := hR.1.1
  have a0 := (hR.2.1 p hp).1 0 (by decide)
  have a2 := (hR.2.1 p hp).1 2 (by decide)
  have a3 := (hR.2.1 p hp).1 3 (by decide)
  have b0 := (hR.2.1 q hq).1 0 (by decide)
  have b2 := (hR.2.1 q hq).1 2 (by decide)
  have b3 := (hR.2.1 q hq).1 3 (by decide)
  have r0 : f_X9_p J (nI p) 0 = some (J 1 (p * 15 + 0)) := sp_p J (q := p) (f := 0) (by omega)
  have r2 : f_X9_p J (nI p) 2 = some (J 1 (p * 15 + 2)) := sp_p J (q := p) (f := 2) (by omega)
  have r3 : f_X9_p J (nI p) 3 = some (J 1 (p * 15 + 3)) := sp_p J (q := p) (f := 3) (by omega)
  have s0 : f_X9_p J (nI q) 0 = some (J 1 (q * 15 + 0)) := sp_p J (q := q) (f := 0) (by omega)
  have s2 : f_X9_p J (nI q) 2 = some (J 1 (q * 15 + 2)) := sp_p J (q := q) (f := 2) (by omega)
  have s3 : f_X9_p J (nI q) 3 = some (J 1 (q * 15 + 3)) := sp_p J (q := q) (f := 3) (by omega)
  obtain ⟨z1, m1, n1⟩ := q_three (J := J) a0
  obtain ⟨z2, m2, n2⟩ := q_three (J := J) b0
  unfold f_X3_goesAheadOf f_X9_isAhead
  simp only [r0, r2, r3, s0, s2, s3, zb_s, n1, n2, m1, m2, a2, a3, b2, b3]
  by_cases c1 : J 1 (p * 15 + 2) = J 1 (q * 15 + 2)
  · rw [if_pos c1]
    by_cases c2 : J 1 (p * 15 + 3) = J 1 (q * 15 + 3)
    · rw [if_pos c2]
      by_cases c3 : z2 ≤ z1
      · rw [if_pos c3]
        exact ⟨0, rfl, rfl, fun _ => rfl⟩
      · rw [if_neg c3]
        refine ⟨1, rfl, rfl, fun e => ?_⟩
        subst e
        rw [n1] at n2
        cases n2
        exact absurd (Int32.le_refl z1) c3
    · rw [if_neg c2]
      split
      · exact ⟨0, rfl, rfl, fun _ => rfl⟩
      · exact ⟨1, rfl, rfl, fun e => absurd (by rw [e]) c2⟩
  · rw [if_neg c1]
    split
    · exact ⟨0, rfl, rfl, fun _ => rfl⟩
    · exact ⟨1, rfl, rfl, fun e => absurd (by rw [e]) c1⟩
theorem l_rank {I J : zM} {o np nt B q : Nat} (hR : RO I o (J 1) np nt B) (hq : q < np) : ∀ (d y fI fJ a : Nat), np = y + d → d < fI → d < fJ → ∃ r, f_X2_placeInRank_l4 I o (nI q) fI (nI a) (nI y) = some r ∧ f_X9_rankOf_l4 J (nI q) fJ (nI a) (nI y) = some r := by
  have hnp := hR.1.1
  have h5 := hR.1.2.2.1
  have hA := hR.1.2.2.2.1
  have z0 : ∀ z, nI z + 0 = nI z := fun z => nI_add z 0
  intro d
  induction d with
  | zero =>
    intro y fI fJ a hd hfI hfJ
    obtain ⟨m, rfl⟩ : ∃ m, fI = m + 1 := ⟨fI - 1, by omega⟩
    obtain ⟨m', rfl⟩ : ∃ m, fJ = m + 1 := ⟨fJ - 1, by omega⟩
    rw [f_X2_placeInRank_l4, f_X9_rankOf_l4, h5, hA, if_pos (nI_le (by omega) (by omega)), if_pos (nI_le (by omega) (by omega))]
    exact ⟨_, rfl, rfl⟩
  | succ d ih =>
    intro y fI fJ a hd hfI hfJ
    obtain ⟨m, rfl⟩ : ∃ m, fI = m + 1 := ⟨fI - 1, by omega⟩
    obtain ⟨m', rfl⟩ : ∃ m, fJ = m + 1 := ⟨fJ - 1, by omega⟩
    obtain ⟨r, r1, r2, r3⟩ := q_goes hR (show y < np by omega) hq
    rw [f_X2_placeInRank_l4, f_X9_rankOf_l4, h5, hA, if_neg (nI_ge (by omega) (by omega)), if_neg (nI_ge (by omega) (by omega)), sp_personAt I o (by omega), zb_s, sp_personAt I o (by omega), zb_s, r1, zb_s, nI_1, nI_1]
    by_cases e : y = q
    · subst e
      rw [if_pos (r3 rfl), if_pos rfl, zlet_s, z0]
      exact ih (y + 1) m m' a (by omega) (by omega) (by omega)
    · rw [if_neg (show ¬ nI y = nI q from fun h => e ((nI_eq (by omega) (by omega)).mp h)), r2, zb_s, zlet_s, zlet_s, z0]
      by_cases c : r = 0
      · rw [if_pos c, if_pos c]
        exact ih (y + 1) m m' a (by omega) (by omega) (by omega)
      · rw [if_neg c, if_neg c]
        exact ih (y + 1) m m' (a + 1) (by omega) (by omega) (by omega)
theorem q_rank {I J : zM} {o np nt B q : Nat} (hR : RO I o (J 1) np nt B) (hq : q < np) : ∃ r, f_X2_placeInRank I o (nI q) = some r ∧ f_X9_rankOf J (nI q) = some r := by
  have hz := zFu_big
  have hnp := hR.1.1
  exact l_rank hR hq np 0 zFu zFu 0 (by omega) (by omega) (by omega)
theorem l_ranked {I J : zM} {o np nt B : Nat} (hR : RO I o (J 1) np nt B) (k : Int32) : ∀ (d y fI fJ : Nat), np = y + d → d < fI → d < fJ → ∃ r, f_X2_personAtRank_l2 I o k fI (nI y) = some r ∧ f_X9_rankedAt_l2 J k fJ (nI y) = some r := by
  have hnp := hR.1.1
  have h5 := hR.1.2.2.1
  have hA := hR.1.2.2.2.1
  intro d
  induction d with
  | zero =>
    intro y fI fJ hd hfI hfJ
    obtain ⟨m, rfl⟩ : ∃ m, fI = m + 1 := ⟨fI - 1, by omega⟩
    obtain ⟨m', rfl⟩ : ∃ m, fJ = m + 1 := ⟨fJ - 1, by omega⟩
    rw [f_X2_personAtRank_l2, f_X9_rankedAt_l2, h5, hA, if_pos (nI_le (by omega) (by omega)), if_pos (nI_le (by omega) (by omega))]
    exact ⟨_, rfl, rfl⟩
  | succ d ih =>
    intro y fI fJ hd hfI hfJ
    obtain ⟨m, rfl⟩ : ∃ m, fI = m + 1 := ⟨fI - 1, by omega⟩
    obtain ⟨m', rfl⟩ : ∃ m, fJ = m + 1 := ⟨fJ - 1, by omega⟩
    obtain ⟨r, r1, r2⟩ := q_rank hR (show y < np by omega)
    rw [f_X2_personAtRank_l2, f_X9_rankedAt_l2, h5, hA, if_neg (nI_ge (by omega) (by omega)), if_neg (nI_ge (by omega) (by omega)), r1, zb_s, r2, zb_s, nI_1]
    by_cases e : r = k
    · rw [if_pos e, if_pos e]
      exact ⟨_, rfl, rfl⟩
    · rw [if_neg e, if_neg e]
      exact ih (y + 1) m m' (by omega) (by omega) (by omega)
theorem q_ranked {I J : zM} {np nt B : Nat} (hR : RO I 1 (J 1) np nt B) (k : Int32) : Ask (f_X8_ranked I k) (f_X9_ranked J k) := by
  have hz := zFu_big
  have hnp := hR.1.1
  unfold f_X8_ranked f_X9_ranked
  by_cases c : 0 ≤ k
  · rw [if_pos c, if_pos c, zb_eta1, zb_eta1]
    exact l_ranked hR k np 0 zFu zFu (by omega) (by omega) (by omega)
  · rw [if_neg c, if_neg c]
    exact ⟨-1, rfl, rfl⟩
