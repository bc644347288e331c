/-! PURE 25: what is asked: links, looks, claims, ranks -/
def Ask (fI fJ : Option Int32) : Prop := ∃ r, fI = some r ∧ fJ = some r
theorem zb_eta1 {f : Option Int32} : zb f (fun q => some q) = f := by
  cases f with
  | none => rfl
  | some q => rfl
theorem q_entry {I : zM} {h R w n l : Nat} (hT : TB I h R w n) (hl : l < w) (x2 x3 : Int32) : ((x2 < 0 ∨ (¬ x2 < 0 ∧ (x3 < 0 ∨ ¬ x3 ≤ nI l))) ∧ f_X8_entryOf I h x2 x3 (nI l) = some (-1)) ∨ ∃ i j, i < 2 ^ 31 ∧ x2 = nI i ∧ x3 = nI j ∧ j ≤ l ∧ ((n ≤ i ∧ f_X8_entryOf I h x2 x3 (nI l) = some (-2)) ∨ (i < n ∧ f_X8_entryOf I h x2 x3 (nI l) = some (I (h + 1) (i * w + j)))) := by
  have hw5 := hT.2.2.2.2.2.2.2.1
  have hnR := hT.2.2.2.1
  have hR := hT.2.2.2.2.2.1
  unfold f_X8_entryOf
  by_cases c1 : x2 < 0
  · rw [if_pos c1]
    exact Or.inl ⟨Or.inl c1, rfl⟩
  · rw [if_neg c1]
    by_cases c2 : x3 < 0
    · rw [if_pos c2]
      exact Or.inl ⟨Or.inr ⟨c1, Or.inl c2⟩, rfl⟩
    · rw [if_neg c2]
      by_cases c3 : x3 ≤ nI l
      · obtain ⟨i, hi, rfl⟩ := nI_of c1
        obtain ⟨j, hj, rfl⟩ := nI_of c2
        have hjl : j ≤ l := (nI_leI hj (by omega)).mp c3
        rw [if_pos c3, sp_size hT, zb_s]
        refine Or.inr ⟨i, j, hi, rfl, rfl, hjl, ?_⟩
        by_cases c4 : n ≤ i
        · rw [if_pos (nI_le c4 hi)]
          exact Or.inl ⟨c4, rfl⟩
        · rw [if_neg (nI_ge (by omega) (by omega)), sp_cell hT (by omega) (by omega), zb_s]
          exact Or.inr ⟨by omega, rfl⟩
      · rw [if_neg c3]
        exact Or.inl ⟨Or.inr ⟨c1, Or.inr c3⟩, rfl⟩
theorem in_bad {J : zM} {x l : Int32} (h : x < 0 ∨ ¬ x ≤ l) : f_X9_in J x 0 l = some 0 := by
  rw [in_e]
  by_cases c : x < 0
  · rw [if_pos c]
  · rw [if_neg c]
    rcases h with h | h
    · exact absurd h c
    · rw [if_neg h]
theorem in_good {J : zM} {j l : Nat} (h : j ≤ l) (hl : l < 2 ^ 31) : f_X9_in J (nI j) 0 (nI l) = some 1 := by
  rw [in_e, if_neg (nI_pos (by omega)), if_pos (nI_le h hl)]
theorem q_link {I J : zM} {np nt B : Nat} (hR : RO I 1 (J 1) np nt B) (x1 x2 x3 : Int32) : Ask (f_X8_link I x1 x2 x3) (f_X9_link J x1 x2 x3) := by
  obtain ⟨c1, c2, c3, c4, c5, c6, -⟩ := hR.1
  unfold f_X8_link f_X9_link
  rcases pr_isTool c5 c6 c2 x1 with ⟨e1, e2⟩ | ⟨u, hu, rfl, e1, e2⟩
  · rw [e1, e2]
    exact ⟨-1, rfl, rfl⟩
  · obtain ⟨e, n, m, L, S, -, hl, -, -⟩ := hR.2.2 u hu
    have hn8 : n ≤ 8 := hl.1.2.2.2.1
    rw [e1, e2, zb_s, zb_s, if_neg one0, if_neg one0, sp_toolAt I 1 (by omega), zb_s, zb_eta1]
    have q6 : f_X9_t J (nI u) 6 = some (nI n) := by rw [← hl.2.1]; exact sp_t J (t := u) (f := 6) (by omega)
    rcases q_entry hl.1 (l := 2) (by decide) x2 x3 with ⟨h, he⟩ | ⟨i, j, hi, rfl, rfl, hj, h⟩
    · have he : f_X8_entryOf I (1 + 39 + 7 * u + 1) x2 x3 2 = some (-1) := he
      rw [he]
      rcases h with h | ⟨h1, h2⟩
      · rw [if_pos h]
        exact ⟨-1, rfl, rfl⟩
      · rw [if_neg h1, show f_X9_in J x3 0 2 = some 0 from in_bad h2, zb_s, if_pos rfl]
        exact ⟨-1, rfl, rfl⟩
    · rw [if_neg (nI_pos hi), show f_X9_in J (nI j) 0 2 = some 1 from in_good (l := 2) hj (by decide), zb_s, if_neg one0, q6, zb_s]
      rcases h with ⟨h1, he⟩ | ⟨h1, he⟩
      · have he : f_X8_entryOf I (1 + 39 + 7 * u + 1) (nI i) (nI j) 2 = some (-2) := he
        rw [he, if_pos (nI_le h1 hi)]
        exact ⟨-2, rfl, rfl⟩
      · have he : f_X8_entryOf I (1 + 39 + 7 * u + 1) (nI i) (nI j) 2 = _ := he
        rw [he, if_neg (nI_ge h1 (by omega)), show (8 : Int32) + 3 * nI i + nI j = nI (8 + 3 * i + j) from by rw [show (3 : Int32) = nI 3 from rfl, show (8 : Int32) = nI 8 from rfl, pk_mul, nI_add, nI_add], sp_t J (by omega), zb_s, hl.2.2.1 i j h1 (by omega)]
        exact ⟨_, rfl, rfl⟩
theorem q_seen {I J : zM} {np nt B : Nat} (hR : RO I 1 (J 1) np nt B) (x1 x2 x3 : Int32) : Ask (f_X8_seen I x1 x2 x3) (f_X9_seen J x1 x2 x3) := by
  obtain ⟨c1, c2, c3, c4, c5, c6, -⟩ := hR.1
  unfold f_X8_seen f_X9_seen
  rcases pr_isTool c5 c6 c2 x1 with ⟨e1, e2⟩ | ⟨u, hu, rfl, e1, e2⟩
  · rw [e1, e2]
    exact ⟨-1, rfl, rfl⟩
  · obtain ⟨e, n, m, L, S, -, -, hk, -⟩ := hR.2.2 u hu
    have hn8 : m ≤ 6 := hk.1.2.2.2.1
    rw [e1, e2, zb_s, zb_s, if_neg one0, if_neg one0, sp_toolAt I 1 (by omega), zb_s, zb_eta1]
    have q6 : f_X9_t J (nI u) 32 = some (nI m) := by rw [← hk.2.2.1]; exact sp_t J (t := u) (f := 32) (by omega)
    rcases q_entry hk.1 (l := 1) (by decide) x2 x3 with ⟨h, he⟩ | ⟨i, j, hi, rfl, rfl, hj, h⟩
    · have he : f_X8_entryOf I (1 + 39 + 7 * u + 3) x2 x3 1 = some (-1) := he
      rw [he]
      rcases h with h | ⟨h1, h2⟩
      · rw [if_pos h]
        exact ⟨-1, rfl, rfl⟩
      · rw [if_neg h1, show f_X9_in J x3 0 1 = some 0 from in_bad h2, zb_s, if_pos rfl]
        exact ⟨-1, rfl, rfl⟩
    · rw [if_neg (nI_pos hi), show f_X9_in J (nI j) 0 1 = some 1 from in_good (l := 1) hj (by decide), zb_s, if_neg one0, q6, zb_s]
      rcases h with ⟨h1, he⟩ | ⟨h1, he⟩
      · have he : f_X8_entryOf I (1 + 39 + 7 * u + 3) (nI i) (nI j) 1 = some (-2) := he
        rw [he, if_pos (nI_le h1 hi)]
        exact ⟨-2, rfl, rfl⟩
      · have he : f_X8_entryOf I (1 + 39 + 7 * u + 3) (nI i) (nI j) 1 = _ := he
        rw [he, if_neg (nI_ge h1 (by omega)), show (33 : Int32) + 4 * nI i + nI j = nI (33 + 4 * i + j) from by rw [show (4 : Int32) = nI 4 from rfl, show (33 : Int32) = nI 33 from rfl, pk_mul, nI_add, nI_add], sp_t J (by omega), zb_s, hk.2.2.2.1 i j h1 (by omega)]
        exact ⟨_, rfl, rfl⟩
theorem q_claimOf {I J : zM} {np nt B : Nat} (hB : B ≤ 2 ^ 20) (hR : RO I 1 (J 1) np nt B) (x1 x2 x3 : Int32) : Ask (f_X8_claimOf I x1 x2 x3) (f_X9_claimOf J x1 x2 x3) := by
  obtain ⟨c1, c2, c3, c4, c5, c6, -⟩ := hR.1
  unfold f_X8_claimOf f_X9_claimOf
  rcases pr_isTool c5 c6 c2 x1 with ⟨e1, e2⟩ | ⟨u, hu, rfl, e1, e2⟩
  · rw [e1, e2]
    exact ⟨-1, rfl, rfl⟩
  · obtain ⟨e, n, m, L, S, -, -, -, hc⟩ := hR.2.2 u hu
    have h8 : L.length ≤ 8 := hc.1.2.2.2.1
    have hpl := hc.2.2.2.2.1.length_eq
    rw [e1, e2, zb_s, zb_s, if_neg one0, if_neg one0, sp_toolAt I 1 (by omega), zb_s, zb_eta1]
    rcases q_entry hc.1 (l := 3) (by decide) x2 x3 with ⟨h, he⟩ | ⟨i, j, hi, rfl, rfl, hj, h⟩
    · have he : f_X8_entryOf I (1 + 39 + 7 * u + 5) x2 x3 3 = some (-1) := he
      rw [he]
      rcases h with h | ⟨h1, h2⟩
      · rw [if_pos h]
        exact ⟨-1, rfl, rfl⟩
      · rw [if_neg h1, show f_X9_in J x3 0 3 = some 0 from in_bad h2, zb_s, if_pos rfl]
        exact ⟨-1, rfl, rfl⟩
    · rw [if_neg (nI_pos hi), show f_X9_in J (nI j) 0 3 = some 1 from in_good (l := 3) hj (by decide), zb_s, if_neg one0]
      rcases pr_claimAt (show u < 10 by omega) hc hB c1 (k := i) hi with ⟨a, c, k1, k2, k3⟩ | ⟨k1, k2⟩
      · have hal := (List.getElem?_eq_some_iff.mp k1).1
        have hil := (List.getElem?_eq_some_iff.mp k2).1
        rw [k3, zb_s, if_pos (nI_pos' (by omega)), zb_eta1]
        rcases h with ⟨h1, -⟩ | ⟨h1, he⟩
        · omega
        · have he : f_X8_entryOf I (1 + 39 + 7 * u + 5) (nI i) (nI j) 3 = _ := he
          obtain ⟨g0, g1, g2, g3⟩ := hc.2.2.1 i c k2
          obtain ⟨r0, r1, r2, r3⟩ := sp_clR (show u < 10 by omega) hc k1
          rw [he]
          rcases (show j = 0 ∨ j = 1 ∨ j = 2 ∨ j = 3 by omega) with rfl | rfl | rfl | rfl
          · exact ⟨_, congrArg some g0, r0⟩
          · exact ⟨_, congrArg some g1, r1⟩
          · exact ⟨_, congrArg some g2, r2⟩
          · exact ⟨_, congrArg some g3, r3⟩
      · rw [k2, zb_s, if_neg (show ¬ (0 : Int32) ≤ -2 by decide)]
        rcases h with ⟨h1, he⟩ | ⟨h1, -⟩
        · exact ⟨-2, he, rfl⟩
        · omega
theorem q_why {I J : zM} {np nt B : Nat} (hR : RO I 1 (J 1) np nt B) (x : Int32) : Ask (f_X8_why I x) (f_X9_why J x) := by
  have hw := hR.1.2.2.2.2.2.2.2.2
  unfold f_X8_why f_X9_why f_X8_why_j36
  by_cases c : 0 ≤ x
  · rw [if_pos c, if_pos c]
    obtain ⟨k, hk, rfl⟩ := nI_of (Int32.not_lt.mpr c)
    by_cases k0 : k = 0
    · subst k0
      rw [if_pos (show nI 0 = 0 from rfl)]
      rcases hw with ⟨w1, w2, w3⟩ | ⟨w1, w2, w3, w4⟩ | ⟨w1, w2, w3, w4, w5⟩
      · rw [if_pos w2, w1, if_pos (nI_le (Nat.le_refl 0) (by decide))]
        exact ⟨-2, rfl, rfl⟩
      · rw [if_neg w3, w1, if_neg (nI_ge (by decide) (by decide)), show (1085 : Int32) + nI 0 = nI 1085 from rfl, zck_t (zin_t (by decide) (by decide)), nI_clamp (by decide), w2]
        exact ⟨_, rfl, rfl⟩
      · rw [if_neg w3, w1, if_neg (nI_ge (by decide) (by decide)), show (1085 : Int32) + nI 0 = nI 1085 from rfl, zck_t (zin_t (by decide) (by decide)), nI_clamp (by decide), w2]
        exact ⟨_, rfl, rfl⟩
    · rw [if_neg (nI_ne0 (by omega) hk)]
      by_cases k1 : k = 1
      · subst k1
        rw [if_pos (show nI 1 = 1 from rfl)]
        rcases hw with ⟨w1, w2, w3⟩ | ⟨w1, w2, w3, w4⟩ | ⟨w1, w2, w3, w4, w5⟩
        · rw [if_pos w3, w1, if_pos (nI_le (by decide) (by decide))]
          exact ⟨-2, rfl, rfl⟩
        · rw [if_pos w4, w1, if_pos (nI_le (by decide) (by decide))]
          exact ⟨-2, rfl, rfl⟩
        · rw [if_neg w5, w1, if_neg (nI_ge (by decide) (by decide)), show (1085 : Int32) + nI 1 = nI 1086 from rfl, zck_t (zin_t (by decide) (by decide)), nI_clamp (by decide), w4]
          exact ⟨_, rfl, rfl⟩
      · rw [if_neg (show ¬ nI k = 1 from fun h => k1 ((nI_eq hk (by decide)).mp (show nI k = nI 1 from h))), if_pos (show (0 : Int32) = 0 from rfl)]
        rcases hw with ⟨w1, -⟩ | ⟨w1, -⟩ | ⟨w1, -⟩
        · rw [w1, if_pos (nI_le (by omega) hk)]
          exact ⟨-2, rfl, rfl⟩
        · rw [w1, if_pos (nI_le (by omega) hk)]
          exact ⟨-2, rfl, rfl⟩
        · rw [w1, if_pos (nI_le (by omega) hk)]
          exact ⟨-2, rfl, rfl⟩
  · rw [if_neg c, if_neg c]
    exact ⟨-1, rfl, rfl⟩
