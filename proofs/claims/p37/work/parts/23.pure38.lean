/-! PURE 38: judge -/
theorem l_judge {I J : zM} {h n m : Nat} {x2 : Int32} (hh : h < 6) (hT : TB I (341 + 3 * h + 1) 60 1 n) (h9 : J 9 h = nI n) (hrow : ∀ i, i < n → I (341 + 3 * h + 2) i = J (11 + h) i) (hm : m ≤ 12) (hL : ∀ y, y < m → ∃ a, f_X8_listedAt I x2 (nI y) = some a ∧ ((x2 = -1 ∧ f_X9_rankedAt J (nI y) = some a) ∨ (x2 ≠ -1 ∧ ∃ i, f_X9_claimAt J x2 (nI y) = some i ∧ f_X9_c J x2 i 0 = some a))) {k : Int32} {K K2 : Option Int32} (hK : K = some k) (hK2 : K2 = some k) : ∀ (d y fI fJ : Nat), n = y + d → d < fI → d < fJ → ∃ r, f_X8_judge_l95 I x2 (341 + 3 * h) (nI m) (nI n) K fI (nI y) = some r ∧ f_X9_judge_l77 J (nI h) x2 (nI m) K2 fJ (nI y) = some r := by
  have hn : n ≤ 60 := hT.2.2.2.1
  intro d
  induction d with
  | zero =>
    intro y fI fJ hd hfI hfJ
    obtain ⟨m1, rfl⟩ : ∃ m, fI = m + 1 := ⟨fI - 1, by omega⟩
    obtain ⟨m2, rfl⟩ : ∃ m, fJ = m + 1 := ⟨fJ - 1, by omega⟩
    rw [f_X8_judge_l95, f_X9_judge_l77, zin_t hh (by decide), zck_1, nI_clamp (by omega), h9, if_pos (nI_le (by omega) (by omega)), if_pos (nI_le (by omega) (by omega))]
    exact ⟨k, hK, hK2⟩
  | succ d ih =>
    intro y fI fJ hd hfI hfJ
    obtain ⟨m1, rfl⟩ : ∃ m, fI = m + 1 := ⟨fI - 1, by omega⟩
    obtain ⟨m2, rfl⟩ : ∃ m, fJ = m + 1 := ⟨fJ - 1, by omega⟩
    rw [f_X8_judge_l95, f_X9_judge_l77, zin_t hh (by decide), zck_1, nI_clamp (by omega), nI_clamp (by omega), h9, if_neg (nI_ge (a := y) (b := n) (by omega) (by omega)), if_neg (nI_ge (a := y) (b := n) (by omega) (by omega))]
    by_cases c : m ≤ y
    · rw [if_pos (nI_le c (by omega)), if_neg (fun g => absurd ((nI_ltI (by omega) (by omega)).mp g) (by omega)), if_pos (nI_le c (by omega))]
      exact ⟨_, rfl, rfl⟩
    · have hy : y < m := by omega
      obtain ⟨a, l1, l2⟩ := hL y hy
      have c1 : f_X4_cell I (341 + 3 * h + 1) (nI y) 0 = some (I (341 + 3 * h + 1 + 1) (y * 1 + 0)) := sp_cell hT (j := 0) (by omega) (by decide)
      have c2 : I (341 + 3 * h + 1 + 1) (y * 1 + 0) = J (11 + h) y := by
        rw [← hrow y (by omega), show y * 1 + 0 = y by omega]
      rw [if_neg (nI_ge hy (by omega)), if_pos ((nI_ltI (by omega) (by omega)).mpr hy), c1, c2, zb_s, l1, zb_s]
      rw [zin_t (show y < 60 by omega) (by decide)]
      simp only [zck_1]
      rcases l2 with ⟨e1, e2⟩ | ⟨e1, i, e2, e3⟩
      · rw [if_pos e1, e2, zb_s, if_neg (nI_ge hy (by omega))]
        by_cases ce : J (11 + h) y = a
        · rw [if_pos ce, if_pos ce, nI_1]
          exact ih (y + 1) m1 m2 (by omega) (by omega) (by omega)
        · rw [if_neg ce, if_neg ce]
          exact ⟨_, rfl, rfl⟩
      · rw [if_neg e1, e2, zb_s, e3, zb_s, if_neg (nI_ge hy (by omega))]
        by_cases ce : J (11 + h) y = a
        · rw [if_pos ce, if_pos ce, nI_1]
          exact ih (y + 1) m1 m2 (by omega) (by omega) (by omega)
        · rw [if_neg ce, if_neg ce]
          exact ⟨_, rfl, rfl⟩
theorem j81 {I J : zM} {h n m : Nat} {x2 : Int32} (hh : h < 6) (hT : TB I (341 + 3 * h + 1) 60 1 n) (h9 : J 9 h = nI n) (hrow : ∀ i, i < n → I (341 + 3 * h + 2) i = J (11 + h) i) (hm : m ≤ 12) (hL : ∀ y, y < m → ∃ a, f_X8_listedAt I x2 (nI y) = some a ∧ ((x2 = -1 ∧ f_X9_rankedAt J (nI y) = some a) ∨ (x2 ≠ -1 ∧ ∃ i, f_X9_claimAt J x2 (nI y) = some i ∧ f_X9_c J x2 i 0 = some a))) : Ask (f_X8_judge_j81 I x2 (341 + 3 * h) (nI m)) (f_X9_judge_j73 J (nI h) x2 (nI m)) := by
  have hz := zFu_big
  have hn : n ≤ 60 := hT.2.2.2.1
  unfold f_X8_judge_j81 f_X9_judge_j73
  rw [sp_size hT, zb_s, zin_t hh (by decide), zck_1, zck_1, nI_clamp (by omega), h9]
  by_cases c : nI m ≤ nI n
  · rw [if_pos c]
    exact l_judge hh hT h9 hrow hm hL rfl rfl n 0 zFu zFu (by omega) (by omega) (by omega)
  · rw [if_neg c]
    exact l_judge hh hT h9 hrow hm hL rfl rfl n 0 zFu zFu (by omega) (by omega) (by omega)
theorem j25 {I J : zM} {np nt B h : Nat} (hB : B ≤ 2 ^ 20) (hR : RO I 1 (J 1) np nt B) (H : HS I J np nt) (hh : h < 6) {x2 : Int32} (hx : x2 = -1 ∨ (x2 ≠ -1 ∧ ∃ t, t < nt ∧ x2 = nI t)) : Ask (f_X8_judge_j25 I (nI h) x2) (f_X9_judge_j23 J (nI h) x2) := by
  have hz := zFu_big
  obtain ⟨hnp, hnt, h5, hA5, h6, hA6, -⟩ := hR.1
  obtain ⟨hM, a2, a3⟩ := H.2 h hh
  unfold f_X8_judge_j25 f_X9_judge_j23
  rw [sp_holderAt I hh, zb_s, a2, zin_t hh (by decide), zck_1, zck_1, nI_clamp (by omega)]
  rcases a3 with b | ⟨b, -⟩ | ⟨b, -⟩ | ⟨b, n, hT, h9, hrow⟩
  · rw [b, if_pos (by rfl), if_neg (by decide), if_pos (by rfl)]
    exact ⟨_, rfl, rfl⟩
  · rw [b, if_neg (by decide), if_neg (by decide), if_neg (by decide), if_neg (by decide)]
    exact ⟨_, rfl, rfl⟩
  · rw [b, if_neg (by decide), if_neg (by decide), if_neg (by decide), if_neg (by decide)]
    exact ⟨_, rfl, rfl⟩
  · rw [b, if_neg (by decide), if_pos (show nI 3 = (3 : Int32) from rfl), if_pos (show nI 3 = (3 : Int32) from rfl)]
    rcases hx with hx | ⟨hx, t, ht, rfl⟩
    · rw [if_pos hx, if_pos hx, h5, hA5]
      refine j81 hh hT h9 hrow hnp (fun y hy => ?_)
      obtain ⟨r, r1, r2⟩ := l_ranked hR (nI y) np 0 zFu zFu (by omega) (by omega) (by omega)
      have r1 : f_X2_personAtRank I 1 (nI y) = some r := r1
      have r2 : f_X9_rankedAt J (nI y) = some r := r2
      refine ⟨r, ?_, Or.inl ⟨hx, r2⟩⟩
      unfold f_X8_listedAt
      rw [if_pos hx, r1, zb_s]
    · obtain ⟨e, n', m', L, S, -, -, -, hc⟩ := hR.2.2 t ht
      have h8 : L.length ≤ 8 := hc.1.2.2.2.1
      have e57 := sp_57 (show t < 10 by omega) hc
      rw [← hc.2.2.2.2.1.length_eq] at e57
      rw [if_neg hx, if_neg hx, sp_toolAt I 1 (by omega), zb_s, sp_size hc.1, zb_s, e57, zb_s]
      refine j81 hh hT h9 hrow (by omega) (fun y hy => ?_)
      rcases pr_claimAt (show t < 10 by omega) hc hB hnp (k := y) (by omega) with ⟨a, c, k1, k2, k3⟩ | ⟨k1, k2⟩
      · refine ⟨nI c.1, ?_, Or.inr ⟨hx, nI a, k3, (sp_clR (show t < 10 by omega) hc k1).1⟩⟩
        unfold f_X8_listedAt
        rw [if_neg hx, sp_toolAt I 1 (by omega), zb_s, (sp_clC hc k2).1, zb_s]
      · omega
theorem q_judge {I J : zM} {np nt B : Nat} (hB : B ≤ 2 ^ 20) (hR : RO I 1 (J 1) np nt B) (H : HS I J np nt) (x1 x2 : Int32) : Ask (f_X8_judge I x1 x2) (f_X9_judge J x1 x2) := by
  obtain ⟨hnp, hnt, h5, hA5, h6, hA6, -⟩ := hR.1
  unfold f_X8_judge f_X9_judge
  rcases pr_isHolder I J x1 with ⟨e1, e2, e3⟩ | ⟨h, hh, rfl, e1, e2, e3⟩
  · rw [e1, e2, zb_s, zb_s, if_pos rfl, if_pos rfl]
    exact ⟨_, rfl, rfl⟩
  · rw [e1, e2, zb_s, zb_s, if_neg one0, if_neg one0]
    by_cases c : x2 = -1
    · rw [if_pos c, if_pos c]
      exact j25 hB hR H hh (Or.inl c)
    · rw [if_neg c, if_neg c]
      rcases pr_isTool h6 hA6 hnt x2 with ⟨a1, a2⟩ | ⟨t, ht, rfl, a1, a2⟩
      · rw [a1, a2, zb_s, zb_s, if_pos rfl, if_pos rfl]
        exact ⟨_, rfl, rfl⟩
      · rw [a1, a2, zb_s, zb_s, if_neg one0, if_neg one0]
        exact j25 hB hR H hh (Or.inr ⟨c, t, ht, rfl⟩)
