/-! PURE 27: what is asked: sums over persons and tools -/
theorem a0 (x : Int32) : x + 0 = x := Int32.add_zero x
theorem l_toolsOf {I J : zM} {np nt B : Nat} (hR : RO I 1 (J 1) np nt B) {q : Nat} (hq : q < 12) : ∀ (d y fI fJ : Nat) (a : Int32), nt = y + d → d < fI → d < fJ → ∃ r, f_X2_toolsWith_l4 I 1 (nI q) fI a (nI y) = some r ∧ f_X9_toolsOf_l4 J (nI q) fJ a (nI y) = some r := by
  obtain ⟨hnp, hnt, h5, hA5, h6, hA6, -⟩ := hR.1
  intro d
  induction d with
  | zero =>
    intro y fI fJ a hd hfI hfJ
    obtain ⟨m, rfl⟩ : ∃ m, fI = m + 1 := ⟨fI - 1, by omega⟩
    obtain ⟨m', rfl⟩ : ∃ m, fJ = m + 1 := ⟨fJ - 1, by omega⟩
    rw [f_X2_toolsWith_l4, f_X9_toolsOf_l4, h6, hA6, if_pos (nI_le (by omega) (by omega)), if_pos (nI_le (by omega) (by omega))]
    exact ⟨_, rfl, rfl⟩
  | succ d ih =>
    intro y fI fJ a hd hfI hfJ
    obtain ⟨m, rfl⟩ : ∃ m, fI = m + 1 := ⟨fI - 1, by omega⟩
    obtain ⟨m', rfl⟩ : ∃ m, fJ = m + 1 := ⟨fJ - 1, by omega⟩
    have e2 : f_X9_t J (nI y) 2 = some (J 1 (180 + y * 90 + 2)) := sp_t J (t := y) (f := 2) (by omega)
    have es : (I (1 + 39 + 7 * y) 2 = nI q) = (J 1 (180 + y * 90 + 2) = nI q) := by
      rcases RO_out hR (show y < nt by omega) with ⟨b1, b2, -⟩ | ⟨p, d', b0, -, b1, b2, -⟩
      · rw [b1, b2]
        exact propext ⟨fun h => absurd (show nI q < 0 by rw [← h]; decide) (nI_pos (by omega)), fun h => absurd (show nI q < 0 by rw [← h]; decide) (nI_pos (by omega))⟩
      · rw [b1, b2]
    rw [f_X2_toolsWith_l4, f_X9_toolsOf_l4, h6, hA6, if_neg (nI_ge (by omega) (by omega)), if_neg (nI_ge (by omega) (by omega))]
    simp only [sp_toolAt I 1 (show y < 10 by omega), zb_s, zlet_s, e2, nI_1, a0, es]
    by_cases c : J 1 (180 + y * 90 + 2) = nI q
    · rw [if_pos c, if_pos c]
      exact ih (y + 1) m m' _ (by omega) (by omega) (by omega)
    · rw [if_neg c, if_neg c]
      exact ih (y + 1) m m' _ (by omega) (by omega) (by omega)
theorem l_leased {I J : zM} {np nt B : Nat} (hR : RO I 1 (J 1) np nt B) : ∀ (d y fI fJ : Nat) (a : Int32), nt = y + d → d < fI → d < fJ → ∃ r, f_X6_leasedCount_l4 I fI a (nI y) = some r ∧ f_X9_count_l72 J fJ a (nI y) = some r := by
  obtain ⟨hnp, hnt, h5, hA5, h6, hA6, -⟩ := hR.1
  intro d
  induction d with
  | zero =>
    intro y fI fJ a hd hfI hfJ
    obtain ⟨m, rfl⟩ : ∃ m, fI = m + 1 := ⟨fI - 1, by omega⟩
    obtain ⟨m', rfl⟩ : ∃ m, fJ = m + 1 := ⟨fJ - 1, by omega⟩
    rw [f_X6_leasedCount_l4, f_X9_count_l72, h6, hA6, if_pos (nI_le (by omega) (by omega)), if_pos (nI_le (by omega) (by omega))]
    exact ⟨_, rfl, rfl⟩
  | succ d ih =>
    intro y fI fJ a hd hfI hfJ
    obtain ⟨m, rfl⟩ : ∃ m, fI = m + 1 := ⟨fI - 1, by omega⟩
    obtain ⟨m', rfl⟩ : ∃ m, fJ = m + 1 := ⟨fJ - 1, by omega⟩
    obtain ⟨z, z1, z2⟩ : ∃ z, f_X7_isLeased I (1 + 39 + 7 * y) = some z ∧ f_X9_isOut J (nI y) = some z := by
      rcases RO_out hR (show y < nt by omega) with ⟨-, -, -, -, -, b6, b7⟩ | ⟨p, d', -, -, -, -, -, -, -, b6, b7⟩
      · exact ⟨0, b6, b7⟩
      · exact ⟨1, b6, b7⟩
    rw [f_X6_leasedCount_l4, f_X9_count_l72, h6, hA6, if_neg (nI_ge (by omega) (by omega)), if_neg (nI_ge (by omega) (by omega))]
    simp only [sp_toolAt I 1 (show y < 10 by omega), zb_s, zlet_s, z1, z2, nI_1, a0]
    by_cases c : z = 0
    · rw [if_pos c, if_pos c]
      exact ih (y + 1) m m' _ (by omega) (by omega) (by omega)
    · rw [if_neg c, if_neg c]
      exact ih (y + 1) m m' _ (by omega) (by omega) (by omega)
theorem l_claims {I J : zM} {np nt B : Nat} (hR : RO I 1 (J 1) np nt B) : ∀ (d y fI fJ : Nat) (a : Int32), nt = y + d → d < fI → d < fJ → ∃ r, f_X6_claimCount_l4 I fI a (nI y) = some r ∧ f_X9_count_l110 J fJ a (nI y) = some r := by
  obtain ⟨hnp, hnt, h5, hA5, h6, hA6, -⟩ := hR.1
  intro d
  induction d with
  | zero =>
    intro y fI fJ a hd hfI hfJ
    obtain ⟨m, rfl⟩ : ∃ m, fI = m + 1 := ⟨fI - 1, by omega⟩
    obtain ⟨m', rfl⟩ : ∃ m, fJ = m + 1 := ⟨fJ - 1, by omega⟩
    rw [f_X6_claimCount_l4, f_X9_count_l110, h6, hA6, if_pos (nI_le (by omega) (by omega)), if_pos (nI_le (by omega) (by omega))]
    exact ⟨_, rfl, rfl⟩
  | succ d ih =>
    intro y fI fJ a hd hfI hfJ
    obtain ⟨m, rfl⟩ : ∃ m, fI = m + 1 := ⟨fI - 1, by omega⟩
    obtain ⟨m', rfl⟩ : ∃ m, fJ = m + 1 := ⟨fJ - 1, by omega⟩
    obtain ⟨e, n, m0, L, S, -, -, -, hc⟩ := hR.2.2 y (by omega)
    have e57 := sp_57 (show y < 10 by omega) hc
    rw [← hc.2.2.2.2.1.length_eq] at e57
    have es := sp_size hc.1
    rw [f_X6_claimCount_l4, f_X9_count_l110, h6, hA6, if_neg (nI_ge (by omega) (by omega)), if_neg (nI_ge (by omega) (by omega))]
    simp only [sp_toolAt I 1 (show y < 10 by omega), zb_s, zlet_s, e57, es, nI_1]
    exact ih (y + 1) m m' _ (by omega) (by omega) (by omega)
theorem l_debts {I J : zM} {np nt B : Nat} (hR : RO I 1 (J 1) np nt B) : ∀ (d y fI fJ : Nat) (a : Int32), np = y + d → d < fI → d < fJ → ∃ r, f_X6_allDebts_l4 I fI a (nI y) = some r ∧ f_X9_count_l160 J fJ a (nI y) = some r := by
  obtain ⟨hnp, hnt, h5, hA5, h6, hA6, -⟩ := hR.1
  intro d
  induction d with
  | zero =>
    intro y fI fJ a hd hfI hfJ
    obtain ⟨m, rfl⟩ : ∃ m, fI = m + 1 := ⟨fI - 1, by omega⟩
    obtain ⟨m', rfl⟩ : ∃ m, fJ = m + 1 := ⟨fJ - 1, by omega⟩
    rw [f_X6_allDebts_l4, f_X9_count_l160, h5, hA5, if_pos (nI_le (by omega) (by omega)), if_pos (nI_le (by omega) (by omega))]
    exact ⟨_, rfl, rfl⟩
  | succ d ih =>
    intro y fI fJ a hd hfI hfJ
    obtain ⟨m, rfl⟩ : ∃ m, fI = m + 1 := ⟨fI - 1, by omega⟩
    obtain ⟨m', rfl⟩ : ∃ m, fJ = m + 1 := ⟨fJ - 1, by omega⟩
    have e4 : f_X9_p J (nI y) 4 = some (I (1 + 15 + 2 * y) 4) := by
      rw [(hR.2.1 y (by omega)).1 4 (by decide)]
      exact sp_p J (q := y) (f := 4) (by omega)
    rw [f_X6_allDebts_l4, f_X9_count_l160, h5, hA5, if_neg (nI_ge (by omega) (by omega)), if_neg (nI_ge (by omega) (by omega))]
    simp only [sp_personAt I 1 (show y < 12 by omega), zb_s, zlet_s, e4, nI_1]
    exact ih (y + 1) m m' _ (by omega) (by omega) (by omega)
theorem l_coins2 {I J : zM} {np nt B : Nat} (hR : RO I 1 (J 1) np nt B) : ∀ (d y fI fJ : Nat) (a : Int32), nt = y + d → d < fI → d < fJ → ∃ r, f_X6_allCoins_l43 I fI a (nI y) = some r ∧ f_X9_coins_l40 J fJ a (nI y) = some r := by
  obtain ⟨hnp, hnt, h5, hA5, h6, hA6, -⟩ := hR.1
  intro d
  induction d with
  | zero =>
    intro y fI fJ a hd hfI hfJ
    obtain ⟨m, rfl⟩ : ∃ m, fI = m + 1 := ⟨fI - 1, by omega⟩
    obtain ⟨m', rfl⟩ : ∃ m, fJ = m + 1 := ⟨fJ - 1, by omega⟩
    rw [f_X6_allCoins_l43, f_X9_coins_l40, h6, hA6, if_pos (nI_le (by omega) (by omega)), if_pos (nI_le (by omega) (by omega))]
    exact ⟨_, rfl, rfl⟩
  | succ d ih =>
    intro y fI fJ a hd hfI hfJ
    obtain ⟨m, rfl⟩ : ∃ m, fI = m + 1 := ⟨fI - 1, by omega⟩
    obtain ⟨m', rfl⟩ : ∃ m, fJ = m + 1 := ⟨fJ - 1, by omega⟩
    obtain ⟨w, x, g, -, -, -, -, -, -, -, -, z5, z6⟩ := RO_num hR (show y < nt by omega)
    have e5 : f_X9_t J (nI y) 5 = some (nI g) := by rw [← z6]; exact sp_t J (t := y) (f := 5) (by omega)
    rw [f_X6_allCoins_l43, f_X9_coins_l40, h6, hA6, if_neg (nI_ge (by omega) (by omega)), if_neg (nI_ge (by omega) (by omega))]
    simp only [sp_toolAt I 1 (show y < 10 by omega), zb_s, zlet_s, e5, z5, nI_1]
    exact ih (y + 1) m m' _ (by omega) (by omega) (by omega)
theorem l_coins1 {I J : zM} {np nt B : Nat} (hR : RO I 1 (J 1) np nt B) {K1 K2 : Int32 → Option Int32} (hK : ∀ a, ∃ r, K1 a = some r ∧ K2 a = some r) : ∀ (d y fI fJ : Nat) (a : Int32), np = y + d → d < fI → d < fJ → ∃ r, f_X6_allCoins_l10 I K1 fI a (nI y) = some r ∧ f_X9_coins_l11 J K2 fJ a (nI y) = some r := by
  obtain ⟨hnp, hnt, h5, hA5, h6, hA6, -⟩ := hR.1
  intro d
  induction d with
  | zero =>
    intro y fI fJ a hd hfI hfJ
    obtain ⟨m, rfl⟩ : ∃ m, fI = m + 1 := ⟨fI - 1, by omega⟩
    obtain ⟨m', rfl⟩ : ∃ m, fJ = m + 1 := ⟨fJ - 1, by omega⟩
    rw [f_X6_allCoins_l10, f_X9_coins_l11, h5, hA5, if_pos (nI_le (by omega) (by omega)), if_pos (nI_le (by omega) (by omega))]
    exact hK a
  | succ d ih =>
    intro y fI fJ a hd hfI hfJ
    obtain ⟨m, rfl⟩ : ∃ m, fI = m + 1 := ⟨fI - 1, by omega⟩
    obtain ⟨m', rfl⟩ : ∃ m, fJ = m + 1 := ⟨fJ - 1, by omega⟩
    have e4 : f_X9_p J (nI y) 1 = some (I (1 + 15 + 2 * y) 1) := by
      rw [(hR.2.1 y (by omega)).1 1 (by decide)]
      exact sp_p J (q := y) (f := 1) (by omega)
    rw [f_X6_allCoins_l10, f_X9_coins_l11, h5, hA5, if_neg (nI_ge (by omega) (by omega)), if_neg (nI_ge (by omega) (by omega))]
    simp only [sp_personAt I 1 (show y < 12 by omega), zb_s, zlet_s, e4, nI_1]
    exact ih (y + 1) m m' _ (by omega) (by omega) (by omega)
theorem q_coins {I J : zM} {np nt B : Nat} (hR : RO I 1 (J 1) np nt B) : Ask (f_X6_allCoins I) (f_X9_coins J) := by
  have hz := zFu_big
  have hnp := hR.1.1
  have hnt := hR.1.2.1
  unfold f_X6_allCoins f_X9_coins
  rw [hR.1.2.2.2.2.2.2.2.1]
  exact l_coins1 hR (fun a => l_coins2 hR nt 0 zFu zFu a (by omega) (by omega) (by omega)) np 0 zFu zFu _ (by omega) (by omega) (by omega)
theorem q_leased {I J : zM} {np nt B : Nat} (hR : RO I 1 (J 1) np nt B) : Ask (f_X6_leasedCount I) (f_X9_count_l72 J zFu 0 0) := by
  have hz := zFu_big
  have hnt := hR.1.2.1
  exact l_leased hR nt 0 zFu zFu 0 (by omega) (by omega) (by omega)
theorem q_claims {I J : zM} {np nt B : Nat} (hR : RO I 1 (J 1) np nt B) : Ask (f_X6_claimCount I) (f_X9_count_l110 J zFu 0 0) := by
  have hz := zFu_big
  have hnt := hR.1.2.1
  exact l_claims hR nt 0 zFu zFu 0 (by omega) (by omega) (by omega)
theorem q_debts {I J : zM} {np nt B : Nat} (hR : RO I 1 (J 1) np nt B) : Ask (f_X6_allDebts I) (f_X9_count_l160 J zFu 0 0) := by
  have hz := zFu_big
  have hnp := hR.1.1
  exact l_debts hR np 0 zFu zFu 0 (by omega) (by omega) (by omega)
theorem q_toolsOf {I J : zM} {np nt B q : Nat} (hR : RO I 1 (J 1) np nt B) (hq : q < 12) : Ask (f_X2_toolsWith I 1 (nI q)) (f_X9_toolsOf J (nI q)) := by
  have hz := zFu_big
  have hnt := hR.1.2.1
  exact l_toolsOf hR hq nt 0 zFu zFu 0 (by omega) (by omega) (by omega)
