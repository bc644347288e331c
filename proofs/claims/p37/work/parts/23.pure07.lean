/-! PURE 7: a link and a look more, on both sides -/
theorem pushN_le {n m : Nat} (h : n ≤ m) : pushN n m ≤ m := by
  unfold pushN
  split <;> omega
theorem pushN_pos {n m : Nat} (h : 1 ≤ m) : 1 ≤ pushN n m := by
  unfold pushN
  split <;> omega
theorem pushN_le1 {n m : Nat} : pushN n m ≤ n + 1 ∨ m < n := by
  unfold pushN
  split <;> omega
theorem pushR_new {n m : Nat} {r : Nat → Nat → Int32} {a b : Nat → Int32} {i j : Nat} (h : i + 1 < pushN n m) : pushR n m r a i j = pushR n m r b i j := by
  unfold pushR
  unfold pushN at h
  by_cases c : n < m
  · rw [if_pos c] at h
    rw [if_pos c, if_pos c, if_pos (by omega), if_pos (by omega)]
  · rw [if_neg c] at h
    rw [if_neg c, if_neg c, if_pos h, if_pos h]
theorem pushR_last {n m : Nat} {r : Nat → Nat → Int32} {a : Nat → Int32} {j : Nat} (hm : 1 ≤ m) : pushR n m r a (pushN n m - 1) j = a j := by
  unfold pushR pushN
  by_cases c : n < m
  · rw [if_pos c, if_pos c, if_neg (by omega)]
  · rw [if_neg c, if_neg c, if_neg (by omega)]
def n3 (a b c : Int32) (j : Nat) : Int32 := if j = 0 then a else if j = 1 then b else c
def n4 (a b c d : Int32) (j : Nat) : Int32 := if j = 0 then a else if j = 1 then b else if j = 2 then c else d
theorem sp_begins {J : zM} {t n : Nat} (ht : t < 10) (hn : n ≤ 8) (h6 : J 1 (180 + t * 90 + 6) = nI n) (p : Int32) : ∃ M, f_X9_begins J (nI t) p = some M ∧ (∀ a, a ≠ 1 → M a = J a) ∧ (∀ k, (k < 180 + t * 90 + 2 ∨ 180 + t * 90 + 32 ≤ k ∨ k = 180 + t * 90 + 4 ∨ k = 180 + t * 90 + 5) → M 1 k = J 1 k) ∧ M 1 (180 + t * 90 + 2) = p ∧ M 1 (180 + t * 90 + 3) = J 1 1082 ∧ M 1 (180 + t * 90 + 6) = nI (pushN n 8) ∧ M 1 (180 + t * 90 + 7) = J 1 (180 + t * 90 + 7) + 1 ∧ ∀ i j, i < pushN n 8 → j < 3 → M 1 (180 + t * 90 + (8 + 3 * i + j)) = pushR n 8 (fun i j => J 1 (180 + t * 90 + (8 + 3 * i + j))) (n3 p (J 1 1082) (-2)) i j := by
  obtain ⟨M, hp, h6', hfr, hsame, hrow⟩ := sp_placeFor (f := 6) (b := 8) (w := 3) (m := 8) h6 hn (by decide) (by decide) (by omega) (by decide)
  have hP1 := pushN_pos (n := n) (m := 8) (by decide)
  have hP8 := pushN_le hn
  have hlast : ∀ j, pushR n 8 (fun i j => J 1 (180 + t * 90 + (8 + 3 * i + j))) (n3 p (J 1 1082) (-2)) (pushN n 8 - 1) j = n3 p (J 1 1082) (-2) j := fun j => pushR_last (by decide)
  have hnew : ∀ i j, i + 1 < pushN n 8 → j < 3 → M 1 (180 + t * 90 + (8 + 3 * i + j)) = pushR n 8 (fun i j => J 1 (180 + t * 90 + (8 + 3 * i + j))) (n3 p (J 1 1082) (-2)) i j := fun i j a b => (hrow i j a b).trans (pushR_new a)
  have hp : f_X9_placeFor J (nI t) 6 8 3 8 = some (nI (8 + 3 * (pushN n 8 - 1)), M) := hp
  generalize pushN n 8 = P at *
  have e82 : M 1 1082 = J 1 1082 := hsame 1082 (by omega) (by omega)
  have e7 : M 1 (180 + t * 90 + 7) = J 1 (180 + t * 90 + 7) := hsame _ (by omega) (by omega)
  unfold f_X9_begins
  rw [hp, zb_s]
  simp (disch := omega) only [sp_setT, sp_t, ms_sn, e82, e7, zlit, zofN, zneg, zle, zlt, zeq, pk_mul, pk_sub, nI_add, nI_clamp, zb_s, zlet_s, if_false, if_true, if_pos, if_neg, zck_1, zin_t]
  refine ⟨_, rfl, fun a ha => ?_, fun k hk => ?_, ?_, ?_, ?_, ?_, fun i j hi hj => ?_⟩
  · simp only [ms_n ha]
    exact hfr a ha
  · simp (disch := omega) only [ms_sn]
    exact hsame k (by omega) (by omega)
  · simp (disch := omega) only [ms_sn, ms_ss]
  · simp (disch := omega) only [ms_sn, ms_ss]
  · simp (disch := omega) only [ms_sn, ms_ss]
    exact h6'
  · simp (disch := omega) only [ms_sn, ms_ss]
  · by_cases c : i + 1 < P
    · simp (disch := omega) only [ms_sn]
      exact hnew i j c hj
    · have hi2 : i = P - 1 := by omega
      subst hi2
      refine Eq.trans ?_ (hlast j).symm
      rcases (show j = 0 ∨ j = 1 ∨ j = 2 by omega) with rfl | rfl | rfl
      · simp (disch := omega) only [ms_sn, ms_se]
        rfl
      · simp (disch := omega) only [ms_sn, ms_se]
        rfl
      · simp (disch := omega) only [ms_sn, ms_se]
        rfl
theorem sp_seesNow {J : zM} {t m : Nat} (ht : t < 10) (hm : m ≤ 6) (h6 : J 1 (180 + t * 90 + 32) = nI m) : ∃ M, f_X9_seesNow J (nI t) = some M ∧ (∀ a, a ≠ 1 → M a = J a) ∧ (∀ k, (k < 180 + t * 90 + 32 ∨ 180 + t * 90 + 57 ≤ k) → M 1 k = J 1 k) ∧ M 1 (180 + t * 90 + 32) = nI (pushN m 6) ∧ ∀ i j, i < pushN m 6 → j < 4 → M 1 (180 + t * 90 + (33 + 4 * i + j)) = pushR m 6 (fun i j => J 1 (180 + t * 90 + (33 + 4 * i + j))) (n4 (J 1 1082) (J 1 (180 + t * 90 + 1)) (J 1 (180 + t * 90 + 7)) (if J 1 (180 + t * 90 + 2) < 0 then 0 else 1)) i j := by
  obtain ⟨M, hp, h6', hfr, hsame, hrow⟩ := sp_placeFor (f := 32) (b := 33) (w := 4) (m := 6) h6 hm (by decide) (by decide) (by omega) (by decide)
  have hP1 := pushN_pos (n := m) (m := 6) (by decide)
  have hP8 := pushN_le hm
  have hlast : ∀ j, pushR m 6 (fun i j => J 1 (180 + t * 90 + (33 + 4 * i + j))) (n4 (J 1 1082) (J 1 (180 + t * 90 + 1)) (J 1 (180 + t * 90 + 7)) (if J 1 (180 + t * 90 + 2) < 0 then 0 else 1)) (pushN m 6 - 1) j = n4 (J 1 1082) (J 1 (180 + t * 90 + 1)) (J 1 (180 + t * 90 + 7)) (if J 1 (180 + t * 90 + 2) < 0 then 0 else 1) j := fun j => pushR_last (by decide)
  have hnew : ∀ i j, i + 1 < pushN m 6 → j < 4 → M 1 (180 + t * 90 + (33 + 4 * i + j)) = pushR m 6 (fun i j => J 1 (180 + t * 90 + (33 + 4 * i + j))) (n4 (J 1 1082) (J 1 (180 + t * 90 + 1)) (J 1 (180 + t * 90 + 7)) (if J 1 (180 + t * 90 + 2) < 0 then 0 else 1)) i j := fun i j a b => (hrow i j a b).trans (pushR_new a)
  have hp : f_X9_placeFor J (nI t) 32 33 4 6 = some (nI (33 + 4 * (pushN m 6 - 1)), M) := hp
  generalize pushN m 6 = P at *
  have e82 : M 1 1082 = J 1 1082 := hsame 1082 (by omega) (by omega)
  have e1 : M 1 (180 + t * 90 + 1) = J 1 (180 + t * 90 + 1) := hsame _ (by omega) (by omega)
  have e2 : M 1 (180 + t * 90 + 2) = J 1 (180 + t * 90 + 2) := hsame _ (by omega) (by omega)
  have e7 : M 1 (180 + t * 90 + 7) = J 1 (180 + t * 90 + 7) := hsame _ (by omega) (by omega)
  unfold f_X9_seesNow f_X9_isOut f_X9_seesNow_j74
  rw [hp, zb_s]
  by_cases c0 : J 1 (180 + t * 90 + 2) < 0
  · rw [if_pos c0] at hlast hnew
    rw [if_pos c0]
    have c0' : J 1 (180 + t * 90 + 2) < nI 0 := c0
    simp (disch := omega) only [sp_setT, sp_t, ms_sn, e82, e7, e1, e2, if_pos c0', zlit, zofN, zneg, zle, zlt, zeq, pk_mul, pk_sub, nI_add, nI_clamp, zb_s, zlet_s, if_false, if_true, if_pos, if_neg, zck_1, zin_t]
    refine ⟨_, rfl, fun a ha => ?_, fun k hk => ?_, ?_, fun i j hi hj => ?_⟩
    · simp only [ms_n ha]
      exact hfr a ha
    · simp (disch := omega) only [ms_sn]
      exact hsame k (by omega) (by omega)
    · simp (disch := omega) only [ms_sn, ms_ss]
      exact h6'
    · by_cases c : i + 1 < P
      · simp (disch := omega) only [ms_sn]
        exact hnew i j c hj
      · have hi2 : i = P - 1 := by omega
        subst hi2
        refine Eq.trans ?_ (hlast j).symm
        rcases (show j = 0 ∨ j = 1 ∨ j = 2 ∨ j = 3 by omega) with rfl | rfl | rfl | rfl
        · simp (disch := omega) only [ms_sn, ms_se]
          rfl
        · simp (disch := omega) only [ms_sn, ms_se]
          rfl
        · simp (disch := omega) only [ms_sn, ms_se]
          rfl
        · simp (disch := omega) only [ms_sn, ms_se]
          rfl
  · rw [if_neg c0] at hlast hnew
    rw [if_neg c0]
    have c0' : ¬ J 1 (180 + t * 90 + 2) < nI 0 := c0
    simp (disch := omega) only [sp_setT, sp_t, ms_sn, e82, e7, e1, e2, if_neg c0', zlit, zofN, zneg, zle, zlt, zeq, pk_mul, pk_sub, nI_add, nI_clamp, zb_s, zlet_s, if_false, if_true, if_pos, if_neg, zck_1, zin_t]
    refine ⟨_, rfl, fun a ha => ?_, fun k hk => ?_, ?_, fun i j hi hj => ?_⟩
    · simp only [ms_n ha]
      exact hfr a ha
    · simp (disch := omega) only [ms_sn]
      exact hsame k (by omega) (by omega)
    · simp (disch := omega) only [ms_sn, ms_ss]
      exact h6'
    · by_cases c : i + 1 < P
      · simp (disch := omega) only [ms_sn]
        exact hnew i j c hj
      · have hi2 : i = P - 1 := by omega
        subst hi2
        refine Eq.trans ?_ (hlast j).symm
        rcases (show j = 0 ∨ j = 1 ∨ j = 2 ∨ j = 3 by omega) with rfl | rfl | rfl | rfl
        · simp (disch := omega) only [ms_sn, ms_se]
          rfl
        · simp (disch := omega) only [ms_sn, ms_se]
          rfl
        · simp (disch := omega) only [ms_sn, ms_se]
          rfl
        · simp (disch := omega) only [ms_sn, ms_se]
          rfl
