/-! PURE 2: the tables of the class -/
-- cells lo .. hi-1 of row a take the values w further on
def shL (M : zM) (a lo hi w : Nat) : zM := fun b => if b = a then (fun k => if lo ≤ k ∧ k < hi then M a (k + w) else M a k) else M b
-- cells lo .. hi-1 of row a become 0
def zer (M : zM) (a lo hi : Nat) : zM := fun b => if b = a then (fun k => if lo ≤ k ∧ k < hi then 0 else M a k) else M b
-- cells lo .. hi-1 of row a take the values w before
def shR (M : zM) (a lo hi w : Nat) : zM := fun b => if b = a then (fun k => if lo ≤ k ∧ k < hi then M a (k - w) else M a k) else M b
theorem ms_at (I : zM) (k j : Nat) (v : Int32) (i : Nat) : ms I k j v k i = if i = j then v else I k i := by
  rw [ms_s]
  rfl
theorem shL_s (M : zM) (a lo hi w k : Nat) : shL M a lo hi w a k = if lo ≤ k ∧ k < hi then M a (k + w) else M a k := by
  unfold shL
  rw [if_pos rfl]
theorem shL_n {M : zM} {a lo hi w b : Nat} (h : b ≠ a) : shL M a lo hi w b = M b := if_neg h
theorem zer_s (M : zM) (a lo hi k : Nat) : zer M a lo hi a k = if lo ≤ k ∧ k < hi then 0 else M a k := by
  unfold zer
  rw [if_pos rfl]
theorem zer_n {M : zM} {a lo hi b : Nat} (h : b ≠ a) : zer M a lo hi b = M b := if_neg h
theorem shR_s (M : zM) (a lo hi w k : Nat) : shR M a lo hi w a k = if lo ≤ k ∧ k < hi then M a (k - w) else M a k := by
  unfold shR
  rw [if_pos rfl]
theorem shR_n {M : zM} {a lo hi w b : Nat} (h : b ≠ a) : shR M a lo hi w b = M b := if_neg h
theorem zM_ext {M N : zM} (h : ∀ b k, M b k = N b k) : M = N := funext fun b => funext fun k => h b k
theorem zM_ext1 {M N : zM} (a : Nat) (h : ∀ b, b ≠ a → M b = N b) (h2 : ∀ k, M a k = N a k) : M = N := by
  funext b
  by_cases hb : b = a
  · subst hb
    exact funext h2
  · exact h b hb
theorem num_sub_neg {a b : Nat} (h : a < b) (hb : b < 2 ^ 31) : nI a - nI b < 0 := by
  rw [Int32.lt_iff_toInt_lt, Int32.toInt_sub, nI_toInt (by omega), nI_toInt hb]
  have h0 : (0 : Int32).toInt = 0 := by decide
  rw [h0, Int.bmod_eq_of_le (by omega) (by omega)]
  omega
theorem num_neg_lt {x : Int32} {b : Nat} (h : x < 0) (hb : b < 2 ^ 31) : x < nI b := by
  rw [Int32.lt_iff_toInt_lt] at h ⊢
  rw [nI_toInt hb]
  have h0 : (0 : Int32).toInt = 0 := by decide
  rw [h0] at h
  omega
theorem shL_step {M : zM} {a y len w : Nat} (q : y + w < len) : shL (ms M a y (M a (y + w))) a (y + 1) (len - w) w = shL M a y (len - w) w := by
  refine zM_ext1 a (fun b hb => by rw [shL_n hb, shL_n hb, ms_n hb]) (fun k => ?_)
  rw [shL_s, shL_s, ms_at, ms_at]
  by_cases c1 : k = y
  · subst c1
    rw [if_neg (by omega), if_pos rfl, if_pos (by omega)]
  · by_cases c2 : y ≤ k ∧ k < len - w
    · rw [if_pos (by omega), if_pos c2, if_neg (by omega)]
    · rw [if_neg (by omega), if_neg c2, if_neg c1]
theorem shL_none {M : zM} {a y len w : Nat} (q : len ≤ y + w) : shL M a y (len - w) w = M :=
  zM_ext1 a (fun b hb => shL_n hb) (fun k => by rw [shL_s, if_neg (by omega)])
theorem l_append26 {h len w : Nat} (K : zM → Option (Int32 × zM)) (hL : zLn (h + 1) = len) (hlen : len ≤ 200) (hw : w ≤ 5) : ∀ (d y fuel : Nat) (M : zM), M h 1 = nI w → len = y + d → d < fuel →
    f_X4_append_l26 h K fuel M (nI y) = K (shL M (h + 1) y (len - w) w) := by
  intro d
  induction d with
  | zero =>
    intro y fuel M h1 hd hf
    obtain ⟨n, rfl⟩ : ∃ n, fuel = n + 1 := ⟨fuel - 1, by omega⟩
    rw [f_X4_append_l26, shL_none (by omega)]
    simp (disch := omega) only [hL, zlit, zofN, zneg, zle, zlt, zeq, pk_mul, pk_sub, nI_add, nI_clamp, zb_s, zlet_s, if_false, if_true, if_pos, if_neg, zck_1, zin_t]
  | succ d ih =>
    intro y fuel M h1 hd hf
    obtain ⟨n, rfl⟩ : ∃ n, fuel = n + 1 := ⟨fuel - 1, by omega⟩
    rw [f_X4_append_l26]
    rcases Nat.lt_or_ge (y + w) len with q | q
    · simp (disch := omega) only [hL, h1, zlit, zofN, zneg, zle, zlt, zeq, pk_mul, pk_sub, nI_add, nI_clamp, zb_s, zlet_s, if_false, if_true, if_pos, if_neg, zck_1, zin_t]
      rw [ih (y + 1) n _ (by rw [ms_n (by omega)]; exact h1) (by omega) (by omega), shL_step q]
    · simp (disch := omega) only [hL, h1, zlit, zofN, zneg, zle, zlt, zeq, pk_mul, pk_sub, nI_add, nI_clamp, zb_s, zlet_s, if_false, if_true, if_pos, if_neg, zck_1, zin_t]
      rw [ih (y + 1) n M h1 (by omega) (by omega), shL_none (by omega), shL_none q]
theorem l_append85 {h n w len : Nat} (hL : zLn (h + 1) = len) (hlen : len ≤ 200) (hw : 1 ≤ w) (hw5 : w ≤ 5) (hn : 1 ≤ n) (hnw : n * w ≤ len) : ∀ (d y fuel : Nat) (M : zM), M h 3 = nI n → M h 1 = nI w → n * w = y + d → d < fuel →
    f_X4_append_l85 h fuel M (nI y) = some (nI (n - 1), zer M (h + 1) y (n * w)) := by
  have hn200 : n ≤ 200 := by
    have := Nat.le_mul_of_pos_right n hw
    omega
  intro d
  induction d with
  | zero =>
    intro y fuel M h3 h1 hd hf
    obtain ⟨m, rfl⟩ : ∃ m, fuel = m + 1 := ⟨fuel - 1, by omega⟩
    rw [f_X4_append_l85]
    simp (disch := omega) only [hL, h3, h1, zlit, zofN, zneg, zle, zlt, zeq, pk_mul, pk_sub, nI_add, nI_clamp, zb_s, zlet_s, if_false, if_true, if_pos, if_neg, zck_1, zin_t]
    refine congrArg (fun z => some (nI (n - 1), z)) (zM_ext1 (h + 1) (fun b hb => (zer_n hb).symm) (fun k => ?_))
    rw [zer_s, if_neg (by omega)]
  | succ d ih =>
    intro y fuel M h3 h1 hd hf
    obtain ⟨m, rfl⟩ : ∃ m, fuel = m + 1 := ⟨fuel - 1, by omega⟩
    rw [f_X4_append_l85]
    simp (disch := omega) only [hL, h3, h1, zlit, zofN, zneg, zle, zlt, zeq, pk_mul, pk_sub, nI_add, nI_clamp, zb_s, zlet_s, if_false, if_true, if_pos, if_neg, zck_1, zin_t]
    rw [ih (y + 1) m _ (by rw [ms_n (by omega)]; exact h3) (by rw [ms_n (by omega)]; exact h1) (by omega) (by omega)]
    refine congrArg (fun z => some (nI (n - 1), z)) (zM_ext1 (h + 1) (fun b hb => by rw [zer_n hb, zer_n hb, ms_n hb]) (fun k => ?_))
    rw [zer_s, zer_s, ms_at]
    by_cases c1 : k = y
    · subst c1
      rw [if_neg (by omega), if_pos rfl, if_pos (by omega)]
      rfl
    · by_cases c2 : y ≤ k ∧ k < n * w
      · rw [if_pos (by omega), if_pos c2]
      · rw [if_neg (by omega), if_neg c2, if_neg c1]
theorem zFu_big : 1500 < zFu := by decide
theorem sp_append_lt {I : zM} {h R w n : Nat} (hT : TB I h R w n) (hn : n < R) : f_X4_append I h = some (nI n, zer (ms I h 3 (nI (n + 1))) (h + 1) (n * w) ((n + 1) * w)) := by
  obtain ⟨h0, h1, h3, hnR, hL, hR, hw1, hw5, hRw⟩ := hT
  have hz := zFu_big
  have e1 : (n + 1) * w = n * w + w := Nat.succ_mul n w
  have e2 : (n + 1) * w ≤ R * w := Nat.mul_le_mul_right w (by omega)
  unfold f_X4_append f_X4_append_j73
  simp (disch := omega) only [h0, h3, h1, ms_ss, ms_sn, zlit, zofN, zneg, zle, zlt, zeq, pk_mul, pk_sub, nI_add, nI_clamp, zb_s, zlet_s, if_false, if_true, if_pos, if_neg, zck_1, zin_t]
  rw [Nat.add_sub_cancel]
  rw [l_append85 hL hRw hw1 hw5 (show 1 ≤ n + 1 by omega) e2 w (n * w) zFu _ (ms_ss _ _ _ _) (by rw [ms_sn (by decide)]; exact h1) e1 (by omega)]
  rfl
theorem sp_append_full {I : zM} {h R w : Nat} (hT : TB I h R w R) (hR1 : 1 ≤ R) : f_X4_append I h = some (nI (R - 1), zer (shL I (h + 1) 0 ((R - 1) * w) w) (h + 1) ((R - 1) * w) (R * w)) := by
  obtain ⟨h0, h1, h3, hnR, hL, hR, hw1, hw5, hRw⟩ := hT
  have hz := zFu_big
  have e1 : R * w = (R - 1) * w + w := by
    have := Nat.succ_mul (R - 1) w
    rw [show (R - 1).succ = R by omega] at this
    exact this
  unfold f_X4_append f_X4_append_j73
  simp (disch := omega) only [h0, h3, h1, zlit, zofN, zneg, zle, zlt, zeq, pk_mul, pk_sub, nI_add, nI_clamp, zb_s, zlet_s, if_false, if_true, if_pos, if_neg, zck_1, zin_t]
  rw [l_append26 _ hL hRw hw5 (R * w) 0 zFu I h1 (by omega) (by omega)]
  have g3 : shL I (h + 1) 0 (R * w - w) w h 3 = nI R := by rw [shL_n (by omega)]; exact h3
  have g1 : shL I (h + 1) 0 (R * w - w) w h 1 = nI w := by rw [shL_n (by omega)]; exact h1
  simp (disch := omega) only [g3, g1, zlit, zofN, zneg, zle, zlt, zeq, pk_mul, pk_sub, nI_add, nI_clamp, zb_s, zlet_s, if_false, if_true, if_pos, if_neg, zck_1, zin_t]
  rw [l_append85 hL hRw hw1 hw5 hR1 (Nat.le_refl _) w ((R - 1) * w) zFu _ g3 g1 e1 (by omega), show R * w - w = (R - 1) * w by omega]
def cp (M : zM) (a a2 lo hi : Nat) : zM := fun b => if b = a then (fun k => if lo ≤ k ∧ k < hi then M a2 k else M a k) else M b
theorem cp_s (M : zM) (a a2 lo hi k : Nat) : cp M a a2 lo hi a k = if lo ≤ k ∧ k < hi then M a2 k else M a k := by
  unfold cp
  rw [if_pos rfl]
theorem cp_n {M : zM} {a a2 lo hi b : Nat} (h : b ≠ a) : cp M a a2 lo hi b = M b := if_neg h
theorem l_remove20 {h n w len : Nat} (hL : zLn (h + 1) = len) (hlen : len ≤ 200) (hw : 1 ≤ w) (hw5 : w ≤ 5) (hn : 1 ≤ n) (hn2 : n ≤ 200) : ∀ (d y fuel : Nat) (M : zM), M h 3 = nI n → M h 1 = nI w → len = y + d → d < fuel →
    f_X4_remove_l20 h fuel M (nI y) = some (ms (shL M (h + 1) y (len - w) w) h 3 (nI (n - 1))) := by
  intro d
  induction d with
  | zero =>
    intro y fuel M h3 h1 hd hf
    obtain ⟨m, rfl⟩ : ∃ m, fuel = m + 1 := ⟨fuel - 1, by omega⟩
    rw [f_X4_remove_l20, shL_none (by omega)]
    simp (disch := omega) only [hL, h3, h1, zlit, zofN, zneg, zle, zlt, zeq, pk_mul, pk_sub, nI_add, nI_clamp, zb_s, zlet_s, if_false, if_true, if_pos, if_neg, zck_1, zin_t]
  | succ d ih =>
    intro y fuel M h3 h1 hd hf
    obtain ⟨m, rfl⟩ : ∃ m, fuel = m + 1 := ⟨fuel - 1, by omega⟩
    rw [f_X4_remove_l20]
    rcases Nat.lt_or_ge (y + w) len with q | q
    · simp (disch := omega) only [hL, h3, h1, zlit, zofN, zneg, zle, zlt, zeq, pk_mul, pk_sub, nI_add, nI_clamp, zb_s, zlet_s, if_false, if_true, if_pos, if_neg, zck_1, zin_t]
      rw [ih (y + 1) m _ (by rw [ms_n (by omega)]; exact h3) (by rw [ms_n (by omega)]; exact h1) (by omega) (by omega), shL_step q]
    · simp (disch := omega) only [hL, h3, h1, zlit, zofN, zneg, zle, zlt, zeq, pk_mul, pk_sub, nI_add, nI_clamp, zb_s, zlet_s, if_false, if_true, if_pos, if_neg, zck_1, zin_t]
      rw [ih (y + 1) m M h3 h1 (by omega) (by omega), shL_none (by omega), shL_none q]
theorem sp_remove {I : zM} {h R w n : Nat} (hT : TB I h R w n) {i : Nat} (hi : i < n) : f_X4_remove I h (nI i) = some (ms (shL I (h + 1) (i * w) ((R - 1) * w) w) h 3 (nI (n - 1))) := by
  obtain ⟨h0, h1, h3, hnR, hL, hR, hw1, hw5, hRw⟩ := hT
  have hz := zFu_big
  have e1 : R * w = (R - 1) * w + w := by
    have := Nat.succ_mul (R - 1) w
    rw [show (R - 1).succ = R by omega] at this
    exact this
  have e2 : i * w ≤ (R - 1) * w := Nat.mul_le_mul_right w (by omega)
  unfold f_X4_remove
  simp (disch := omega) only [h0, h3, h1, zlit, zofN, zneg, zle, zlt, zeq, pk_mul, pk_sub, nI_add, nI_clamp, zb_s, zlet_s, if_false, if_true, if_pos, if_neg, zck_1, zin_t]
  rw [l_remove20 hL hRw hw1 hw5 (by omega) (by omega) (R * w - i * w) (i * w) zFu I h3 h1 (by omega) (by omega), show R * w - w = (R - 1) * w by omega]
theorem shR_none {M : zM} {a first w hi : Nat} (q : hi ≤ first + w) : shR M a (first + w) hi w = M :=
  zM_ext1 a (fun b hb => shR_n hb) (fun k => by rw [shR_s, if_neg (by omega)])
theorem shR_step {M : zM} {a first y w : Nat} (q : first + w ≤ y) (hw : 1 ≤ w) : shR (ms M a y (M a (y - w))) a (first + w) y w = shR M a (first + w) (y + 1) w := by
  refine zM_ext1 a (fun b hb => by rw [shR_n hb, shR_n hb, ms_n hb]) (fun k => ?_)
  rw [shR_s, shR_s, ms_at, ms_at]
  by_cases c1 : k = y
  · subst c1
    rw [if_neg (by omega), if_pos rfl, if_pos (by omega)]
  · by_cases c2 : first + w ≤ k ∧ k < y + 1
    · rw [if_pos (by omega), if_pos c2, if_neg (by omega)]
    · rw [if_neg (by omega), if_neg c2, if_neg c1]
theorem l_ins_end {h first n : Nat} (M : zM) : f_X4_insert_l24 h (nI first) (n + 1) M (-1) = some M := by
  rw [f_X4_insert_l24, if_pos (by decide)]
theorem l_insert24 {h first w len : Nat} (hL : zLn (h + 1) = len) (hlen : len ≤ 200) (hw : 1 ≤ w) (hw5 : w ≤ 5) (hfi : first ≤ 200) : ∀ (y fuel : Nat) (M : zM), M h 1 = nI w → y < len → y + 1 < fuel →
    f_X4_insert_l24 h (nI first) fuel M (nI y) = some (shR M (h + 1) (first + w) (y + 1) w) := by
  intro y
  induction y with
  | zero =>
    intro fuel M h1 hyl hf
    obtain ⟨m, rfl⟩ : ∃ m, fuel = m + 1 + 1 := ⟨fuel - 2, by omega⟩
    rw [f_X4_insert_l24, shR_none (by omega), if_neg (show ¬ nI 0 < 0 by decide), if_neg (show ¬ Int32.ofNat (zLn (h + 1)) ≤ nI 0 by rw [hL, zofN, zle (by omega) (by omega)]; omega), zlet_s, h1, if_pos (show nI 0 - nI w < nI first from num_neg_lt (num_sub_neg (by omega) (by omega)) (by omega))]
    rw [show nI 0 + (-1) = (-1 : Int32) by decide]
    exact l_ins_end M
  | succ z ih =>
    intro fuel M h1 hyl hf
    obtain ⟨m, rfl⟩ : ∃ m, fuel = m + 1 := ⟨fuel - 1, by omega⟩
    rw [f_X4_insert_l24, if_neg (show ¬ nI (z + 1) < 0 from nI_pos (by omega)), if_neg (show ¬ Int32.ofNat (zLn (h + 1)) ≤ nI (z + 1) by rw [hL, zofN, zle (by omega) (by omega)]; omega), zlet_s, h1, pk_m1]
    rcases Nat.lt_or_ge (z + 1) w with q | q
    · rw [if_pos (show nI (z + 1) - nI w < nI first from num_neg_lt (num_sub_neg q (by omega)) (by omega)), ih m M h1 (by omega) (by omega), shR_none (by omega), shR_none (by omega)]
    · rw [pk_sub (by omega)]
      rcases Nat.lt_or_ge (z + 1) (first + w) with q2 | q2
      · rw [if_pos (show nI (z + 1 - w) < nI first by rw [zlt (by omega) (by omega)]; omega), ih m M h1 (by omega) (by omega), shR_none (by omega), shR_none (by omega)]
      · simp (disch := omega) only [hL, zb_s, zlet_s, zck_1, zin_t, zle, zlt, zofN, zneg, zlit, nI_clamp, if_neg, if_pos, if_false]
        rw [ih m _ (by rw [ms_n (by omega)]; exact h1) (by omega) (by omega), shR_step q2 hw]
theorem sp_insert {I : zM} {h R w n : Nat} (hT : TB I h R w n) (hn : n < R) {i : Nat} (hi : i ≤ n) : f_X4_insert I h (nI i) = some (shR (zer (ms I h 3 (nI (n + 1))) (h + 1) (n * w) ((n + 1) * w)) (h + 1) (i * w + w) (R * w) w) := by
  have ha := sp_append_lt hT hn
  obtain ⟨h0, h1, h3, hnR, hL, hR, hw1, hw5, hRw⟩ := hT
  have hz := zFu_big
  have e2 : (i + 1) * w ≤ R * w := Nat.mul_le_mul_right w (by omega)
  have e3 : (i + 1) * w = i * w + w := Nat.succ_mul i w
  unfold f_X4_insert
  rw [ha, zb_s]
  have g1 : zer (ms I h 3 (nI (n + 1))) (h + 1) (n * w) ((n + 1) * w) h 1 = nI w := by rw [zer_n (by omega), ms_sn (by decide)]; exact h1
  simp (disch := omega) only [hL, g1, zlit, zofN, zneg, zle, zlt, zeq, pk_mul, pk_sub, nI_add, nI_clamp, zb_s, zlet_s, if_false, if_true, if_pos, if_neg, zck_1, zin_t]
  rw [l_insert24 hL hRw hw1 hw5 (by omega) (R * w - 1) zFu _ g1 (by omega) (by omega), show R * w - 1 + 1 = R * w by omega]
theorem l_copy27 {h h2 R w n : Nat} (K : zM → Option zM) (hne : h2 ≠ h) (hne1 : h2 ≠ h + 1) (hne2 : h2 + 1 ≠ h) {r : Nat} (hr : r < n) : ∀ (d y fuel : Nat) (M : zM), TB M h R w n → TB M h2 R w n → w = y + d → d < fuel →
    f_X4_copyFrom_l27 h h2 (nI r) K fuel M (nI y) = K (cp M (h + 1) (h2 + 1) (r * w + y) (r * w + w)) := by
  intro d
  induction d with
  | zero =>
    intro y fuel M hT hT2 hd hf
    obtain ⟨m, rfl⟩ : ∃ m, fuel = m + 1 := ⟨fuel - 1, by omega⟩
    rw [f_X4_copyFrom_l27]
    have h1 := hT.2.1
    have hw5 := hT.2.2.2.2.2.2.2.1
    simp (disch := omega) only [h1, zlit, zofN, zneg, zle, zlt, zeq, pk_mul, pk_sub, nI_add, nI_clamp, zb_s, zlet_s, if_false, if_true, if_pos, if_neg, zck_1, zin_t]
    refine congrArg K (zM_ext1 (h + 1) (fun b hb => (cp_n hb).symm) (fun k => ?_))
    rw [cp_s, if_neg (by omega)]
  | succ d ih =>
    intro y fuel M hT hT2 hd hf
    obtain ⟨m, rfl⟩ : ∃ m, fuel = m + 1 := ⟨fuel - 1, by omega⟩
    rw [f_X4_copyFrom_l27]
    have h1 := hT.2.1
    have hw5 := hT.2.2.2.2.2.2.2.1
    rw [sp_cell hT2 hr (show y < w by omega), zb_s, sp_setCell hT hr (show y < w by omega), zb_s]
    simp (disch := omega) only [h1, zlit, zofN, zneg, zle, zlt, zeq, pk_mul, pk_sub, nI_add, nI_clamp, zb_s, zlet_s, if_false, if_true, if_pos, if_neg, zck_1, zin_t]
    have hT' : TB (ms M (h + 1) (r * w + y) (M (h2 + 1) (r * w + y))) h R w n := by
      unfold TB
      rw [ms_n (by omega)]
      exact hT
    have hT2' : TB (ms M (h + 1) (r * w + y) (M (h2 + 1) (r * w + y))) h2 R w n := by
      unfold TB
      rw [ms_n (by omega)]
      exact hT2
    rw [ih (y + 1) m _ hT' hT2' (by omega) (by omega)]
    refine congrArg K (zM_ext1 (h + 1) (fun b hb => by rw [cp_n hb, cp_n hb, ms_n hb]) (fun k => ?_))
    rw [cp_s, cp_s, ms_at, ms_n (show h2 + 1 ≠ h + 1 by omega)]
    by_cases c1 : k = r * w + y
    · subst c1
      rw [if_neg (by omega), if_pos rfl, if_pos (by omega)]
    · by_cases c2 : r * w + y ≤ k ∧ k < r * w + w
      · rw [if_pos (by omega), if_pos c2]
      · rw [if_neg (by omega), if_neg c2, if_neg c1]
theorem l_copy17 {h h2 R w n : Nat} (hne : h2 ≠ h) (hne1 : h2 ≠ h + 1) (hne2 : h2 + 1 ≠ h) : ∀ (d r fuel : Nat) (M : zM), TB M h R w n → TB M h2 R w n → n = r + d → d < fuel →
    f_X4_copyFrom_l17 h h2 fuel M (nI r) = some (cp M (h + 1) (h2 + 1) (r * w) (n * w)) := by
  intro d
  induction d with
  | zero =>
    intro r fuel M hT hT2 hd hf
    obtain ⟨m, rfl⟩ : ∃ m, fuel = m + 1 := ⟨fuel - 1, by omega⟩
    rw [f_X4_copyFrom_l17]
    obtain ⟨h0, h1, h3, hnR, hL, hR, hw1, hw5, hRw⟩ := hT
    have hrn : r = n := by omega
    subst hrn
    simp (disch := omega) only [h3, zlit, zofN, zneg, zle, zlt, zeq, pk_mul, pk_sub, nI_add, nI_clamp, zb_s, zlet_s, if_false, if_true, if_pos, if_neg, zck_1, zin_t]
    refine congrArg some (zM_ext1 (h + 1) (fun b hb => (cp_n hb).symm) (fun k => ?_))
    rw [cp_s, if_neg (by omega)]
  | succ d ih =>
    intro r fuel M hT hT2 hd hf
    obtain ⟨m, rfl⟩ : ∃ m, fuel = m + 1 := ⟨fuel - 1, by omega⟩
    rw [f_X4_copyFrom_l17]
    have h3 := hT.2.2.1
    have hnR := hT.2.2.2.1
    have hR := hT.2.2.2.2.2.1
    have hw5 := hT.2.2.2.2.2.2.2.1
    have hz := zFu_big
    simp (disch := omega) only [h3, zlit, zofN, zneg, zle, zlt, zeq, pk_mul, pk_sub, nI_add, nI_clamp, zb_s, zlet_s, if_false, if_true, if_pos, if_neg, zck_1, zin_t]
    rw [show (nI 0 : Int32) = nI 0 from rfl, l_copy27 _ hne hne1 hne2 (show r < n by omega) w 0 zFu M hT hT2 (by omega) (by omega)]
    skip
    have hT' : TB (cp M (h + 1) (h2 + 1) (r * w + 0) (r * w + w)) h R w n := by
      unfold TB
      rw [cp_n (by omega)]
      exact hT
    have hT2' : TB (cp M (h + 1) (h2 + 1) (r * w + 0) (r * w + w)) h2 R w n := by
      unfold TB
      rw [cp_n (by omega)]
      exact hT2
    have e3 : (r + 1) * w = r * w + w := Nat.succ_mul r w
    have e4 : (r + 1) * w ≤ n * w := Nat.mul_le_mul_right w (by omega)
    rw [ih (r + 1) m _ hT' hT2' (by omega) (by omega)]
    refine congrArg some (zM_ext1 (h + 1) (fun b hb => by rw [cp_n hb, cp_n hb, cp_n hb]) (fun k => ?_))
    rw [cp_s, cp_s, cp_s, cp_n (show h2 + 1 ≠ h + 1 by omega)]
    by_cases c2 : r * w ≤ k ∧ k < n * w
    · rw [if_pos c2]
      by_cases c3 : (r + 1) * w ≤ k ∧ k < n * w
      · rw [if_pos c3]
      · rw [if_neg c3, if_pos (by omega)]
    · rw [if_neg c2, if_neg (by omega), if_neg (by omega)]
-- the table at h has its measures, whatever its size
def TM (I : zM) (h R w : Nat) : Prop := I h 0 = nI R ∧ I h 1 = nI w ∧ zLn (h + 1) = R * w ∧ R ≤ 200 ∧ 1 ≤ w ∧ w ≤ 5 ∧ R * w ≤ 200
theorem TB.m {I : zM} {h R w n : Nat} (hT : TB I h R w n) : TM I h R w := ⟨hT.1, hT.2.1, hT.2.2.2.2⟩
theorem TM.b {I : zM} {h R w n : Nat} (hT : TM I h R w) (h3 : I h 3 = nI n) (hn : n ≤ R) : TB I h R w n := ⟨hT.1, hT.2.1, h3, hn, hT.2.2⟩
theorem sp_copy {I : zM} {h h2 R w n : Nat} (hT : TM I h R w) (hT2 : TB I h2 R w n) (hne : h2 ≠ h) (hne1 : h2 ≠ h + 1) (hne2 : h2 + 1 ≠ h) : f_X4_copyFrom I h h2 = some (cp (ms I h 3 (nI n)) (h + 1) (h2 + 1) 0 (n * w)) := by
  have h0 := hT.1
  have h3 := hT2.2.2.1
  have hn := hT2.2.2.2.1
  have hR := hT.2.2.2.1
  have hz := zFu_big
  unfold f_X4_copyFrom
  simp (disch := omega) only [h0, h3, zlit, zofN, zneg, zle, zlt, zeq, pk_mul, pk_sub, nI_add, nI_clamp, zb_s, zlet_s, if_false, if_true, if_pos, if_neg, zck_1, zin_t]
  have hmin : (if R < n then nI R else nI n) = nI n := if_neg (by omega)
  clear hmin
  have hT' : TB (ms I h 3 (nI n)) h R w n := by
    refine TM.b ⟨?_, ?_, hT.2.2⟩ (ms_ss _ _ _ _) hn
    · rw [ms_sn (by decide)]; exact hT.1
    · rw [ms_sn (by decide)]; exact hT.2.1
  have hT2' : TB (ms I h 3 (nI n)) h2 R w n := by
    unfold TB
    rw [ms_n hne]
    exact hT2
  rw [l_copy17 hne hne1 hne2 n 0 zFu _ hT' hT2' (by omega) (by omega), Nat.zero_mul]
theorem sp_clear (I : zM) (h : Nat) : f_X4_clear I h = some (ms I h 3 (nI 0)) := rfl
