/-! PURE 3: a row that takes one more and lets its oldest go -/
def pushN (n m : Nat) : Nat := if n < m then n + 1 else m
def pushR (n m : Nat) (r : Nat → Nat → Int32) (new : Nat → Int32) (i j : Nat) : Int32 := if n < m then (if i < n then r i j else new j) else (if i + 1 < m then r (i + 1) j else new j)
theorem pushR_congr {n m : Nat} {r r2 : Nat → Nat → Int32} {new : Nat → Int32} {i j : Nat} (hm : n ≤ m) (h : ∀ i, i < n → r i j = r2 i j) : pushR n m r new i j = pushR n m r2 new i j := by
  unfold pushR
  by_cases c : n < m
  · rw [if_pos c, if_pos c]
    by_cases c2 : i < n
    · rw [if_pos c2, if_pos c2, h i c2]
    · rw [if_neg c2, if_neg c2]
  · rw [if_neg c, if_neg c]
    by_cases c2 : i + 1 < m
    · rw [if_pos c2, if_pos c2, h (i + 1) (by omega)]
    · rw [if_neg c2, if_neg c2]
-- the class: a new last row of w cells, all free to be set
theorem sp_append {I : zM} {h R w n : Nat} (hT : TB I h R w n) (hR1 : 1 ≤ R) : ∃ M, f_X4_append I h = some (nI (pushN n R - 1), M) ∧ TB M h R w (pushN n R) ∧ (∀ b, b ≠ h → b ≠ h + 1 → M b = I b) ∧ (∀ i j, i < pushN n R → j < w → M (h + 1) (i * w + j) = pushR n R (fun i j => I (h + 1) (i * w + j)) (fun _ => 0) i j) := by
  have hT0 := hT
  obtain ⟨h0, h1, h3, hnR, hL, hR, hw1, hw5, hRw⟩ := hT
  by_cases c : n < R
  · refine ⟨zer (ms I h 3 (nI (n + 1))) (h + 1) (n * w) ((n + 1) * w), ?_, ?_, ?_, ?_⟩
    · rw [sp_append_lt hT0 c]
      unfold pushN
      rw [if_pos c, Nat.add_sub_cancel]
    · unfold pushN
      rw [if_pos c]
      refine TM.b ⟨?_, ?_, hL, hR, hw1, hw5, hRw⟩ ?_ (by omega)
      · rw [zer_n (by omega), ms_sn (by decide)]; exact h0
      · rw [zer_n (by omega), ms_sn (by decide)]; exact h1
      · rw [zer_n (by omega), ms_ss]
    · intro b hb hb1
      rw [zer_n hb1, ms_n hb]
    · intro i j hi hj
      unfold pushN at hi
      rw [if_pos c] at hi
      unfold pushR
      rw [if_pos c, zer_s]
      by_cases c2 : i < n
      · have := z_lin c2 (Nat.le_refl n) hj
        rw [if_pos c2, if_neg (by omega), ms_n (by omega)]
      · have hin : i = n := by omega
        subst hin
        have e1 : (i + 1) * w = i * w + w := Nat.succ_mul i w
        rw [if_neg c2, if_pos (by omega)]
  · have hn : n = R := by omega
    subst hn
    have e1 : n * w = (n - 1) * w + w := by
      have := Nat.succ_mul (n - 1) w
      rw [show (n - 1).succ = n by omega] at this
      exact this
    refine ⟨zer (shL I (h + 1) 0 ((n - 1) * w) w) (h + 1) ((n - 1) * w) (n * w), ?_, ?_, ?_, ?_⟩
    · rw [sp_append_full hT0 hR1]
      unfold pushN
      rw [if_neg c]
    · unfold pushN
      rw [if_neg c]
      refine TM.b ⟨?_, ?_, hL, hR, hw1, hw5, hRw⟩ ?_ (by omega)
      · rw [zer_n (by omega), shL_n (by omega)]; exact h0
      · rw [zer_n (by omega), shL_n (by omega)]; exact h1
      · rw [zer_n (by omega), shL_n (by omega)]; exact h3
    · intro b hb hb1
      rw [zer_n hb1, shL_n hb1]
    · intro i j hi hj
      unfold pushN at hi
      rw [if_neg c] at hi
      unfold pushR
      rw [if_neg c, zer_s, shL_s]
      by_cases c2 : i + 1 < n
      · have h9 := z_lin (show i < n - 1 by omega) (Nat.le_refl _) hj
        have e3 : (i + 1) * w = i * w + w := Nat.succ_mul i w
        rw [if_pos c2, if_neg (by omega), if_pos (by omega), show i * w + j + w = (i + 1) * w + j by omega]
      · have hin : i = n - 1 := by omega
        rw [if_neg c2, hin, if_pos (by omega)]
-- the reference: the place for a new row of w numbers
theorem l_place18 {t b w m y6 : Nat} {x2 : Int32} (K : zM → Option (Int32 × zM)) (hb : 180 + t * 90 + b + w * m ≤ 1087) (hw : 1 ≤ w) (hm : 1 ≤ m) : ∀ (d i fuel : Nat) (M : zM), w * (m - 1) = i + d → d < fuel →
    f_X9_placeFor_l18 (nI t) x2 (nI b) (nI w) (nI m) (nI y6) K fuel M (nI i) = K (shL M 1 (180 + t * 90 + b + i) (180 + t * 90 + b + w * (m - 1)) w) := by
  have hwm : w * m = w * (m - 1) + w := by
    have := Nat.mul_succ w (m - 1)
    rw [show (m - 1).succ = m by omega] at this
    exact this
  intro d
  induction d with
  | zero =>
    intro i fuel M hd hf
    obtain ⟨n, rfl⟩ : ∃ n, fuel = n + 1 := ⟨fuel - 1, by omega⟩
    rw [f_X9_placeFor_l18]
    simp (disch := omega) only [zlit, zofN, zneg, zle, zlt, zeq, pk_mul, pk_sub, nI_add, nI_clamp, zb_s, zlet_s, if_false, if_true, if_pos, if_neg, zck_1, zin_t]
    refine congrArg K (zM_ext1 1 (fun b hb => (shL_n hb).symm) (fun k => ?_))
    rw [shL_s, if_neg (by omega)]
  | succ d ih =>
    intro i fuel M hd hf
    obtain ⟨n, rfl⟩ : ∃ n, fuel = n + 1 := ⟨fuel - 1, by omega⟩
    rw [f_X9_placeFor_l18]
    simp (disch := omega) only [sp_t, sp_setT, zlit, zofN, zneg, zle, zlt, zeq, pk_mul, pk_sub, nI_add, nI_clamp, zb_s, zlet_s, if_false, if_true, if_pos, if_neg, zck_1, zin_t]
    rw [ih (i + 1) n _ (by omega) (by omega)]
    refine congrArg K (zM_ext1 1 (fun b hb => by rw [shL_n hb, shL_n hb, ms_n hb]) (fun k => ?_))
    rw [shL_s, shL_s, ms_at, ms_at]
    by_cases c1 : k = 180 + t * 90 + (b + i)
    · subst c1
      rw [if_neg (by omega), if_pos rfl, if_pos (by omega), show 180 + t * 90 + (b + i + w) = 180 + t * 90 + (b + i) + w by omega]
    · by_cases c2 : 180 + t * 90 + b + i ≤ k ∧ k < 180 + t * 90 + b + w * (m - 1)
      · rw [if_pos (by omega), if_pos c2, if_neg (by omega)]
      · rw [if_neg (by omega), if_neg c2, if_neg c1]
theorem sp_placeFor {J : zM} {t f b w m n : Nat} (hc : J 1 (180 + t * 90 + f) = nI n) (hn : n ≤ m) (hm : 1 ≤ m) (hw : 1 ≤ w) (hb : 180 + t * 90 + b + w * m ≤ 1087) (hf : f < b) : ∃ M, f_X9_placeFor J (nI t) (nI f) (nI b) (nI w) (nI m) = some (nI (b + w * (pushN n m - 1)), M) ∧ M 1 (180 + t * 90 + f) = nI (pushN n m) ∧ (∀ a, a ≠ 1 → M a = J a) ∧ (∀ k, k ≠ 180 + t * 90 + f → (k < 180 + t * 90 + b ∨ 180 + t * 90 + b + w * m ≤ k) → M 1 k = J 1 k) ∧ (∀ i j, i + 1 < pushN n m → j < w → M 1 (180 + t * 90 + (b + w * i + j)) = pushR n m (fun i j => J 1 (180 + t * 90 + (b + w * i + j))) (fun _ => 0) i j) := by
  have hz := zFu_big
  have hwm : w * m = w * (m - 1) + w := by
    have := Nat.mul_succ w (m - 1)
    rw [show (m - 1).succ = m by omega] at this
    exact this
  have hm9 : m ≤ w * m := Nat.le_mul_of_pos_left m hw
  have hw9 : w ≤ w * m := Nat.le_mul_of_pos_right w hm
  by_cases c : n < m
  · have e2 : w * (n + 1) ≤ w * m := Nat.mul_le_mul_left w (by omega)
    have e3 : w * (n + 1) = w * n + w := Nat.mul_succ w n
    refine ⟨ms J 1 (180 + t * 90 + f) (nI (n + 1)), ?_, ?_, ?_, ?_, ?_⟩
    · unfold f_X9_placeFor f_X9_placeFor_j60
      simp (disch := omega) only [sp_t, hc, sp_setT, zlit, zofN, zneg, zle, zlt, zeq, pk_mul, pk_sub, nI_add, nI_clamp, zb_s, zlet_s, if_false, if_true, if_pos, if_neg, zck_1, zin_t]
      unfold pushN
      rw [if_pos c, Nat.add_sub_cancel]
    · unfold pushN
      rw [if_pos c, ms_ss]
    · intro a ha
      rw [ms_n ha]
    · intro k hk hk2
      rw [ms_sn hk]
    · intro i j hi hj
      unfold pushN at hi
      rw [if_pos c] at hi
      unfold pushR
      rw [if_pos c, if_pos (by omega), ms_sn (by omega)]
  · have hnm : n = m := by omega
    subst hnm
    refine ⟨ms (shL J 1 (180 + t * 90 + b + 0) (180 + t * 90 + b + w * (n - 1)) w) 1 (180 + t * 90 + f) (nI n), ?_, ?_, ?_, ?_, ?_⟩
    · unfold f_X9_placeFor
      simp (disch := omega) only [sp_t, hc, zlit, zofN, zneg, zle, zlt, zeq, pk_mul, pk_sub, nI_add, nI_clamp, zb_s, zlet_s, if_false, if_true, if_pos, if_neg, zck_1, zin_t]
      rw [l_place18 _ hb hw hm (w * (n - 1)) 0 zFu J (by omega) (by omega)]
      obtain ⟨z, rfl⟩ : ∃ z, n = z + 1 := ⟨n - 1, by omega⟩
      unfold f_X9_placeFor_j60
      have em : (nI (z + 1) + -nI 1) = nI z := pk_m1 z
      simp (disch := omega) only [em, sp_setT, zlit, zofN, zneg, zle, zlt, zeq, pk_mul, pk_sub, nI_add, nI_clamp, zb_s, zlet_s, if_false, if_true, if_pos, if_neg, zck_1, zin_t]
      unfold pushN
      rw [if_neg c]
      rfl
    · unfold pushN
      rw [if_neg c, ms_ss]
    · intro a ha
      rw [ms_n ha, shL_n ha]
    · intro k hk hk2
      rw [ms_sn hk, shL_s, if_neg (by omega)]
    · intro i j hi hj
      unfold pushN at hi
      rw [if_neg c] at hi
      unfold pushR
      have e4 : w * (i + 1) ≤ w * (n - 1) := Nat.mul_le_mul_left w (by omega)
      have e5 : w * (i + 1) = w * i + w := Nat.mul_succ w i
      rw [if_neg c, if_pos hi, ms_sn (by omega), shL_s, if_pos (by omega), show 180 + t * 90 + (b + w * i + j) + w = 180 + t * 90 + (b + w * (i + 1) + j) by omega]
