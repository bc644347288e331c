/-! PURE 1: words for numbers, and what the small functions answer -/
theorem zb_s {α β : Type} (q : β) (k : β → Option α) : zb (some q) k = k q := id rfl
theorem zlet_s {α β : Type} (v : β) (k : β → Option α) : zlet v k = k v := id rfl
theorem zck_t {α : Type} {b : Bool} {k : Option α} (h : b = true) : zck b k = k := if_pos h
theorem zck_1 {α : Type} {k : Option α} : zck true k = k := id rfl
theorem ms_se {I : zM} {k j i : Nat} {v : Int32} (h : i = j) : ms I k j v k i = v := by rw [h]; exact ms_ss I k j v
theorem zlit (n : Nat) : (OfNat.ofNat n : Int32) = nI n := id rfl
theorem zin_t {i n : Nat} (h : i < n) (hn : n < 2 ^ 31) : zin (nI i) n = true := by
  unfold zin
  have h1 : ¬ nI i < 0 := nI_pos (by omega)
  rw [nI_clamp (by omega)]
  simp [h1, h]
theorem zneg {a : Nat} (h : a < 2 ^ 31) : (nI a < nI 0) = False := by
  rw [nI_ltI h (by decide)]
  simp
theorem zle {a b : Nat} (ha : a < 2 ^ 31) (hb : b < 2 ^ 31) : (nI a ≤ nI b) = (a ≤ b) := propext (nI_leI ha hb)
theorem zlt {a b : Nat} (ha : a < 2 ^ 31) (hb : b < 2 ^ 31) : (nI a < nI b) = (a < b) := propext (nI_ltI ha hb)
theorem zeq {a b : Nat} (ha : a < 2 ^ 31) (hb : b < 2 ^ 31) : (nI a = nI b) = (a = b) := propext (nI_eq ha hb)
theorem zofN (n : Nat) : Int32.ofNat n = nI n := id rfl
-- a table at cell h of n rows of width w is well laid
def TB (I : zM) (h R w n : Nat) : Prop := I h 0 = nI R ∧ I h 1 = nI w ∧ I h 3 = nI n ∧ n ≤ R ∧ zLn (h + 1) = R * w ∧ R ≤ 200 ∧ 1 ≤ w ∧ w ≤ 5 ∧ R * w ≤ 200
theorem sp_size {I : zM} {h R w n : Nat} (hT : TB I h R w n) : f_X4_size I h = some (nI n) := by
  unfold f_X4_size
  rw [hT.2.2.1]
theorem z_lin {R w n i j : Nat} (hi : i < n) (hn : n ≤ R) (hj : j < w) : i * w + j < R * w := by
  have h1 : (i + 1) * w ≤ R * w := Nat.mul_le_mul_right w (by omega)
  have h2 : (i + 1) * w = i * w + w := Nat.succ_mul i w
  omega
theorem sp_cell {I : zM} {h R w n : Nat} (hT : TB I h R w n) {i j : Nat} (hi : i < n) (hj : j < w) : f_X4_cell I h (nI i) (nI j) = some (I (h + 1) (i * w + j)) := by
  obtain ⟨h0, h1, h3, hn, hL, hR, hw1, hw5, hRw⟩ := hT
  have hlt := z_lin hi hn hj
  unfold f_X4_cell
  simp (disch := omega) only [h1, h3, hL, zlit, zofN, zneg, zle, zlt, zeq, pk_mul, pk_sub, nI_add, nI_clamp, zb_s, zlet_s, if_false, if_true, if_pos, if_neg, zck_1, zin_t]
theorem sp_setCell {I : zM} {h R w n : Nat} (hT : TB I h R w n) {i j : Nat} (hi : i < n) (hj : j < w) (v : Int32) : f_X4_setCell I h (nI i) (nI j) v = some (ms I (h + 1) (i * w + j) v) := by
  obtain ⟨h0, h1, h3, hn, hL, hR, hw1, hw5, hRw⟩ := hT
  have hlt := z_lin hi hn hj
  unfold f_X4_setCell
  simp (disch := omega) only [h1, h3, hL, zlit, zofN, zneg, zle, zlt, zeq, pk_mul, pk_sub, nI_add, nI_clamp, zb_s, zlet_s, if_false, if_true, if_pos, if_neg, zck_1, zin_t]
theorem sp_personAt (I : zM) (o : Nat) {q : Nat} (hq : q < 12) : f_X2_personAt I o (nI q) = some (o + 15 + 2 * q) := by
  unfold f_X2_personAt
  simp (disch := omega) only [zlit, zofN, zneg, zle, zlt, zeq, pk_mul, pk_sub, nI_add, nI_clamp, zb_s, zlet_s, if_false, if_true, if_pos, if_neg, zck_1, zin_t]
theorem sp_toolAt (I : zM) (o : Nat) {t : Nat} (ht : t < 10) : f_X2_toolAt I o (nI t) = some (o + 39 + 7 * t) := by
  unfold f_X2_toolAt
  simp (disch := omega) only [zlit, zofN, zneg, zle, zlt, zeq, pk_mul, pk_sub, nI_add, nI_clamp, zb_s, zlet_s, if_false, if_true, if_pos, if_neg, zck_1, zin_t]
theorem sp_t (J : zM) {t f : Nat} (h : 180 + t * 90 + f < 1087) : f_X9_t J (nI t) (nI f) = some (J 1 (180 + t * 90 + f)) := by
  unfold f_X9_t
  simp (disch := omega) only [zlit, zofN, zneg, zle, zlt, zeq, pk_mul, pk_sub, nI_add, nI_clamp, zb_s, zlet_s, if_false, if_true, if_pos, if_neg, zck_1, zin_t]
theorem sp_setT (J : zM) {t f : Nat} (h : 180 + t * 90 + f < 1087) (v : Int32) : f_X9_setT J (nI t) (nI f) v = some (ms J 1 (180 + t * 90 + f) v) := by
  unfold f_X9_setT
  simp (disch := omega) only [zlit, zofN, zneg, zle, zlt, zeq, pk_mul, pk_sub, nI_add, nI_clamp, zb_s, zlet_s, if_false, if_true, if_pos, if_neg, zck_1, zin_t]
theorem sp_p (J : zM) {q f : Nat} (h : q * 15 + f < 1087) : f_X9_p J (nI q) (nI f) = some (J 1 (q * 15 + f)) := by
  unfold f_X9_p
  simp (disch := omega) only [zlit, zofN, zneg, zle, zlt, zeq, pk_mul, pk_sub, nI_add, nI_clamp, zb_s, zlet_s, if_false, if_true, if_pos, if_neg, zck_1, zin_t]
theorem sp_setP (J : zM) {q f : Nat} (h : q * 15 + f < 1087) (v : Int32) : f_X9_setP J (nI q) (nI f) v = some (ms J 1 (q * 15 + f) v) := by
  unfold f_X9_setP
  simp (disch := omega) only [zlit, zofN, zneg, zle, zlt, zeq, pk_mul, pk_sub, nI_add, nI_clamp, zb_s, zlet_s, if_false, if_true, if_pos, if_neg, zck_1, zin_t]
