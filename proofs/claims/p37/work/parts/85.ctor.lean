/-! the cells in the order in which they are made: wK, wLn, wO, wE (base: wK, wLn, wO, wE) -/
def wKL : List Nat := [8, 6, 2, 12, 13, 3, 10, 7, 4, 10, 4, 10, 4, 10, 0, 4, 10, 3, 10, 3, 10, 3, 10, 3, 10, 3, 10, 3, 10, 3, 10, 3, 10, 3, 10, 3, 10, 3, 10, 3, 10, 7, 4, 10, 4, 10, 4, 10, 7, 4, 10, 4, 10, 4, 10, 7, 4, 10, 4, 10, 4, 10, 7, 4, 10, 4, 10, 4, 10, 7, 4, 10, 4, 10, 4, 10, 7, 4, 10, 4, 10, 4, 10, 7, 4, 10, 4, 10, 4, 10, 7, 4, 10, 4, 10, 4, 10, 7, 4, 10, 4, 10, 4, 10, 7, 4, 10, 4, 10, 4, 10, 0, 4, 10, 2, 12, 13, 3, 10, 7, 4, 10, 4, 10, 4, 10, 0, 4, 10, 3, 10, 3, 10, 3, 10, 3, 10, 3, 10, 3, 10, 3, 10, 3, 10, 3, 10, 3, 10, 3, 10, 3, 10, 7, 4, 10, 4, 10, 4, 10, 7, 4, 10, 4, 10, 4, 10, 7, 4, 10, 4, 10, 4, 10, 7, 4, 10, 4, 10, 4, 10, 7, 4, 10, 4, 10, 4, 10, 7, 4, 10, 4, 10, 4, 10, 7, 4, 10, 4, 10, 4, 10, 7, 4, 10, 4, 10, 4, 10, 7, 4, 10, 4, 10, 4, 10, 7, 4, 10, 4, 10, 4, 10, 2, 12, 13, 3, 10, 7, 4, 10, 4, 10, 4, 10, 0, 4, 10, 3, 10, 3, 10, 3, 10, 3, 10, 3, 10, 3, 10, 3, 10, 3, 10, 3, 10, 3, 10, 3, 10, 3, 10, 7, 4, 10, 4, 10, 4, 10, 7, 4, 10, 4, 10, 4, 10, 7, 4, 10, 4, 10, 4, 10, 7, 4, 10, 4, 10, 4, 10, 7, 4, 10, 4, 10, 4, 10, 7, 4, 10, 4, 10, 4, 10, 7, 4, 10, 4, 10, 4, 10, 7, 4, 10, 4, 10, 4, 10, 7, 4, 10, 4, 10, 4, 10, 7, 4, 10, 4, 10, 4, 10, 5, 4, 10, 4, 10, 11, 1, 4, 10, 1, 4, 10, 1, 4, 10, 1, 4, 10, 1, 4, 10, 1, 4, 10, 1, 4, 10]
def wK (k : Nat) : Nat := wKL.getD k 99
def wLL : List Nat := [0, 0, 0, 12, 10, 0, 10, 0, 0, 24, 0, 24, 0, 32, 0, 0, 12, 0, 10, 0, 10, 0, 10, 0, 10, 0, 10, 0, 10, 0, 10, 0, 10, 0, 10, 0, 10, 0, 10, 0, 10, 0, 0, 24, 0, 24, 0, 32, 0, 0, 24, 0, 24, 0, 32, 0, 0, 24, 0, 24, 0, 32, 0, 0, 24, 0, 24, 0, 32, 0, 0, 24, 0, 24, 0, 32, 0, 0, 24, 0, 24, 0, 32, 0, 0, 24, 0, 24, 0, 32, 0, 0, 24, 0, 24, 0, 32, 0, 0, 24, 0, 24, 0, 32, 0, 0, 24, 0, 24, 0, 32, 0, 0, 12, 0, 12, 10, 0, 10, 0, 0, 24, 0, 24, 0, 32, 0, 0, 12, 0, 10, 0, 10, 0, 10, 0, 10, 0, 10, 0, 10, 0, 10, 0, 10, 0, 10, 0, 10, 0, 10, 0, 10, 0, 0, 24, 0, 24, 0, 32, 0, 0, 24, 0, 24, 0, 32, 0, 0, 24, 0, 24, 0, 32, 0, 0, 24, 0, 24, 0, 32, 0, 0, 24, 0, 24, 0, 32, 0, 0, 24, 0, 24, 0, 32, 0, 0, 24, 0, 24, 0, 32, 0, 0, 24, 0, 24, 0, 32, 0, 0, 24, 0, 24, 0, 32, 0, 0, 24, 0, 24, 0, 32, 0, 12, 10, 0, 10, 0, 0, 24, 0, 24, 0, 32, 0, 0, 12, 0, 10, 0, 10, 0, 10, 0, 10, 0, 10, 0, 10, 0, 10, 0, 10, 0, 10, 0, 10, 0, 10, 0, 10, 0, 0, 24, 0, 24, 0, 32, 0, 0, 24, 0, 24, 0, 32, 0, 0, 24, 0, 24, 0, 32, 0, 0, 24, 0, 24, 0, 32, 0, 0, 24, 0, 24, 0, 32, 0, 0, 24, 0, 24, 0, 32, 0, 0, 24, 0, 24, 0, 32, 0, 0, 24, 0, 24, 0, 32, 0, 0, 24, 0, 24, 0, 32, 0, 0, 24, 0, 24, 0, 32, 0, 0, 120, 0, 155, 6, 0, 0, 60, 0, 0, 60, 0, 0, 60, 0, 0, 60, 0, 0, 60, 0, 0, 60, 0, 0, 60]
def wLn (k : Nat) : Nat := wLL.getD k 0
def wO (G : zGT) (I J : zM) (k : Nat) (c : Nat) : List Value := match c with
  | 0 => [.ref (G.2.1 (k+1)), .int (I k 1)]
  | 1 => [.int (I k 0), .int (I k 1), .ref (G.2.1 (k+1))]
  | 2 => [.ref (G.2.1 (k+1)), .ref (G.2.1 (k+2)), .ref (G.2.1 (k+3)), .ref (G.2.1 (k+5)), .ref (G.2.1 (k+12)), .int (I k 5), .int (I k 6), .int (I k 7), .int (I k 8), .int (I k 9), .int (I k 10)]
  | 3 => [.int (I k 0), .int (I k 1), .int (I k 2), .int (I k 3), .int (I k 4), .ref (G.2.1 (k+1))]
  | 4 => [.int (I k 0), .int (I k 1), .ref (G.2.1 (k+1)), .int (I k 3)]
  | 5 => [.ref (G.2.1 (k+1)), .ref (G.2.1 (k+3)), .int (I k 2)]
  | 6 => [.ref (G.2.1 (k+1)), .ref (G.2.1 (k+110))]
  | 7 => [.int (I k 0), .int (I k 1), .int (I k 2), .int (I k 3), .int (I k 4), .int (I k 5), .int (I k 6), .ref (G.2.1 (k+1)), .ref (G.2.1 (k+3)), .ref (G.2.1 (k+5))]
  | 8 => [.ref (G.2.1 (1)), .ref (G.2.1 (2)), .ref (G.2.1 (114)), .ref (G.2.1 (223)), .ref (G.2.1 (332)), .ref (G.2.1 (333)), .ref (G.2.1 (337)), .ref (G.2.1 (338)), .int (I k 8)]
  | 9 => []
  | _ => []
def wE (G : zGT) (I J : zM) (k : Nat) : va_E :=
  if wK k < 10 then .inr (wK k, wO G I J k (wK k))
  else if wK k = 10 then .inl (G.2.2.1 10, wLn k, .inl (I k))
  else if wK k = 15 then .inl (G.2.2.1 10, wLn k, .inl (J (k - 359)))
  else if wK k = 11 then .inl (G.2.2.1 11, 6, .inr (.inr (.inr (.inr (fun j => if j < 6 then some (G.2.1 (k + 4 + 3 * j)) else none)))))
  else if wK k = 12 then .inl (G.2.2.1 12, 12, .inr (.inr (.inr (.inr (fun j => if j < 12 then some (G.2.1 (k + 14 + 2 * j)) else none)))))
  else if wK k = 13 then .inl (G.2.2.1 13, 10, .inr (.inr (.inr (.inr (fun j => if j < 10 then some (G.2.1 (k + 37 + 7 * j)) else none)))))
  else .inl (G.2.2.1 14, 6, .inr (.inr (.inr (.inr (fun j => if j < 6 then some (G.2.1 (k + 1 + j)) else none)))))

theorem wK_lt {k c : Nat} (h : wK k = c) (hc : c < 20) : k < 359 := by
  rcases Nat.lt_or_ge k 359 with q | q
  · exact q
  · have hl : wKL.length = 359 := by decide +kernel
    have e : wKL.getD k 99 = 99 := by
      rw [List.getD_eq_getElem?_getD, List.getElem?_eq_none (by omega)]
      rfl
    have h : wKL.getD k 99 = c := h
    omega
theorem wK_all {P : Nat → Nat → Prop} (h : ∀ k, k < 359 → P k (wK k)) {k c : Nat} (hk : wK k = c) (hc : c < 20) : P k c := by
  have := h k (wK_lt hk hc)
  rwa [hk] at this
theorem wE_o {G : zGT} {I J : zM} {k c : Nat} (h : wK k = c) (hc : c < 10) : wE G I J k = .inr (c, wO G I J k c) := by
  unfold wE
  rw [h, if_pos hc]
theorem wE_10 {G : zGT} {I J : zM} {k n : Nat} (h : wK k = 10) (hn : wLn k = n) : wE G I J k = .inl (G.2.2.1 10, n, .inl (I k)) := by
  unfold wE
  rw [h, hn, if_neg (by decide), if_pos rfl]
theorem wE_15 {G : zGT} {I J : zM} {k j n : Nat} (h : wK k = 15) (hn : wLn k = n) (hj : k = 359 + j) : wE G I J k = .inl (G.2.2.1 10, n, .inl (J j)) := by
  unfold wE
  rw [h, hn, if_neg (by decide), if_neg (by decide), if_pos rfl, show k - 359 = j by omega]
theorem wE_11 {G : zGT} {I J : zM} {k : Nat} (h : wK k = 11) : wE G I J k = .inl (G.2.2.1 11, 6, .inr (.inr (.inr (.inr (fun j => if j < 6 then some (G.2.1 (k + 4 + 3 * j)) else none))))) := by
  unfold wE
  rw [h, if_neg (by decide), if_neg (by decide), if_neg (by decide), if_pos rfl]
theorem wE_12 {G : zGT} {I J : zM} {k : Nat} (h : wK k = 12) : wE G I J k = .inl (G.2.2.1 12, 12, .inr (.inr (.inr (.inr (fun j => if j < 12 then some (G.2.1 (k + 14 + 2 * j)) else none))))) := by
  unfold wE
  rw [h, if_neg (by decide), if_neg (by decide), if_neg (by decide), if_neg (by decide), if_pos rfl]
theorem wE_13 {G : zGT} {I J : zM} {k : Nat} (h : wK k = 13) : wE G I J k = .inl (G.2.2.1 13, 10, .inr (.inr (.inr (.inr (fun j => if j < 10 then some (G.2.1 (k + 37 + 7 * j)) else none))))) := by
  unfold wE
  rw [h, if_neg (by decide), if_neg (by decide), if_neg (by decide), if_neg (by decide), if_neg (by decide), if_pos rfl]
theorem wE_14 {G : zGT} {I J : zM} {k : Nat} (h : wK k = 14) : wE G I J k = .inl (G.2.2.1 14, 6, .inr (.inr (.inr (.inr (fun j => if j < 6 then some (G.2.1 (k + 1 + j)) else none))))) := by
  unfold wE
  rw [h, if_neg (by decide), if_neg (by decide), if_neg (by decide), if_neg (by decide), if_neg (by decide), if_neg (by decide)]

theorem wk_2_0 {k : Nat} (h : wK k = 2) : wK (k + 1) = 12 := wK_all (P := fun k c => c = 2 → wK (k + 1) = 12) (by decide +kernel) h (by decide) rfl
theorem wk_2_1 {k : Nat} (h : wK k = 2) : wK (k + 2) = 13 := wK_all (P := fun k c => c = 2 → wK (k + 2) = 13) (by decide +kernel) h (by decide) rfl
theorem wk_2_2 {k : Nat} (h : wK k = 2) : wK (k + 3) = 3 := wK_all (P := fun k c => c = 2 → wK (k + 3) = 3) (by decide +kernel) h (by decide) rfl
theorem wk_2_3 {k : Nat} (h : wK k = 2) : wK (k + 5) = 7 := wK_all (P := fun k c => c = 2 → wK (k + 5) = 7) (by decide +kernel) h (by decide) rfl
theorem wk_2_4 {k : Nat} (h : wK k = 2) : wK (k + 12) = 0 := wK_all (P := fun k c => c = 2 → wK (k + 12) = 0) (by decide +kernel) h (by decide) rfl
theorem wk_2_p {k : Nat} (h : wK k = 2) : ∀ i, i < 12 → wK (k + 15 + 2 * i) = 3 := wK_all (P := fun k c => c = 2 → ∀ i, i < 12 → wK (k + 15 + 2 * i) = 3) (by decide +kernel) h (by decide) rfl
theorem wk_2_t {k : Nat} (h : wK k = 2) : ∀ i, i < 10 → wK (k + 39 + 7 * i) = 7 := wK_all (P := fun k c => c = 2 → ∀ i, i < 10 → wK (k + 39 + 7 * i) = 7) (by decide +kernel) h (by decide) rfl
theorem wk_3_5 {k : Nat} (h : wK k = 3) : wK (k + 1) = 10 := wK_all (P := fun k c => c = 3 → wK (k + 1) = 10) (by decide +kernel) h (by decide) rfl
theorem wl_3_5 {k : Nat} (h : wK k = 3) : wLn (k + 1) = 10 := wK_all (P := fun k c => c = 3 → wLn (k + 1) = 10) (by decide +kernel) h (by decide) rfl
theorem wk_h (i : Nat) (h : i < 6) : wK (341 + 3 * i) = 1 := (show ∀ i, i < 6 → wK (341 + 3 * i) = 1 by decide +kernel) i h
theorem wkL_0 : wK 0 = 8 := by decide +kernel
theorem wkL_1 : wK 1 = 6 := by decide +kernel
theorem wkL_2 : wK 2 = 2 := by decide +kernel
theorem wkL_114 : wK 114 = 2 := by decide +kernel
theorem wkL_223 : wK 223 = 2 := by decide +kernel
theorem wkL_332 : wK 332 = 5 := by decide +kernel
theorem wkL_333 : wK 333 = 4 := by decide +kernel
theorem wkL_337 : wK 337 = 11 := by decide +kernel
theorem wkL_338 : wK 338 = 1 := by decide +kernel
/-! CONSTRUCTORS: the world grows: cells at the addresses ad 0 .. ad (n - 1); E: what each holds -/
def wRL : List Nat := [0, 0, 0, 0, 0, 0, 0, 0, 8, 0, 6, 0, 8, 0, 0, 12, 0, 0, 0, 0, 0, 0, 0, 0, 0, 0, 0, 0, 0, 0, 0, 0, 0, 0, 0, 0, 0, 0, 0, 0, 0, 0, 8, 0, 6, 0, 8, 0, 0, 8, 0, 6, 0, 8, 0, 0, 8, 0, 6, 0, 8, 0, 0, 8, 0, 6, 0, 8, 0, 0, 8, 0, 6, 0, 8, 0, 0, 8, 0, 6, 0, 8, 0, 0, 8, 0, 6, 0, 8, 0, 0, 8, 0, 6, 0, 8, 0, 0, 8, 0, 6, 0, 8, 0, 0, 8, 0, 6, 0, 8, 0, 0, 12, 0, 0, 0, 0, 0, 0, 0, 8, 0, 6, 0, 8, 0, 0, 12, 0, 0, 0, 0, 0, 0, 0, 0, 0, 0, 0, 0, 0, 0, 0, 0, 0, 0, 0, 0, 0, 0, 0, 0, 0, 0, 8, 0, 6, 0, 8, 0, 0, 8, 0, 6, 0, 8, 0, 0, 8, 0, 6, 0, 8, 0, 0, 8, 0, 6, 0, 8, 0, 0, 8, 0, 6, 0, 8, 0, 0, 8, 0, 6, 0, 8, 0, 0, 8, 0, 6, 0, 8, 0, 0, 8, 0, 6, 0, 8, 0, 0, 8, 0, 6, 0, 8, 0, 0, 8, 0, 6, 0, 8, 0, 0, 0, 0, 0, 0, 0, 8, 0, 6, 0, 8, 0, 0, 12, 0, 0, 0, 0, 0, 0, 0, 0, 0, 0, 0, 0, 0, 0, 0, 0, 0, 0, 0, 0, 0, 0, 0, 0, 0, 0, 8, 0, 6, 0, 8, 0, 0, 8, 0, 6, 0, 8, 0, 0, 8, 0, 6, 0, 8, 0, 0, 8, 0, 6, 0, 8, 0, 0, 8, 0, 6, 0, 8, 0, 0, 8, 0, 6, 0, 8, 0, 0, 8, 0, 6, 0, 8, 0, 0, 8, 0, 6, 0, 8, 0, 0, 8, 0, 6, 0, 8, 0, 0, 8, 0, 6, 0, 8, 0, 0, 120, 0, 31, 0, 0, 0, 60, 0, 0, 60, 0, 0, 60, 0, 0, 60, 0, 0, 60, 0, 0, 60, 0, 0, 60, 0]
def wWL : List Nat := [0, 0, 0, 0, 0, 0, 0, 0, 3, 0, 4, 0, 4, 0, 0, 1, 0, 0, 0, 0, 0, 0, 0, 0, 0, 0, 0, 0, 0, 0, 0, 0, 0, 0, 0, 0, 0, 0, 0, 0, 0, 0, 3, 0, 4, 0, 4, 0, 0, 3, 0, 4, 0, 4, 0, 0, 3, 0, 4, 0, 4, 0, 0, 3, 0, 4, 0, 4, 0, 0, 3, 0, 4, 0, 4, 0, 0, 3, 0, 4, 0, 4, 0, 0, 3, 0, 4, 0, 4, 0, 0, 3, 0, 4, 0, 4, 0, 0, 3, 0, 4, 0, 4, 0, 0, 3, 0, 4, 0, 4, 0, 0, 1, 0, 0, 0, 0, 0, 0, 0, 3, 0, 4, 0, 4, 0, 0, 1, 0, 0, 0, 0, 0, 0, 0, 0, 0, 0, 0, 0, 0, 0, 0, 0, 0, 0, 0, 0, 0, 0, 0, 0, 0, 0, 3, 0, 4, 0, 4, 0, 0, 3, 0, 4, 0, 4, 0, 0, 3, 0, 4, 0, 4, 0, 0, 3, 0, 4, 0, 4, 0, 0, 3, 0, 4, 0, 4, 0, 0, 3, 0, 4, 0, 4, 0, 0, 3, 0, 4, 0, 4, 0, 0, 3, 0, 4, 0, 4, 0, 0, 3, 0, 4, 0, 4, 0, 0, 3, 0, 4, 0, 4, 0, 0, 0, 0, 0, 0, 0, 3, 0, 4, 0, 4, 0, 0, 1, 0, 0, 0, 0, 0, 0, 0, 0, 0, 0, 0, 0, 0, 0, 0, 0, 0, 0, 0, 0, 0, 0, 0, 0, 0, 0, 3, 0, 4, 0, 4, 0, 0, 3, 0, 4, 0, 4, 0, 0, 3, 0, 4, 0, 4, 0, 0, 3, 0, 4, 0, 4, 0, 0, 3, 0, 4, 0, 4, 0, 0, 3, 0, 4, 0, 4, 0, 0, 3, 0, 4, 0, 4, 0, 0, 3, 0, 4, 0, 4, 0, 0, 3, 0, 4, 0, 4, 0, 0, 3, 0, 4, 0, 4, 0, 0, 1, 0, 5, 0, 0, 0, 1, 0, 0, 1, 0, 0, 1, 0, 0, 1, 0, 0, 1, 0, 0, 1, 0, 0, 1, 0]
def wI0 : zM := fun k j => if wK k = 4 then (if j = 0 then Int32.ofNat (wRL.getD k 0) else if j = 1 then Int32.ofNat (wWL.getD k 0) else 0) else 0
def zJ0 : zM := fun _ _ => 0
def zTc (cy : Nat → ClassId) : List (ClassId × FieldType) := [(cy 10, .int), (cy 11, .object RX1), (cy 12, .object RX3), (cy 13, .object RX7)]
def zN (ad : Nat → Nat) (n : Nat) (E : Nat → va_E) : va_W := (List.range n).map (fun k => (ad k, E k))
/-- what the start says of launches alone: private constructors, arrays of objects -/
def zX (U : State) : Prop := va_Nw (.methodLinkNest RX8 48 yX1_init "LeaseOffice") U ∧ va_Nw (.methodLinkNest RX2 23 yX3_init "LeaseOffice") U ∧ va_Nw (.methodLinkNest RX2 28 yX7_init "LeaseOffice") U ∧ va_Nw (.methodLinkNest RX2 35 yX0_init "LeaseOffice") U ∧ va_Nw (.methodLinkNest RX6 20 yX0_init "LeaseOffice") U ∧ va_Nw (.methodLinkNest RX8 11 yX6_init "LeaseOffice") U ∧ va_Nw (.methodLinkNest RX8 32 yX5_init "LeaseOffice") U ∧ va_AO RX1 U ∧ va_AO RX3 U ∧ va_AO RX7 U ∧ True
theorem zX.moved {s U : State} (hW : s.WarmedH U.vm) (h : zX s) : zX U :=
  ⟨va_Nw.warmM hW h.1, va_Nw.warmM hW h.2.1, va_Nw.warmM hW h.2.2.1, va_Nw.warmM hW h.2.2.2.1, va_Nw.warmM hW h.2.2.2.2.1, va_Nw.warmM hW h.2.2.2.2.2.1, va_Nw.warmM hW h.2.2.2.2.2.2.1, h.2.2.2.2.2.2.2.1.moved hW.alike, h.2.2.2.2.2.2.2.2.1.moved hW.alike, h.2.2.2.2.2.2.2.2.2.1.moved hW.alike, trivial⟩
theorem zX.same {u U : State} (e : u.vm = U.vm) (h : zX u) : zX U :=
  ⟨va_Nw.same rfl e h.1, va_Nw.same rfl e h.2.1, va_Nw.same rfl e h.2.2.1, va_Nw.same rfl e h.2.2.2.1, va_Nw.same rfl e h.2.2.2.2.1, va_Nw.same rfl e h.2.2.2.2.2.1, va_Nw.same rfl e h.2.2.2.2.2.2.1, h.2.2.2.2.2.2.2.1.moved (by rw [e]; exact Vm.Alike.refl _), h.2.2.2.2.2.2.2.2.1.moved (by rw [e]; exact Vm.Alike.refl _), h.2.2.2.2.2.2.2.2.2.1.moved (by rw [e]; exact Vm.Alike.refl _), trivial⟩
def zB (b0 : Nat) : Nat → Prop := fun q => b0 ≤ q
def zNS (D : va_G) (cy : Nat → ClassId) (b0 : Nat) (ad : Nat → Nat) (n : Nat) (E : Nat → va_E) (U : State) : Prop :=
  b0 ≤ U.heap.size ∧ va_P D vwCl (zN ad n E) U.heap ∧ va_D (zB b0) (zN ad n E) ∧ va_K D vwCl (zTc cy) U ∧ zX U
def zQn (D : va_G) (cy : Nat → ClassId) (b0 n : Nat) (post : (Nat → Nat) × (Nat → va_E) → Prop) : Array Value → State → Outcome → State → Prop := va_Qv post (fun u t => zNS D cy b0 u.1 n u.2 t) (zB b0)
def zrn (f c n l : Nat) : Room := { frames := f, cells := c, slots := n, locals := l }
/-- the cells of a whole piece are as the layout has them -/
def zblk (D : va_G) (cy : Nat → ClassId) (b0 : Nat) (ad : Nat → Nat) (E : Nat → va_E) (a b : Nat) : Prop := ∀ i, a ≤ i → i < b → E i = wE (D, ad, cy, b0) wI0 zJ0 i
/-- the last cell that a cell of the layout points to -/
def wRM (i : Nat) : Nat := match wK i with
  | 0 => i + 1 | 1 => i + 1 | 2 => i + 12 | 3 => i + 1 | 4 => i + 1 | 5 => i + 3 | 6 => i + 110 | 7 => i + 5 | 8 => 338 | 9 => i | 10 => i | 11 => i + 19 | 12 => i + 36 | 13 => i + 100 | 14 => i + 6 | _ => i
theorem zN_get {ad : Nat → Nat} {n : Nat} {E : Nat → va_E} {k : Nat} (hk : k < n) : (zN ad n E)[k]? = some (ad k, E k) := by
  unfold zN
  rw [List.getElem?_map, List.getElem?_range hk]
  rfl
theorem zN_congr {ad ad2 : Nat → Nat} {n : Nat} {E E2 : Nat → va_E} (h : ∀ i, i < n → ad2 i = ad i ∧ E2 i = E i) : zN ad2 n E2 = zN ad n E := by
  unfold zN
  apply List.map_congr_left
  intro i hi
  obtain ⟨h1, h2⟩ := h i (List.mem_range.mp hi)
  rw [h1, h2]
theorem zN_push {ad ad2 : Nat → Nat} {n : Nat} {E E2 : Nat → va_E} (h : ∀ i, i < n → ad2 i = ad i) (h2 : ∀ i, i < n → E2 i = E i) : zN ad n E ++ [(ad2 n, E2 n)] = zN ad2 (n + 1) E2 := by
  rw [← zN_congr (fun i hi => ⟨h i hi, h2 i hi⟩)]
  unfold zN
  rw [List.range_succ, List.map_append]
  rfl
theorem zN_set {ad : Nat → Nat} {n : Nat} {E E2 : Nat → va_E} {k : Nat} (hk : k < n) (h : ∀ i, i ≠ k → E2 i = E i) : (zN ad n E).set k (ad k, E2 k) = zN ad n E2 := by
  apply List.ext_getElem?
  intro a
  by_cases ha : a < n
  · rw [zN_get ha]
    by_cases hak : k = a
    · subst hak
      rw [List.getElem?_set_self (by unfold zN; simpa using ha)]
    · rw [List.getElem?_set_ne hak, zN_get ha, h a (fun q => hak q.symm)]
  · have h1 : ((zN ad n E).set k (ad k, E2 k)).length ≤ a := by
      unfold zN
      simpa using ha
    have h2 : (zN ad n E2).length ≤ a := by
      unfold zN
      simpa using ha
    rw [List.getElem?_eq_none h1, List.getElem?_eq_none h2]
theorem wE_ad {D : va_G} {cy : Nat → ClassId} {b0 : Nat} {ad ad2 : Nat → Nat} {I J : zM} {i N : Nat} (hi : i < 359) (hN : wRM i < N) (h : ∀ j, j < N → ad2 j = ad j) : wE (D, ad2, cy, b0) I J i = wE (D, ad, cy, b0) I J i := by
  have hc : wK i < 16 := (show ∀ i, i < 359 → wK i < 16 by decide +kernel) i hi
  unfold wRM at hN
  unfold wE
  generalize hz : wK i = c at hc hN ⊢
  match c, hc, hN with
  | 0, _, hN =>
    have hN : i + 1 < N := hN
    have e0 : ad2 (i + 1) = ad (i + 1) := h _ (by omega)
    show Sum.inr (0, wO (D, ad2, cy, b0) I J i 0) = Sum.inr (0, wO (D, ad, cy, b0) I J i 0)
    simp only [wO, e0]
  | 1, _, hN =>
    have hN : i + 1 < N := hN
    have e0 : ad2 (i + 1) = ad (i + 1) := h _ (by omega)
    show Sum.inr (1, wO (D, ad2, cy, b0) I J i 1) = Sum.inr (1, wO (D, ad, cy, b0) I J i 1)
    simp only [wO, e0]
  | 2, _, hN =>
    have hN : i + 12 < N := hN
    have e0 : ad2 (i + 1) = ad (i + 1) := h _ (by omega)
    have e1 : ad2 (i + 2) = ad (i + 2) := h _ (by omega)
    have e2 : ad2 (i + 3) = ad (i + 3) := h _ (by omega)
    have e3 : ad2 (i + 5) = ad (i + 5) := h _ (by omega)
    have e4 : ad2 (i + 12) = ad (i + 12) := h _ (by omega)
    show Sum.inr (2, wO (D, ad2, cy, b0) I J i 2) = Sum.inr (2, wO (D, ad, cy, b0) I J i 2)
    simp only [wO, e0, e1, e2, e3, e4]
  | 3, _, hN =>
    have hN : i + 1 < N := hN
    have e0 : ad2 (i + 1) = ad (i + 1) := h _ (by omega)
    show Sum.inr (3, wO (D, ad2, cy, b0) I J i 3) = Sum.inr (3, wO (D, ad, cy, b0) I J i 3)
    simp only [wO, e0]
  | 4, _, hN =>
    have hN : i + 1 < N := hN
    have e0 : ad2 (i + 1) = ad (i + 1) := h _ (by omega)
    show Sum.inr (4, wO (D, ad2, cy, b0) I J i 4) = Sum.inr (4, wO (D, ad, cy, b0) I J i 4)
    simp only [wO, e0]
  | 5, _, hN =>
    have hN : i + 3 < N := hN
    have e0 : ad2 (i + 1) = ad (i + 1) := h _ (by omega)
    have e1 : ad2 (i + 3) = ad (i + 3) := h _ (by omega)
    show Sum.inr (5, wO (D, ad2, cy, b0) I J i 5) = Sum.inr (5, wO (D, ad, cy, b0) I J i 5)
    simp only [wO, e0, e1]
  | 6, _, hN =>
    have hN : i + 110 < N := hN
    have e0 : ad2 (i + 1) = ad (i + 1) := h _ (by omega)
    have e1 : ad2 (i + 110) = ad (i + 110) := h _ (by omega)
    show Sum.inr (6, wO (D, ad2, cy, b0) I J i 6) = Sum.inr (6, wO (D, ad, cy, b0) I J i 6)
    simp only [wO, e0, e1]
  | 7, _, hN =>
    have hN : i + 5 < N := hN
    have e0 : ad2 (i + 1) = ad (i + 1) := h _ (by omega)
    have e1 : ad2 (i + 3) = ad (i + 3) := h _ (by omega)
    have e2 : ad2 (i + 5) = ad (i + 5) := h _ (by omega)
    show Sum.inr (7, wO (D, ad2, cy, b0) I J i 7) = Sum.inr (7, wO (D, ad, cy, b0) I J i 7)
    simp only [wO, e0, e1, e2]
  | 8, _, hN =>
    have hN : 338 < N := hN
    have e0 : ad2 (1) = ad (1) := h _ (by omega)
    have e1 : ad2 (2) = ad (2) := h _ (by omega)
    have e2 : ad2 (114) = ad (114) := h _ (by omega)
    have e3 : ad2 (223) = ad (223) := h _ (by omega)
    have e4 : ad2 (332) = ad (332) := h _ (by omega)
    have e5 : ad2 (333) = ad (333) := h _ (by omega)
    have e6 : ad2 (337) = ad (337) := h _ (by omega)
    have e7 : ad2 (338) = ad (338) := h _ (by omega)
    show Sum.inr (8, wO (D, ad2, cy, b0) I J i 8) = Sum.inr (8, wO (D, ad, cy, b0) I J i 8)
    simp only [wO, e0, e1, e2, e3, e4, e5, e6, e7]
  | 9, _, hN =>
    rfl
  | 10, _, _ => rfl
  | 11, _, hN =>
    have e : (fun j => if j < 6 then some (ad2 (i + 4 + 3 * j)) else none) = (fun j => if j < 6 then some (ad (i + 4 + 3 * j)) else none) := by
      funext j
      by_cases hj : j < 6
      · have hN : i + 19 < N := hN
        rw [if_pos hj, if_pos hj, h _ (by omega)]
      · rw [if_neg hj, if_neg hj]
    show Sum.inl (cy 11, 6, Sum.inr (Sum.inr (Sum.inr (Sum.inr (fun j => if j < 6 then some (ad2 (i + 4 + 3 * j)) else none))))) = Sum.inl (cy 11, 6, Sum.inr (Sum.inr (Sum.inr (Sum.inr (fun j => if j < 6 then some (ad (i + 4 + 3 * j)) else none)))))
    rw [e]
  | 12, _, hN =>
    have e : (fun j => if j < 12 then some (ad2 (i + 14 + 2 * j)) else none) = (fun j => if j < 12 then some (ad (i + 14 + 2 * j)) else none) := by
      funext j
      by_cases hj : j < 12
      · have hN : i + 36 < N := hN
        rw [if_pos hj, if_pos hj, h _ (by omega)]
      · rw [if_neg hj, if_neg hj]
    show Sum.inl (cy 12, 12, Sum.inr (Sum.inr (Sum.inr (Sum.inr (fun j => if j < 12 then some (ad2 (i + 14 + 2 * j)) else none))))) = Sum.inl (cy 12, 12, Sum.inr (Sum.inr (Sum.inr (Sum.inr (fun j => if j < 12 then some (ad (i + 14 + 2 * j)) else none)))))
    rw [e]
  | 13, _, hN =>
    have e : (fun j => if j < 10 then some (ad2 (i + 37 + 7 * j)) else none) = (fun j => if j < 10 then some (ad (i + 37 + 7 * j)) else none) := by
      funext j
      by_cases hj : j < 10
      · have hN : i + 100 < N := hN
        rw [if_pos hj, if_pos hj, h _ (by omega)]
      · rw [if_neg hj, if_neg hj]
    show Sum.inl (cy 13, 10, Sum.inr (Sum.inr (Sum.inr (Sum.inr (fun j => if j < 10 then some (ad2 (i + 37 + 7 * j)) else none))))) = Sum.inl (cy 13, 10, Sum.inr (Sum.inr (Sum.inr (Sum.inr (fun j => if j < 10 then some (ad (i + 37 + 7 * j)) else none)))))
    rw [e]
  | 14, _, hN =>
    have e : (fun j => if j < 6 then some (ad2 (i + 1 + j)) else none) = (fun j => if j < 6 then some (ad (i + 1 + j)) else none) := by
      funext j
      by_cases hj : j < 6
      · have hN : i + 6 < N := hN
        rw [if_pos hj, if_pos hj, h _ (by omega)]
      · rw [if_neg hj, if_neg hj]
    show Sum.inl (cy 14, 6, Sum.inr (Sum.inr (Sum.inr (Sum.inr (fun j => if j < 6 then some (ad2 (i + 1 + j)) else none))))) = Sum.inl (cy 14, 6, Sum.inr (Sum.inr (Sum.inr (Sum.inr (fun j => if j < 6 then some (ad (i + 1 + j)) else none)))))
    rw [e]
  | 15, _, _ => rfl
  | k + 16, h9, _ => exact absurd h9 (by omega)
theorem zblk_keep {D : va_G} {cy : Nat → ClassId} {b0 : Nat} {ad ad2 : Nat → Nat} {E E2 : Nat → va_E} {a b N : Nat} (hb : zblk D cy b0 ad E a b) (h359 : b ≤ 359) (hc : ∀ i, a ≤ i → i < b → wRM i < N) (ha : ∀ j, j < N → ad2 j = ad j) (hE : ∀ i, a ≤ i → i < b → E2 i = E i) : zblk D cy b0 ad2 E2 a b := by
  intro i h1 h2
  rw [hE i h1 h2, hb i h1 h2, wE_ad (by omega) (hc i h1 h2) ha]
theorem zblk_app {D : va_G} {cy : Nat → ClassId} {b0 : Nat} {ad : Nat → Nat} {E : Nat → va_E} {a b c : Nat} (h1 : zblk D cy b0 ad E a b) (h2 : zblk D cy b0 ad E b c) : zblk D cy b0 ad E a c := by
  intro i hi hj
  rcases Nat.lt_or_ge i b with q | q
  · exact h1 i hi q
  · exact h2 i q hj
theorem zblk_nil {D : va_G} {cy : Nat → ClassId} {b0 : Nat} {ad : Nat → Nat} {E : Nat → va_E} {a b : Nat} (h : b ≤ a) : zblk D cy b0 ad E a b := by
  intro i h1 h2
  omega
theorem zblk_one {D : va_G} {cy : Nat → ClassId} {b0 : Nat} {ad : Nat → Nat} {E : Nat → va_E} {a : Nat} (h : E a = wE (D, ad, cy, b0) wI0 zJ0 a) : zblk D cy b0 ad E a (a + 1) := by
  intro i h1 h2
  have : i = a := by omega
  subst this
  exact h
theorem zMetN {l : Launch} {y : MethodName} {ws ws' : List Cond} {rm : Room} {cc : ByteArray} {nL : Nat} {ret : Option FieldType} {D : va_G} {cy : Nat → ClassId} {b0 : Nat} {ad : Nat → Nat} {n : Nat} {E : Nat → va_E} {vs : List Value} {Qc : Array Value → State → Outcome → State → Prop} {mc ms : Nat}
    (hy : plainName y.cls = true) (hw : ws = Cond.code y cc nL ret :: ws') (hn : (lg_sl vs).length ≤ nL)
    (body : ∀ p e s m args below meth c H locs ls, zF p s m args meth c cc nL ret ws y.cls → y.name = meth.name → va_K D vwCl (zTc cy) s → zX s → b0 ≤ s.heap.size → va_P D vwCl (zN ad n E) H → va_D (zB b0) (zN ad n E) → va_S (zB b0) s.heap H locs → lv_has ls nL (lv_args 0 vs) →
      W p l e rm s m args below meth c H locs 0 0 (MQ below Qc args s mc ms (zB b0)) (F0 m 0 ls [])) : Met l y ws rm (va_Pc vs (zNS D cy b0 ad n E)) Qc mc ms (zB b0) := by
  refine Met.ofW (cc := cc) (maxL := nL) (ret := ret) hy hw ?_
  intro p e s m args below meth c s₁ B hml hv
  obtain ⟨rfl, hb0, hP, hD, hK, hX⟩ := hv
  have hl := lv_entry vs (n := nL) hn
  rw [lg_entry_eq]
  exact body p e s m _ below meth c s.heap [] _ ⟨B.exec, B.bytes, B.returns, hml, atoms_spec (ws := ws) B.pre, findClass_of_methodNamed B.named, B.notSynchronized⟩ (name_of_methodNamed B.named B.method).1.symm hK hX hb0 hP hD va_S.rf hl
section ZC
variable {p : Program} {l : Launch} {e : Env} {R : Room} {s : State} {m : MethodId} {args : Array Value} {below : List Frame} {meth : Method} {c : Code} {H H0 : Heap} {locs : List Loc} {cells slots : Nat} {Q : State → Prop}
variable {cc : ByteArray} {pc : Nat} {ls : Array Slot} {rest : List Value} {D : va_G} {cy : Nat → ClassId} {b0 : Nat} {ad : Nat → Nat} {n : Nat} {E : Nat → va_E} {Ts : List Cond} {own C : String} {T : u_T} {N index : Nat}
theorem y_get {k ci j a : Nat} {v : Value} {fs : List Value} (hx : p.tables.exec = Jvm.exec) (hb : c.code = cc) (hts : ∀ w ∈ Ts, w.before args s = true) (hin : ∀ w ∈ u_ws C T N, w ∈ Ts) (hown : s.vm.findClass own = some m.cls) (hK : va_K D vwCl (zTc cy) s) (hP : va_P D vwCl (zN ad n E) H)
    (hk : k < n) (ha : ad k = a) (hE : E k = .inr (ci, fs)) (hc : vwCl[ci]? = some (C, T, N)) (hj : j < N) (hlink : (Cond.fieldLink own index (T j).1 (T j).2.1 (T j).2.2.1).before args s = true) (hv : fs[j]? = some v) (hdg : decode cc pc = .ok (.getfield index, 3))
    (kk : W p l e R s m args below meth c H locs cells slots Q (F0 m (pc + 3) ls (v :: rest))) : W p l e R s m args below meth c H locs cells slots Q (F0 m pc ls (.ref a :: rest)) := by
  subst ha
  exact va_get (D := D) (ci := ci) (ref := (T j).1) hx hb hts hin hown hK hP k (by rw [zN_get hk, hE]) hc j hj hlink (fun _ h => h) hv hdg kk
theorem y_put {k ci j a : Nat} {v : Value} {fs fs2 : List Value} {ty0 : Nat → FieldType} {ty : FieldType} (hx : p.tables.exec = Jvm.exec) (hb : c.code = cc) (hts : ∀ w ∈ Ts, w.before args s = true) (hin : ∀ w ∈ u_ws C T N, w ∈ Ts) (hown : s.vm.findClass own = some m.cls) (hK : va_K D vwCl (zTc cy) s) (hP : va_P D vwCl (zN ad n E) H) (hD : va_D (zB b0) (zN ad n E)) (hS : va_S (zB b0) H0 H locs)
    (hk : k < n) (ha : ad k = a) (hE : E k = .inr (ci, fs)) (hc : vwCl[ci]? = some (C, T, N)) (hty : ∀ k, k < N → parseFieldDescriptor (T k).2.2.1 = some (ty0 k)) (hnm : ∀ a, a < N → ∀ b, b < N → a ≠ b → (T a).2.1 ≠ (T b).2.1) (hj : j < N) (hlink : (Cond.fieldLink own index (T j).1 (T j).2.1 (T j).2.2.1).before args s = true) (hfin : (T j).2.2.2 = false) (hd : parseFieldDescriptor (T j).2.2.1 = some ty) (hn : narrow ty v = v) (hfit : fits ty v = true)
    (hl : j < fs.length) (hs : fs.set j v = fs2) (hdg : decode cc pc = .ok (.putfield index, 3))
    (kk : ∀ (E1 : Nat → va_E) (H1 : Heap) (locs1 : List Loc), (∀ i, i ≠ k → E1 i = E i) → E1 k = .inr (ci, fs2) → va_P D vwCl (zN ad n E1) H1 → va_D (zB b0) (zN ad n E1) → va_S (zB b0) H0 H1 locs1 → W p l e R s m args below meth c H1 locs1 cells slots Q (F0 m (pc + 3) ls rest)) : W p l e R s m args below meth c H locs cells slots Q (F0 m pc ls (v :: .ref a :: rest)) := by
  subst ha
  subst hs
  refine va_put (D := D) (A := zB b0) (ci := ci) (ref := (T j).1) (ty := ty) hx hb hts hin ty0 hty hnm hown hK hP hD hS k (fs := fs) (by rw [zN_get hk, hE]) hc j hj hlink (fun _ h => h) hfin hd hn hfit hl hdg (fun H1 locs1 hP1 hD1 hS1 => ?_)
  have hE1 : va_up E k (Sum.inr (ci, fs.set j v)) k = Sum.inr (ci, fs.set j v) := if_pos rfl
  have hE2 : ∀ i, i ≠ k → va_up E k (Sum.inr (ci, fs.set j v)) i = E i := fun i h => if_neg h
  rw [← hE1, zN_set hk hE2] at hP1 hD1
  exact kk _ H1 locs1 hE2 hE1 hP1 hD1 hS1
theorem y_putF {k ci j a : Nat} {v : Value} {fs fs2 : List Value} {ty0 : Nat → FieldType} {ty : FieldType} (hin2 : meth.name = "<init>") (hx : p.tables.exec = Jvm.exec) (hb : c.code = cc) (hts : ∀ w ∈ Ts, w.before args s = true) (hin : ∀ w ∈ u_ws C T N, w ∈ Ts) (hown : s.vm.findClass own = some m.cls) (hK : va_K D vwCl (zTc cy) s) (hP : va_P D vwCl (zN ad n E) H) (hD : va_D (zB b0) (zN ad n E)) (hS : va_S (zB b0) H0 H locs)
    (hk : k < n) (ha : ad k = a) (hE : E k = .inr (ci, fs)) (hc : vwCl[ci]? = some (C, T, N)) (hty : ∀ k, k < N → parseFieldDescriptor (T k).2.2.1 = some (ty0 k)) (hnm : ∀ a, a < N → ∀ b, b < N → a ≠ b → (T a).2.1 ≠ (T b).2.1) (hj : j < N) (hlink : (Cond.fieldLink own index (T j).1 (T j).2.1 (T j).2.2.1).before args s = true) (hfin : (T j).2.2.2 = true) (hdecl : (T j).1 = own) (hd : parseFieldDescriptor (T j).2.2.1 = some ty) (hn : narrow ty v = v) (hfit : fits ty v = true)
    (hl : j < fs.length) (hs : fs.set j v = fs2) (hdg : decode cc pc = .ok (.putfield index, 3))
    (kk : ∀ (E1 : Nat → va_E) (H1 : Heap) (locs1 : List Loc), (∀ i, i ≠ k → E1 i = E i) → E1 k = .inr (ci, fs2) → va_P D vwCl (zN ad n E1) H1 → va_D (zB b0) (zN ad n E1) → va_S (zB b0) H0 H1 locs1 → W p l e R s m args below meth c H1 locs1 cells slots Q (F0 m (pc + 3) ls rest)) : W p l e R s m args below meth c H locs cells slots Q (F0 m pc ls (v :: .ref a :: rest)) := by
  subst ha
  subst hs
  refine va_putF (D := D) (A := zB b0) (ci := ci) (ref := (T j).1) (ty := ty) hx hb hts hin ty0 hty hnm hown hK hP hD hS k (fs := fs) (by rw [zN_get hk, hE]) hc j hj hlink (fun _ h => h) hfin hin2 hdecl hd hn hfit hl hdg (fun H1 locs1 hP1 hD1 hS1 => ?_)
  have hE1 : va_up E k (Sum.inr (ci, fs.set j v)) k = Sum.inr (ci, fs.set j v) := if_pos rfl
  have hE2 : ∀ i, i ≠ k → va_up E k (Sum.inr (ci, fs.set j v)) i = E i := fun i h => if_neg h
  rw [← hE1, zN_set hk hE2] at hP1 hD1
  exact kk _ H1 locs1 hE2 hE1 hP1 hD1 hS1
theorem y_new {ci : Nat} {fs : List Value} (hx : p.tables.exec = Jvm.exec) (hb : c.code = cc) (hts : ∀ w ∈ Ts, w.before args s = true) (hin : ∀ w ∈ u_ws C T N, w ∈ Ts) (ty : Nat → FieldType) (hty : ∀ k, k < N → parseFieldDescriptor (T k).2.2.1 = some (ty k)) (hown : s.vm.findClass own = some m.cls) (hcl : (Cond.classLink own index C).before args s = true) (hinst : (Cond.instantiable C N).before args s = true) (hini : (Cond.initialized C).before args s = true)
    (hK : va_K D vwCl (zTc cy) s) (hP : va_P D vwCl (zN ad n E) H) (hD : va_D (zB b0) (zN ad n E)) (hS : va_S (zB b0) H0 H locs) (hb0 : b0 ≤ H0.size) (hc : vwCl[ci]? = some (C, T, N)) (hfs : ∀ j, j < N → defaultValue (ty j) = vp_V fs j) (hcells : cells + 1 ≤ R.cells) (hslots : slots + N ≤ R.slots) (hdg : decode cc pc = .ok (.new index, 3))
    (kk : ∀ (q : Nat) (ad1 : Nat → Nat) (E1 : Nat → va_E) (H1 : Heap), (∀ i, i < n → ad1 i = ad i) → ad1 n = q → (∀ i, i < n → E1 i = E i) → E1 n = .inr (ci, fs) → va_P D vwCl (zN ad1 (n + 1) E1) H1 → va_D (zB b0) (zN ad1 (n + 1) E1) → va_S (zB b0) H0 H1 locs →
      W p l e R s m args below meth c H1 locs (cells + 1) (slots + N) Q (F0 m (pc + 3) ls (.ref q :: rest))) : W p l e R s m args below meth c H locs cells slots Q (F0 m pc ls rest) := by
  refine va_new (D := D) (A := zB b0) (ci := ci) (fs := fs) hx hb hts hin ty hty hown hcl hinst hini hK hP hD hS (fun q h => Nat.le_trans hb0 h) hc hfs hcells hslots hdg (fun q H1 hP1 hD1 hS1 => ?_)
  have h1 : ∀ i, i < n → va_up ad n q i = ad i := fun i h => if_neg (Nat.ne_of_lt h)
  have h2 : va_up ad n q n = q := if_pos rfl
  have h3 : ∀ i, i < n → va_up E n (Sum.inr (ci, fs)) i = E i := fun i h => if_neg (Nat.ne_of_lt h)
  have h4 : va_up E n (Sum.inr (ci, fs)) n = Sum.inr (ci, fs) := if_pos rfl
  have e := zN_push h1 h3
  rw [h2, h4] at e
  rw [e] at hP1 hD1
  exact kk q _ _ H1 h1 h2 h3 h4 hP1 hD1 hS1
theorem y_newa {x : Int32} {L : Nat} (hx : p.tables.exec = Jvm.exec) (hb : c.code = cc) (harr : (Cond.arrayClass .int).before args s = true) (hK : va_K D vwCl (zTc cy) s) (hP : va_P D vwCl (zN ad n E) H) (hD : va_D (zB b0) (zN ad n E)) (hS : va_S (zB b0) H0 H locs) (hb0 : b0 ≤ H0.size) (hneg : ¬ x < 0) (hL : x.toNatClampNeg = L) (hbytes : L * 4 ≤ 536870912) (hcells : cells + 1 ≤ R.cells) (hslots : slots + L ≤ R.slots) (hdg : decode cc pc = .ok (.newarray .int, 2))
    (kk : ∀ (q : Nat) (ad1 : Nat → Nat) (E1 : Nat → va_E) (H1 : Heap), (∀ i, i < n → ad1 i = ad i) → ad1 n = q → (∀ i, i < n → E1 i = E i) → E1 n = .inl (cy 10, L, .inl (fun _ => 0)) → va_P D vwCl (zN ad1 (n + 1) E1) H1 → va_D (zB b0) (zN ad1 (n + 1) E1) → va_S (zB b0) H0 H1 locs →
      W p l e R s m args below meth c H1 locs (cells + 1) (slots + L) Q (F0 m (pc + 2) ls (.ref q :: rest))) : W p l e R s m args below meth c H locs cells slots Q (F0 m pc ls (.int x :: rest)) := by
  refine va_newa (D := D) (A := zB b0) (atype := .int) (ty := .int) (a0 := (L, .inl (fun _ => 0))) hx hb harr rfl hK hP hD hS (fun q h => Nat.le_trans hb0 h) (fun cA => rfl) hneg hL hbytes hcells hslots hdg (fun q cA H1 hK1 hP1 hD1 hS1 => ?_)
  have hcA : cA = cy 10 := by
    have r1 := (hK1.2 4 (cA, .int) rfl).2
    have r2 := (hK1.2 0 (cy 10, .int) rfl).2
    exact Option.some.inj (r1.symm.trans r2)
  subst hcA
  have h1 : ∀ i, i < n → va_up ad n q i = ad i := fun i h => if_neg (Nat.ne_of_lt h)
  have h2 : va_up ad n q n = q := if_pos rfl
  have h3 : ∀ i, i < n → va_up E n (Sum.inl (cy 10, L, Sum.inl (fun _ => 0))) i = E i := fun i h => if_neg (Nat.ne_of_lt h)
  have h4 : va_up E n (Sum.inl (cy 10, L, Sum.inl (fun _ => 0))) n = Sum.inl (cy 10, L, Sum.inl (fun _ => 0)) := if_pos rfl
  have e := zN_push h1 h3
  rw [h2, h4] at e
  rw [e] at hP1 hD1
  exact kk q _ _ H1 h1 h2 h3 h4 hP1 hD1 hS1
theorem y_newq {x : Int32} {L t0 : Nat} {C0 : String} {cA0 : ClassId} (hx : p.tables.exec = Jvm.exec) (hb : c.code = cc) (hown : s.vm.findClass own = some m.cls) (hclink : (Cond.classLink own index C0).before args s = true) (hover : va_AO C0 s) (ht : (zTc cy)[t0]? = some (cA0, .object C0)) (hK : va_K D vwCl (zTc cy) s) (hP : va_P D vwCl (zN ad n E) H) (hD : va_D (zB b0) (zN ad n E)) (hS : va_S (zB b0) H0 H locs) (hb0 : b0 ≤ H0.size) (hneg : ¬ x < 0) (hL : x.toNatClampNeg = L) (hbytes : L * 4 ≤ 536870912) (hcells : cells + 1 ≤ R.cells) (hslots : slots + L ≤ R.slots) (hdg : decode cc pc = .ok (.anewarray index, 3))
    (kk : ∀ (q : Nat) (ad1 : Nat → Nat) (E1 : Nat → va_E) (H1 : Heap), (∀ i, i < n → ad1 i = ad i) → ad1 n = q → (∀ i, i < n → E1 i = E i) → E1 n = .inl (cA0, L, .inr (.inr (.inr (.inr (fun _ => none))))) → va_P D vwCl (zN ad1 (n + 1) E1) H1 → va_D (zB b0) (zN ad1 (n + 1) E1) → va_S (zB b0) H0 H1 locs →
      W p l e R s m args below meth c H1 locs (cells + 1) (slots + L) Q (F0 m (pc + 3) ls (.ref q :: rest))) : W p l e R s m args below meth c H locs cells slots Q (F0 m pc ls (.int x :: rest)) := by
  refine va_newq (D := D) (A := zB b0) hx hb hown hclink hover hK hP hD hS (fun q h => Nat.le_trans hb0 h) hneg hL hbytes hcells hslots hdg (fun q cA H1 hK1 hP1 hD1 hS1 => ?_)
  have hcA : cA = cA0 := by
    obtain ⟨_, _, -, -, -, r1⟩ := (hK1.2 4 (cA, .object C0) rfl).2
    have ht2 : (zTc cy ++ [(cA, .object C0)])[t0]? = some (cA0, .object C0) := by
      rw [List.getElem?_append_left (List.getElem?_eq_some_iff.mp ht).1]
      exact ht
    obtain ⟨_, _, -, -, -, r2⟩ := (hK1.2 t0 (cA0, .object C0) ht2).2
    exact Option.some.inj (r1.symm.trans r2)
  subst hcA
  have h1 : ∀ i, i < n → va_up ad n q i = ad i := fun i h => if_neg (Nat.ne_of_lt h)
  have h2 : va_up ad n q n = q := if_pos rfl
  have h3 : ∀ i, i < n → va_up E n (Sum.inl (cA, L, Sum.inr (Sum.inr (Sum.inr (Sum.inr (fun _ => none)))))) i = E i := fun i h => if_neg (Nat.ne_of_lt h)
  have h4 : va_up E n (Sum.inl (cA, L, Sum.inr (Sum.inr (Sum.inr (Sum.inr (fun _ => none)))))) n = Sum.inl (cA, L, Sum.inr (Sum.inr (Sum.inr (Sum.inr (fun _ => none))))) := if_pos rfl
  have e := zN_push h1 h3
  rw [h2, h4] at e
  rw [e] at hP1 hD1
  exact kk q _ _ H1 h1 h2 h3 h4 hP1 hD1 hS1
theorem y_alen {k a : Nat} {cA : ClassId} {x : vp_A} {v : Int32} (t0 : Nat) {ty : FieldType} (hx : p.tables.exec = Jvm.exec) (hb : c.code = cc) (hK : va_K D vwCl (zTc cy) s) (hP : va_P D vwCl (zN ad n E) H) (hk : k < n) (ha : ad k = a) (hE : E k = .inl (cA, x)) (ht : (zTc cy)[t0]? = some (cA, ty)) (hv : Int32.ofNat x.1 = v) (hdg : decode cc pc = .ok (.arraylength, 1))
    (kk : W p l e R s m args below meth c H locs cells slots Q (F0 m (pc + 1) ls (.int v :: rest))) : W p l e R s m args below meth c H locs cells slots Q (F0 m pc ls (.ref a :: rest)) := by
  subst ha
  exact va_alen (D := D) hx hb hK hP k t0 (by rw [zN_get hk, hE]) ht hv hdg kk
theorem y_aast {k a L qk v ci t0 : Nat} {r : vw_C} {cA : ClassId} {vs : List Value} {f f2 : Nat → Option Nat} {i : Int32} (hx : p.tables.exec = Jvm.exec) (hb : c.code = cc) (hK : va_K D vwCl (zTc cy) s) (hP : va_P D vwCl (zN ad n E) H) (hD : va_D (zB b0) (zN ad n E)) (hS : va_S (zB b0) H0 H locs) (hk : k < n) (ha : ad k = a) (hE : E k = .inl (cA, L, .inr (.inr (.inr (.inr f))))) (ht : (zTc cy)[t0]? = some (cA, .object r.1)) (hqk : qk < n) (hv : ad qk = v) (hEv : E qk = .inr (ci, vs)) (hc : vwCl[ci]? = some r) (hin : vp_in i L) (hf2 : va_up f i.toNatClampNeg (some v) = f2) (hdg : decode cc pc = .ok (.aastore, 1))
    (kk : ∀ (E1 : Nat → va_E) (H1 : Heap) (locs1 : List Loc), (∀ j, j ≠ k → E1 j = E j) → E1 k = .inl (cA, L, .inr (.inr (.inr (.inr f2)))) → va_P D vwCl (zN ad n E1) H1 → va_D (zB b0) (zN ad n E1) → va_S (zB b0) H0 H1 locs1 → W p l e R s m args below meth c H1 locs1 cells slots Q (F0 m (pc + 1) ls rest)) : W p l e R s m args below meth c H locs cells slots Q (F0 m pc ls (.ref v :: .int i :: .ref a :: rest)) := by
  subst ha
  subst hv
  subst hf2
  refine va_astq (D := D) (A := zB b0) hx hb hK hP hD hS k t0 qk ci (r := r) (vs := vs) (f := f) (by rw [zN_get hk, hE]) ht (by rw [zN_get hqk, hEv]) hc hin hdg (fun H1 locs1 hP1 hD1 hS1 => ?_)
  have hE1 : va_up E k (Sum.inl (cA, L, Sum.inr (Sum.inr (Sum.inr (Sum.inr (va_up f i.toNatClampNeg (some (ad qk)))))))) k = Sum.inl (cA, L, Sum.inr (Sum.inr (Sum.inr (Sum.inr (va_up f i.toNatClampNeg (some (ad qk))))))) := if_pos rfl
  have hE2 : ∀ j, j ≠ k → va_up E k (Sum.inl (cA, L, Sum.inr (Sum.inr (Sum.inr (Sum.inr (va_up f i.toNatClampNeg (some (ad qk)))))))) j = E j := fun j h => if_neg h
  rw [← hE1, zN_set hk hE2] at hP1 hD1
  exact kk _ H1 locs1 hE2 hE1 hP1 hD1 hS1
theorem y_pre {vs : List Value} (hb0 : b0 ≤ s.heap.size) (hS : va_S (zB b0) s.heap H locs) (hK : va_K D vwCl (zTc cy) s) (hX : zX s) (hP : va_P D vwCl (zN ad n E) H) (hD : va_D (zB b0) (zN ad n E)) : PreS s H (va_Pc vs (zNS D cy b0 ad n E)) vs :=
  ⟨fun _ U g mk q => ⟨q.1, q.2.1, q.2.2.1, q.2.2.2.1, va_K.moved (u := U) (U := U.calling g mk _) (Vm.Alike.refl U.vm) q.2.2.2.2.1, zX.same (u := U) (U := U.calling g mk _) rfl q.2.2.2.2.2⟩,
   fun U hU hW => ⟨rfl, by rw [hU]; exact Nat.le_trans hb0 hS.1, by rw [hU]; exact hP, hD, va_K.moved hW.alike hK, zX.moved hW hX⟩⟩
theorem y_runI {y : MethodName} {bytes : ByteArray} {maxL nL k2 mc ms a : Nat} {ws : List Cond} {rm : Room} {Qc : Array Value → State → Outcome → State → Prop} {As st0 : List Value} (S : CallFix p m c cc nL s args Ts own) (hM : Met l y ws rm (va_Pc (.ref a :: As) (zNS D cy b0 ad n E)) Qc mc ms (zB b0)) (cw : CallB R s args own index y bytes maxL none ws rm mc ms k2 ∧ y.name = "<init>" ∧ (Cond.instanceMethod y).before args s = true)
    (hb0 : b0 ≤ s.heap.size) (hS : va_S (zB b0) s.heap H locs) (hK : va_K D vwCl (zTc cy) s) (hX : zX s) (hP : va_P D vwCl (zN ad n E) H) (hD : va_D (zB b0) (zN ad n E)) (hn : As.length = k2) (hsize : ls.size = nL) (hst : st0 = As.reverse ++ .ref a :: rest) (hW : (rest.map fun v => v.category).sum ≤ 8) (hdg : decode cc pc = .ok (.invokespecial index, 3)) (hcs : cells + mc ≤ R.cells ∧ slots + ms ≤ R.slots) :
    va_Run p l e R s m args below meth c H locs cells slots mc ms (F0 m pc ls st0) rest (Qc (Value.ref a :: As).toArray) (zB b0) :=
  va_runI S hM cw (y_pre hb0 hS hK hX hP hD) rfl hn hsize hst (lv_room hW) hdg hcs
theorem y_runIN {y : MethodName} {bytes : ByteArray} {maxL nL k2 mc ms a : Nat} {ws : List Cond} {rm : Room} {host : String} {Qc : Array Value → State → Outcome → State → Prop} {As st0 : List Value} (S : CallFix p m c cc nL s args Ts own) (hM : Met l y ws rm (va_Pc (.ref a :: As) (zNS D cy b0 ad n E)) Qc mc ms (zB b0)) (cw : va_CN R s args own index y host bytes maxL none ws rm mc ms k2 ∧ y.name = "<init>" ∧ (Cond.instanceMethod y).before args s = true)
    (hb0 : b0 ≤ s.heap.size) (hS : va_S (zB b0) s.heap H locs) (hK : va_K D vwCl (zTc cy) s) (hX : zX s) (hP : va_P D vwCl (zN ad n E) H) (hD : va_D (zB b0) (zN ad n E)) (hn : As.length = k2) (hsize : ls.size = nL) (hst : st0 = As.reverse ++ .ref a :: rest) (hW : (rest.map fun v => v.category).sum ≤ 8) (hdg : decode cc pc = .ok (.invokespecial index, 3)) (hcs : cells + mc ≤ R.cells ∧ slots + ms ≤ R.slots) :
    va_Run p l e R s m args below meth c H locs cells slots mc ms (F0 m pc ls st0) rest (Qc (Value.ref a :: As).toArray) (zB b0) :=
  va_runIN S hM cw (y_pre hb0 hS hK hX hP hD) rfl hn hsize hst (lv_room hW) hdg hcs
theorem y_callv {mc ms n2 : Nat} {post : (Nat → Nat) × (Nat → va_E) → Prop} {a : Array Value} {st0 : List Value} (hr : va_Run p l e R s m args below meth c H locs cells slots mc ms (F0 m pc ls st0) rest (zQn D cy b0 n2 post a) (zB b0)) (hS : va_S (zB b0) H0 H locs)
    (kk : ∀ (ad1 : Nat → Nat) (E1 : Nat → va_E) (H1 : Heap) (locs1 : List Loc), post (ad1, E1) → va_P D vwCl (zN ad1 n2 E1) H1 → va_D (zB b0) (zN ad1 n2 E1) → va_S (zB b0) H0 H1 locs1 → W p l e R s m args below meth c H1 locs1 (cells + mc) (slots + ms) Q (F0 m (pc + 3) ls rest)) : W p l e R s m args below meth c H locs cells slots Q (F0 m pc ls st0) :=
  va_callv hr hS (fun _ _ h => h) (fun _ h => h) (fun u t H1 locs1 ht _ hp hB _ _ hS1 => by
    obtain ⟨-, hP1, hD1, -, -⟩ := hB
    rw [ht] at hP1
    exact kk u.1 u.2 H1 locs1 hp hP1 hD1 hS1)
theorem y_vret {ad1 : Nat → Nat} {E1 : Nat → va_E} {post : (Nat → Nat) × (Nat → va_E) → Prop} (hpost : post (ad1, E1)) (hx : p.tables.exec = Jvm.exec) (hb : c.code = cc) (hr : meth.sig.returnType = none) (hlocks : meth.locks = false) (hb0 : b0 ≤ s.heap.size) (hK : va_K D vwCl (zTc cy) s) (hX : zX s) (hP : va_P D vwCl (zN ad1 n E1) H) (hD : va_D (zB b0) (zN ad1 n E1)) (hS : va_S (zB b0) s.heap H locs) (hdg : decode cc pc = .ok (.return_, 1)) :
    W p l e R s m args below meth c H locs cells slots (MQ below (zQn D cy b0 n post) args s cells slots (zB b0)) (F0 m pc ls []) :=
  W.vret hx hb hr (fun t ht hW => ⟨⟨(ad1, E1), rfl, hpost, by rw [ht]; exact Nat.le_trans hb0 hS.1, by rw [ht]; exact hP, hD, va_K.moved hW.alike hK, zX.moved hW hX⟩, hS.F ht⟩) hS.2.2 hdg hlocks
end ZC

theorem wI0_f {t c : Nat} (h : wK t = c) (hc : c ≠ 4) : wI0 t = fun _ => 0 := funext fun _ => if_neg (by rw [h]; exact hc)
theorem wI0_o {t j c : Nat} (h : wK t = c) (hc : c ≠ 4) : wI0 t j = 0 := if_neg (by rw [h]; exact hc)
theorem wf_0 {k : Nat} (h : wK k = 0) : wK (k + 1) = 4 ∧ wI0 (k + 1) 0 = 12 ∧ wI0 (k + 1) 1 = 1 ∧ wK (k + 1 + 1) = 10 ∧ wLn (k + 1 + 1) = 12 := wK_all (P := fun k c => c = 0 → wK (k + 1) = 4 ∧ wI0 (k + 1) 0 = 12 ∧ wI0 (k + 1) 1 = 1 ∧ wK (k + 1 + 1) = 10 ∧ wLn (k + 1 + 1) = 12) (by decide +kernel) h (by decide) rfl
theorem wf_1 {k : Nat} (h : wK k = 1) : wK (k + 1) = 4 ∧ wI0 (k + 1) 0 = 60 ∧ wI0 (k + 1) 1 = 1 ∧ wK (k + 1 + 1) = 10 ∧ wLn (k + 1 + 1) = 60 := wK_all (P := fun k c => c = 1 → wK (k + 1) = 4 ∧ wI0 (k + 1) 0 = 60 ∧ wI0 (k + 1) 1 = 1 ∧ wK (k + 1 + 1) = 10 ∧ wLn (k + 1 + 1) = 60) (by decide +kernel) h (by decide) rfl
theorem wf_5a {k : Nat} (h : wK k = 5) : wK (k + 1) = 4 ∧ wI0 (k + 1) 0 = 120 ∧ wI0 (k + 1) 1 = 1 ∧ wK (k + 1 + 1) = 10 ∧ wLn (k + 1 + 1) = 120 := wK_all (P := fun k c => c = 5 → wK (k + 1) = 4 ∧ wI0 (k + 1) 0 = 120 ∧ wI0 (k + 1) 1 = 1 ∧ wK (k + 1 + 1) = 10 ∧ wLn (k + 1 + 1) = 120) (by decide +kernel) h (by decide) rfl
theorem wf_5b {k : Nat} (h : wK k = 5) : wK (k + 3) = 4 ∧ wI0 (k + 3) 0 = 31 ∧ wI0 (k + 3) 1 = 5 ∧ wK (k + 3 + 1) = 10 ∧ wLn (k + 3 + 1) = 155 := wK_all (P := fun k c => c = 5 → wK (k + 3) = 4 ∧ wI0 (k + 3) 0 = 31 ∧ wI0 (k + 3) 1 = 5 ∧ wK (k + 3 + 1) = 10 ∧ wLn (k + 3 + 1) = 155) (by decide +kernel) h (by decide) rfl
theorem wf_7a {k : Nat} (h : wK k = 7) : wK (k + 1) = 4 ∧ wI0 (k + 1) 0 = 8 ∧ wI0 (k + 1) 1 = 3 ∧ wK (k + 1 + 1) = 10 ∧ wLn (k + 1 + 1) = 24 := wK_all (P := fun k c => c = 7 → wK (k + 1) = 4 ∧ wI0 (k + 1) 0 = 8 ∧ wI0 (k + 1) 1 = 3 ∧ wK (k + 1 + 1) = 10 ∧ wLn (k + 1 + 1) = 24) (by decide +kernel) h (by decide) rfl
theorem wf_7b {k : Nat} (h : wK k = 7) : wK (k + 3) = 4 ∧ wI0 (k + 3) 0 = 6 ∧ wI0 (k + 3) 1 = 4 ∧ wK (k + 3 + 1) = 10 ∧ wLn (k + 3 + 1) = 24 := wK_all (P := fun k c => c = 7 → wK (k + 3) = 4 ∧ wI0 (k + 3) 0 = 6 ∧ wI0 (k + 3) 1 = 4 ∧ wK (k + 3 + 1) = 10 ∧ wLn (k + 3 + 1) = 24) (by decide +kernel) h (by decide) rfl
theorem wf_7c {k : Nat} (h : wK k = 7) : wK (k + 5) = 4 ∧ wI0 (k + 5) 0 = 8 ∧ wI0 (k + 5) 1 = 4 ∧ wK (k + 5 + 1) = 10 ∧ wLn (k + 5 + 1) = 32 := wK_all (P := fun k c => c = 7 → wK (k + 5) = 4 ∧ wI0 (k + 5) 0 = 8 ∧ wI0 (k + 5) 1 = 4 ∧ wK (k + 5 + 1) = 10 ∧ wLn (k + 5 + 1) = 32) (by decide +kernel) h (by decide) rfl
theorem wf_6a {k : Nat} (h : wK k = 6) : wK (k + 1) = 2 := wK_all (P := fun k c => c = 6 → wK (k + 1) = 2) (by decide +kernel) h (by decide) rfl
theorem wf_6b {k : Nat} (h : wK k = 6) : wK (k + 110) = 0 := wK_all (P := fun k c => c = 6 → wK (k + 110) = 0) (by decide +kernel) h (by decide) rfl
theorem cl_0 {k : Nat} (h : wK k = 0) : ∀ d, d < 2 → wRM (k + 1 + d) < k + 3 := wK_all (P := fun k c => c = 0 → ∀ d, d < 2 → wRM (k + 1 + d) < k + 3) (by decide +kernel) h (by decide) rfl
theorem cl_1 {k : Nat} (h : wK k = 1) : ∀ d, d < 2 → wRM (k + 1 + d) < k + 3 := wK_all (P := fun k c => c = 1 → ∀ d, d < 2 → wRM (k + 1 + d) < k + 3) (by decide +kernel) h (by decide) rfl
theorem cl_5a {k : Nat} (h : wK k = 5) : ∀ d, d < 2 → wRM (k + 1 + d) < k + 3 := wK_all (P := fun k c => c = 5 → ∀ d, d < 2 → wRM (k + 1 + d) < k + 3) (by decide +kernel) h (by decide) rfl
theorem cl_5b {k : Nat} (h : wK k = 5) : ∀ d, d < 2 → wRM (k + 3 + d) < k + 5 := wK_all (P := fun k c => c = 5 → ∀ d, d < 2 → wRM (k + 3 + d) < k + 5) (by decide +kernel) h (by decide) rfl
theorem cl_6a {k : Nat} (h : wK k = 6) : ∀ d, d < 109 → wRM (k + 1 + d) < k + 110 := wK_all (P := fun k c => c = 6 → ∀ d, d < 109 → wRM (k + 1 + d) < k + 110) (by decide +kernel) h (by decide) rfl
theorem cl_6b {k : Nat} (h : wK k = 6) : ∀ d, d < 3 → wRM (k + 110 + d) < k + 113 := wK_all (P := fun k c => c = 6 → ∀ d, d < 3 → wRM (k + 110 + d) < k + 113) (by decide +kernel) h (by decide) rfl
theorem cl_7a {k : Nat} (h : wK k = 7) : ∀ d, d < 2 → wRM (k + 1 + d) < k + 3 := wK_all (P := fun k c => c = 7 → ∀ d, d < 2 → wRM (k + 1 + d) < k + 3) (by decide +kernel) h (by decide) rfl
theorem cl_7b {k : Nat} (h : wK k = 7) : ∀ d, d < 2 → wRM (k + 3 + d) < k + 5 := wK_all (P := fun k c => c = 7 → ∀ d, d < 2 → wRM (k + 3 + d) < k + 5) (by decide +kernel) h (by decide) rfl
theorem cl_7c {k : Nat} (h : wK k = 7) : ∀ d, d < 2 → wRM (k + 5 + d) < k + 7 := wK_all (P := fun k c => c = 7 → ∀ d, d < 2 → wRM (k + 5 + d) < k + 7) (by decide +kernel) h (by decide) rfl
theorem wl_4 {k : Nat} (h : wK k = 4) : k + 2 ≤ 359 := wK_all (P := fun k c => c = 4 → k + 2 ≤ 359) (by decide +kernel) h (by decide) rfl
theorem wl_3 {k : Nat} (h : wK k = 3) : k + 2 ≤ 359 := wK_all (P := fun k c => c = 3 → k + 2 ≤ 359) (by decide +kernel) h (by decide) rfl
theorem wl_0 {k : Nat} (h : wK k = 0) : k + 3 ≤ 359 := wK_all (P := fun k c => c = 0 → k + 3 ≤ 359) (by decide +kernel) h (by decide) rfl
theorem wl_1 {k : Nat} (h : wK k = 1) : k + 3 ≤ 359 := wK_all (P := fun k c => c = 1 → k + 3 ≤ 359) (by decide +kernel) h (by decide) rfl
theorem wl_7 {k : Nat} (h : wK k = 7) : k + 7 ≤ 359 := wK_all (P := fun k c => c = 7 → k + 7 ≤ 359) (by decide +kernel) h (by decide) rfl
theorem wl_5 {k : Nat} (h : wK k = 5) : k + 5 ≤ 359 := wK_all (P := fun k c => c = 5 → k + 5 ≤ 359) (by decide +kernel) h (by decide) rfl
theorem wl_6 {k : Nat} (h : wK k = 6) : k + 113 ≤ 359 := wK_all (P := fun k c => c = 6 → k + 113 ≤ 359) (by decide +kernel) h (by decide) rfl
theorem wl_2 {k : Nat} (h : wK k = 2) : k + 109 ≤ 359 := wK_all (P := fun k c => c = 2 → k + 109 ≤ 359) (by decide +kernel) h (by decide) rfl
theorem cl_2a {k : Nat} (h : wK k = 2) : ∀ d, d < 2 → wRM (k + 3 + d) < k + 5 := wK_all (P := fun k c => c = 2 → ∀ d, d < 2 → wRM (k + 3 + d) < k + 5) (by decide +kernel) h (by decide) rfl
theorem cl_2b {k : Nat} (h : wK k = 2) : ∀ d, d < 7 → wRM (k + 5 + d) < k + 12 := wK_all (P := fun k c => c = 2 → ∀ d, d < 7 → wRM (k + 5 + d) < k + 12) (by decide +kernel) h (by decide) rfl
theorem cl_2c {k : Nat} (h : wK k = 2) : ∀ d, d < 3 → wRM (k + 12 + d) < k + 15 := wK_all (P := fun k c => c = 2 → ∀ d, d < 3 → wRM (k + 12 + d) < k + 15) (by decide +kernel) h (by decide) rfl
theorem cl_2p {k : Nat} (h : wK k = 2) : wRM (k + 1) < k + 39 := wK_all (P := fun k c => c = 2 → wRM (k + 1) < k + 39) (by decide +kernel) h (by decide) rfl
theorem cl_2g {k : Nat} (h : wK k = 2) : ∀ j, j < 13 → ∀ d, d < 12 + 2 * j → wRM (k + 3 + d) < k + 15 + 2 * j := wK_all (P := fun k c => c = 2 → ∀ j, j < 13 → ∀ d, d < 12 + 2 * j → wRM (k + 3 + d) < k + 15 + 2 * j) (by decide +kernel) h (by decide) rfl
theorem cl_2h {k : Nat} (h : wK k = 2) : ∀ j, j < 11 → ∀ d, d < 36 + 7 * j → wRM (k + 3 + d) < k + 39 + 7 * j := wK_all (P := fun k c => c = 2 → ∀ j, j < 11 → ∀ d, d < 36 + 7 * j → wRM (k + 3 + d) < k + 39 + 7 * j) (by decide +kernel) h (by decide) rfl
theorem cl_3 {k : Nat} (h : wK k = 3) : ∀ d, d < 2 → wRM (k + d) < k + 2 := wK_all (P := fun k c => c = 3 → ∀ d, d < 2 → wRM (k + d) < k + 2) (by decide +kernel) h (by decide) rfl
theorem cl_7 {k : Nat} (h : wK k = 7) : ∀ d, d < 7 → wRM (k + d) < k + 7 := wK_all (P := fun k c => c = 7 → ∀ d, d < 7 → wRM (k + d) < k + 7) (by decide +kernel) h (by decide) rfl
theorem cl_1u {k : Nat} (h : wK k = 1) : ∀ d, d < 3 → wRM (k + d) < k + 3 := wK_all (P := fun k c => c = 1 → ∀ d, d < 3 → wRM (k + d) < k + 3) (by decide +kernel) h (by decide) rfl
theorem clX_1 : ∀ i, 1 ≤ i → i < 114 → wRM i < 114 := fun i h1 h2 => (show ∀ i, i < 114 → 1 ≤ i → wRM i < 114 by decide +kernel) i h2 h1
theorem clX_114 : ∀ i, 114 ≤ i → i < 223 → wRM i < 223 := fun i h1 h2 => (show ∀ i, i < 223 → 114 ≤ i → wRM i < 223 by decide +kernel) i h2 h1
theorem clX_223 : ∀ i, 223 ≤ i → i < 332 → wRM i < 332 := fun i h1 h2 => (show ∀ i, i < 332 → 223 ≤ i → wRM i < 332 by decide +kernel) i h2 h1
theorem clX_332 : ∀ i, 332 ≤ i → i < 337 → wRM i < 337 := fun i h1 h2 => (show ∀ i, i < 337 → 332 ≤ i → wRM i < 337 by decide +kernel) i h2 h1
theorem clX_338 : ∀ i, 338 ≤ i → i < 341 → wRM i < 341 := fun i h1 h2 => (show ∀ i, i < 341 → 338 ≤ i → wRM i < 341 by decide +kernel) i h2 h1
theorem clX_all : ∀ i, 1 ≤ i → i < 337 → wRM i < 337 := fun i h1 h2 => (show ∀ i, i < 337 → 1 ≤ i → wRM i < 337 by decide +kernel) i h2 h1
theorem cl_8g : ∀ j, j < 7 → ∀ d, d < 3 + 3 * j → wRM (338 + d) < 341 + 3 * j := by decide +kernel
set_option maxRecDepth 100000 in
set_option maxHeartbeats 8000000 in
theorem c_X4_init (l : Launch) (D : va_G) (cy : Nat → ClassId) (b0 : Nat) (ad : Nat → Nat) (E : Nat → va_E) (t a : Nat) (r w : Int32) (N : Nat) (hk : wK t = 4) (hA0 : ad t = a) (hE0 : E t = .inr (4, [.int 0, .int 0, .null, .int 0])) (hr0 : wI0 t 0 = r) (hw0 : wI0 t 1 = w) (hk1 : wK (t + 1) = 10) (hN : wLn (t + 1) = N) (hN2 : N ≤ 200) (hmx : (if r * w < 0 then 0 else r * w).toNatClampNeg = N) (hnn : ¬ (if r * w < 0 then 0 else r * w) < 0) : Met l yX4_init wsX4_init (zrn 1 1 N 21) (va_Pc [.ref a, .int r, .int w] (zNS D cy b0 ad (t + 1) E)) (zQn D cy b0 (t + 2) (fun u => (∀ i, i < t + 1 → u.1 i = ad i) ∧ (∀ i, i < t → u.2 i = E i) ∧ zblk D cy b0 u.1 u.2 t (t + 2))) 1 N (zB b0) := by
  refine zMetN (cc := cX4_init) (nL := 3) (ret := none) (by decide) rfl (Nat.le_of_ble_eq_true rfl) ?_
  intro p e s m args below meth c H locs ls F hmn hK hX hb0 hP hD hS hl
  have hmn : meth.name = "<init>" := hmn.symm
  obtain ⟨hx, hb, hr, hml, hts, hown, hlocks⟩ := F
  have hown : s.vm.findClass RX4 = some m.cls := hown
  have hl : lv_has ls 3 [(0, .ref a), (1, .int r), (2, .int w)] := hl
  have hi4 : ∀ w ∈ wsX40, w ∈ wsX4_init := fun _ h => List.mem_cons_of_mem _ (List.mem_append_right _ h)
  have hAd : ∀ i, i < t + 1 → ad i = ad i := fun _ _ => rfl
  have hEo : ∀ i, i < t → E i = E i := fun _ _ => rfl
  have ht : t + 2 ≤ 359 := wl_4 hk
  refine lv_aload_n hx hb dX4_init_0 rfl (lv_at hl 0 rfl) ?_
  refine W.objInit hx hb hown (hts (.methodLink RX4 1 objectInit) (by decide +kernel)) (hts (.instanceMethod objectInit) (by decide +kernel)) (hts (.code objectInit ⟨#[0xb1]⟩ 1 none) (by decide +kernel)) rfl (by rw [hml]; exact hl.1) rfl dX4_init_1 (Nat.le_of_ble_eq_true rfl) (Nat.le_of_ble_eq_true rfl) ?_
  refine W.eq (g2 := F0 m 4 ls []) rfl ?_
  refine lv_aload_n hx hb dX4_init_4 rfl (lv_at hl 0 rfl) ?_
  refine lv_iload_n hx hb dX4_init_5 rfl (lv_at hl 1 rfl) ?_
  refine y_putF (j := 0) (fs2 := [.int r, .int 0, .null, .int 0]) (ty0 := tyX4) (ty := .int) hmn hx hb hts hi4 hown hK hP hD hS (by omega : t < t + 1) hA0 hE0 rfl tyX4_ok nmX4 (by decide) (hts (.fieldLink RX4 7 "LeaseOffice$Table" "rows" "I") (by decide +kernel)) rfl rfl (by decide +kernel) rfl rfl (Nat.le_of_ble_eq_true rfl) rfl dX4_init_6 (fun E1 H locs g3 g4 hP hD hS => ?_)
  have hEo : ∀ i, i < t → E1 i = E i := fun i hi => (g3 i (by omega)).trans (hEo i hi)
  have hE0 : E1 (t) = .inr (4, [.int r, .int 0, .null, .int 0]) := g4
  refine lv_aload_n hx hb dX4_init_9 rfl (lv_at hl 0 rfl) ?_
  refine lv_iload_n hx hb dX4_init_10 rfl (lv_at hl 2 rfl) ?_
  refine y_putF (j := 1) (fs2 := [.int r, .int w, .null, .int 0]) (ty0 := tyX4) (ty := .int) hmn hx hb hts hi4 hown hK hP hD hS (by omega : t < t + 1) hA0 hE0 rfl tyX4_ok nmX4 (by decide) (hts (.fieldLink RX4 13 "LeaseOffice$Table" "width" "I") (by decide +kernel)) rfl rfl (by decide +kernel) rfl rfl (Nat.le_of_ble_eq_true rfl) rfl dX4_init_11 (fun E2 H locs g3 g4 hP hD hS => ?_)
  have hEo : ∀ i, i < t → E2 i = E i := fun i hi => (g3 i (by omega)).trans (hEo i hi)
  have hE0 : E2 (t) = .inr (4, [.int r, .int w, .null, .int 0]) := g4
  refine lv_aload_n hx hb dX4_init_14 rfl (lv_at hl 0 rfl) ?_
  refine lv_iload_n hx hb dX4_init_15 rfl (lv_at hl 1 rfl) ?_
  refine lv_iload_n hx hb dX4_init_16 rfl (lv_at hl 2 rfl) ?_
  refine lv_imul hx hb dX4_init_17 ?_
  refine lv_iconst (v := 0) hx hb dX4_init_18 (by decide) ?_
  refine va_mmax hx hb (hml.trans hl.1.symm) hown (hts (.methodLink RX4 16 Lib.Math.max.name) (by decide +kernel)) (hts (.static Lib.Math.max.name) (by decide +kernel)) (hts (.initialized "java/lang/Math") (by decide +kernel)) (hts (.code Lib.Math.max.name Lib.Math.max.code 2 (some .int)) (by decide +kernel)) (Nat.le_of_ble_eq_true rfl) (Nat.le_of_ble_eq_true rfl) (Nat.zero_le _) (Nat.zero_le _) dX4_init_19 ?_
  refine y_newa (L := N) hx hb (hts (.arrayClass .int) (by decide +kernel)) hK hP hD hS hb0 hnn hmx (by omega) (Nat.le_of_ble_eq_true rfl) (by show 0 + N ≤ N; omega) dX4_init_22 (fun q3 ad3 E3 H g1 g2 g3 g4 hP hD hS => ?_)
  have hAd : ∀ i, i < t + 1 → ad3 i = ad i := fun i hi => (g1 i (by omega)).trans (hAd i hi)
  have hEo : ∀ i, i < t → E3 i = E i := fun i hi => (g3 i (by omega)).trans (hEo i hi)
  have hA0 : ad3 (t) = a := (g1 (t) (by omega)).trans hA0
  have hE0 : E3 (t) = .inr (4, [.int r, .int w, .null, .int 0]) := (g3 (t) (by omega)).trans hE0
  have hA1 : ad3 (t + 1) = q3 := g2
  have hE1 : E3 (t + 1) = .inl (cy 10, N, .inl (fun _ => 0)) := g4
  have hP : va_P D vwCl (zN ad3 (t + 2) E3) H := hP
  have hD : va_D (zB b0) (zN ad3 (t + 2) E3) := hD
  refine y_putF (j := 2) (fs2 := [.int r, .int w, .ref q3, .int 0]) (ty0 := tyX4) (ty := .array .int) hmn hx hb hts hi4 hown hK hP hD hS (by omega : t < t + 2) hA0 hE0 rfl tyX4_ok nmX4 (by decide) (hts (.fieldLink RX4 22 "LeaseOffice$Table" "cells" "[I") (by decide +kernel)) rfl rfl (by decide +kernel) rfl rfl (Nat.le_of_ble_eq_true rfl) rfl dX4_init_24 (fun E4 H locs g3 g4 hP hD hS => ?_)
  have hEo : ∀ i, i < t → E4 i = E i := fun i hi => (g3 i (by omega)).trans (hEo i hi)
  have hE1 : E4 (t + 1) = .inl (cy 10, N, .inl (fun _ => 0)) := (g3 (t + 1) (by omega)).trans hE1
  have hE0 : E4 (t) = .inr (4, [.int r, .int w, .ref q3, .int 0]) := g4
  have hB0 : zblk D cy b0 ad3 E4 t (t + 1) := by
    refine zblk_one ?_
    rw [hE0, wE_o hk (by decide)]
    have z3 : wI0 t 3 = 0 := by simp [wI0, hk]
    simp only [wO, hr0, hw0, z3, hA1]
  have hB1 : zblk D cy b0 ad3 E4 (t + 1) (t + 1 + 1) := zblk_one (by rw [hE1, wE_10 hk1 hN, wI0_f hk1 (by decide)])
  refine W.widen (k := 1) (n := N) (Nat.le_of_ble_eq_true rfl) (by show 0 + N ≤ N; omega) ?_
  exact y_vret ⟨hAd, hEo, zblk_app hB0 hB1⟩ hx hb hr hlocks hb0 hK hX hP hD hS dX4_init_27
set_option maxRecDepth 100000 in
set_option maxHeartbeats 8000000 in
theorem c_X3_init (l : Launch) (D : va_G) (cy : Nat → ClassId) (b0 : Nat) (ad : Nat → Nat) (E : Nat → va_E) (t a : Nat) (hk : wK t = 3) (hA0 : ad t = a) (hE0 : E t = .inr (3, [.int 0, .int 0, .int 0, .int 0, .int 0, .null])) : Met l yX3_init wsX3_init (zrn 1 1 10 20) (va_Pc [.ref a] (zNS D cy b0 ad (t + 1) E)) (zQn D cy b0 (t + 2) (fun u => (∀ i, i < t + 1 → u.1 i = ad i) ∧ (∀ i, i < t → u.2 i = E i) ∧ zblk D cy b0 u.1 u.2 t (t + 2))) 1 10 (zB b0) := by
  refine zMetN (cc := cX3_init) (nL := 1) (ret := none) (by decide) rfl (Nat.le_of_ble_eq_true rfl) ?_
  intro p e s m args below meth c H locs ls F hmn hK hX hb0 hP hD hS hl
  have hmn : meth.name = "<init>" := hmn.symm
  obtain ⟨hx, hb, hr, hml, hts, hown, hlocks⟩ := F
  have hown : s.vm.findClass RX3 = some m.cls := hown
  have hl : lv_has ls 1 [(0, .ref a)] := hl
  have hi3 : ∀ w ∈ wsX30, w ∈ wsX3_init := fun _ h => List.mem_cons_of_mem _ (List.mem_append_right _ h)
  have hAd : ∀ i, i < t + 1 → ad i = ad i := fun _ _ => rfl
  have hEo : ∀ i, i < t → E i = E i := fun _ _ => rfl
  have ht : t + 2 ≤ 359 := wl_3 hk
  refine lv_aload_n hx hb dX3_init_0 rfl (lv_at hl 0 rfl) ?_
  refine W.objInit hx hb hown (hts (.methodLink RX3 3 objectInit) (by decide +kernel)) (hts (.instanceMethod objectInit) (by decide +kernel)) (hts (.code objectInit ⟨#[0xb1]⟩ 1 none) (by decide +kernel)) rfl (by rw [hml]; exact hl.1) rfl dX3_init_1 (Nat.le_of_ble_eq_true rfl) (Nat.le_of_ble_eq_true rfl) ?_
  refine W.eq (g2 := F0 m 4 ls []) rfl ?_
  refine lv_aload_n hx hb dX3_init_4 rfl (lv_at hl 0 rfl) ?_
  refine lv_bipush (v := 10) hx hb dX3_init_5 (by decide) ?_
  refine y_newa (L := 10) hx hb (hts (.arrayClass .int) (by decide +kernel)) hK hP hD hS hb0 (by decide) (by decide) (Nat.le_of_ble_eq_true rfl) (Nat.le_of_ble_eq_true rfl) (Nat.le_of_ble_eq_true rfl) dX3_init_7 (fun q1 ad1 E1 H g1 g2 g3 g4 hP hD hS => ?_)
  have hAd : ∀ i, i < t + 1 → ad1 i = ad i := fun i hi => (g1 i (by omega)).trans (hAd i hi)
  have hEo : ∀ i, i < t → E1 i = E i := fun i hi => (g3 i (by omega)).trans (hEo i hi)
  have hA0 : ad1 (t) = a := (g1 (t) (by omega)).trans hA0
  have hE0 : E1 (t) = .inr (3, [.int 0, .int 0, .int 0, .int 0, .int 0, .null]) := (g3 (t) (by omega)).trans hE0
  have hA1 : ad1 (t + 1) = q1 := g2
  have hE1 : E1 (t + 1) = .inl (cy 10, 10, .inl (fun _ => 0)) := g4
  have hP : va_P D vwCl (zN ad1 (t + 2) E1) H := hP
  have hD : va_D (zB b0) (zN ad1 (t + 2) E1) := hD
  refine W.widen (k := 1) (n := 10) (Nat.le_of_ble_eq_true rfl) (Nat.le_of_ble_eq_true rfl) ?_
  refine y_putF (j := 5) (fs2 := [.int 0, .int 0, .int 0, .int 0, .int 0, .ref q1]) (ty0 := tyX3) (ty := .array .int) hmn hx hb hts hi3 hown hK hP hD hS (by omega : t < t + 2) hA0 hE0 rfl tyX3_ok nmX3 (by decide) (hts (.fieldLink RX3 9 "LeaseOffice$Person" "wishes" "[I") (by decide +kernel)) rfl rfl (by decide +kernel) rfl rfl (Nat.le_of_ble_eq_true rfl) rfl dX3_init_9 (fun E2 H locs g3 g4 hP hD hS => ?_)
  have hEo : ∀ i, i < t → E2 i = E i := fun i hi => (g3 i (by omega)).trans (hEo i hi)
  have hE1 : E2 (t + 1) = .inl (cy 10, 10, .inl (fun _ => 0)) := (g3 (t + 1) (by omega)).trans hE1
  have hE0 : E2 (t) = .inr (3, [.int 0, .int 0, .int 0, .int 0, .int 0, .ref q1]) := g4
  have hB0 : zblk D cy b0 ad1 E2 t (t + 1) := by
    refine zblk_one ?_
    rw [hE0, wE_o hk (by decide)]
    simp only [wO, wI0_o hk (by decide), hA1]
  have hB1 : zblk D cy b0 ad1 E2 (t + 1) (t + 1 + 1) := zblk_one (by rw [hE1, wE_10 (wk_3_5 hk) (wl_3_5 hk), wI0_f (wk_3_5 hk) (by decide)])
  exact y_vret ⟨hAd, hEo, zblk_app hB0 hB1⟩ hx hb hr hlocks hb0 hK hX hP hD hS dX3_init_12
set_option maxRecDepth 100000 in
set_option maxHeartbeats 8000000 in
theorem c_X0_init (l : Launch) (D : va_G) (cy : Nat → ClassId) (b0 : Nat) (ad : Nat → Nat) (E : Nat → va_E) (t a : Nat) (hk : wK t = 0) (hA0 : ad t = a) (hE0 : E t = .inr (0, [.null, .int 0])) : Met l yX0_init wsX0_init (zrn 2 2 16 43) (va_Pc [.ref a] (zNS D cy b0 ad (t + 1) E)) (zQn D cy b0 (t + 3) (fun u => (∀ i, i < t + 1 → u.1 i = ad i) ∧ (∀ i, i < t → u.2 i = E i) ∧ zblk D cy b0 u.1 u.2 t (t + 3))) 2 16 (zB b0) := by
  refine zMetN (cc := cX0_init) (nL := 1) (ret := none) (by decide) rfl (Nat.le_of_ble_eq_true rfl) ?_
  intro p e s m args below meth c H locs ls F hmn hK hX hb0 hP hD hS hl
  have hmn : meth.name = "<init>" := hmn.symm
  obtain ⟨hx, hb, hr, hml, hts, hown, hlocks⟩ := F
  have hown : s.vm.findClass RX0 = some m.cls := hown
  have hl : lv_has ls 1 [(0, .ref a)] := hl
  have hi0 : ∀ w ∈ wsX00, w ∈ wsX0_init := fun _ h => List.mem_cons_of_mem _ (List.mem_append_right _ h)
  have hi4 : ∀ w ∈ wsX40, w ∈ wsX0_init := fun _ h => List.mem_cons_of_mem _ (List.mem_append_left _ (List.mem_append_right _ h))
  have hAd : ∀ i, i < t + 1 → ad i = ad i := fun _ _ => rfl
  have hEo : ∀ i, i < t → E i = E i := fun _ _ => rfl
  have ht : t + 3 ≤ 359 := wl_0 hk
  refine lv_aload_n hx hb dX0_init_0 rfl (lv_at hl 0 rfl) ?_
  refine W.objInit hx hb hown (hts (.methodLink RX0 3 objectInit) (by decide +kernel)) (hts (.instanceMethod objectInit) (by decide +kernel)) (hts (.code objectInit ⟨#[0xb1]⟩ 1 none) (by decide +kernel)) rfl (by rw [hml]; exact hl.1) rfl dX0_init_1 (Nat.le_of_ble_eq_true rfl) (Nat.le_of_ble_eq_true rfl) ?_
  refine W.eq (g2 := F0 m 4 ls []) rfl ?_
  refine lv_aload_n hx hb dX0_init_4 rfl (lv_at hl 0 rfl) ?_
  refine y_new (ci := 4) (fs := [.int 0, .int 0, .null, .int 0]) hx hb hts hi4 tyX4 tyX4_ok hown (hts (.classLink RX0 9 RX4) (by decide +kernel)) (hts (.instantiable RX4 4) (by decide +kernel)) (hts (.initialized RX4) (by decide +kernel)) hK hP hD hS hb0 rfl (fun j hj => by rcases (show j = 0 ∨ j = 1 ∨ j = 2 ∨ j = 3 by omega) with rfl | rfl | rfl | rfl <;> rfl) (Nat.le_of_ble_eq_true rfl) (Nat.le_of_ble_eq_true rfl) dX0_init_5 (fun q1 ad1 E1 H g1 g2 g3 g4 hP hD hS => ?_)
  have hAd : ∀ i, i < t + 1 → ad1 i = ad i := fun i hi => (g1 i (by omega)).trans (hAd i hi)
  have hEo : ∀ i, i < t → E1 i = E i := fun i hi => (g3 i (by omega)).trans (hEo i hi)
  have hA0 : ad1 (t) = a := (g1 (t) (by omega)).trans hA0
  have hE0 : E1 (t) = .inr (0, [.null, .int 0]) := (g3 (t) (by omega)).trans hE0
  have hA1 : ad1 (t + 1) = q1 := g2
  have hE1 : E1 (t + 1) = .inr (4, [.int 0, .int 0, .null, .int 0]) := g4
  have hP : va_P D vwCl (zN ad1 (t + 2) E1) H := hP
  have hD : va_D (zB b0) (zN ad1 (t + 2) E1) := hD
  refine W.widen (k := 1) (n := 4) (Nat.le_of_ble_eq_true rfl) (Nat.le_of_ble_eq_true rfl) ?_
  refine lv_dup hx hb dX0_init_8 rfl ?_
  refine lv_bipush (v := 12) hx hb dX0_init_9 (by decide) ?_
  refine lv_iconst (v := 1) hx hb dX0_init_11 (by decide) ?_
  refine y_callv (y_runI (As := [.int 12, .int 1]) (rest := [.ref q1, .ref a]) ⟨hx, hb, hml, hown, hts⟩ (c_X4_init l D cy b0 ad1 E1 (t + 1) q1 12 1 12 (wf_0 hk).1 hA1 hE1 (wf_0 hk).2.1 (wf_0 hk).2.2.1 (wf_0 hk).2.2.2.1 (wf_0 hk).2.2.2.2 (by decide) (by decide) (by decide)) (cwI 2 hts gX0_init_X4_init rfl rfl rfl (hts (.initialized RX4) (by decide +kernel)) (hts (.methodLink RX0 11 yX4_init) (by decide +kernel)) (hts (.instanceMethod yX4_init) (by decide +kernel)) rfl (by decide +kernel) ⟨Nat.le_of_ble_eq_true rfl, Nat.le_of_ble_eq_true rfl⟩) hb0 hS hK hX hP hD rfl hl.1 rfl (Nat.le_of_ble_eq_true rfl) dX0_init_12 ⟨Nat.le_of_ble_eq_true rfl, Nat.le_of_ble_eq_true rfl⟩) hS (fun ad2 E2 H locs hpo hP hD hS => ?_)
  obtain ⟨g1, g3, hBn⟩ := hpo
  have g1 : ∀ i, i < t + 2 → ad2 i = ad1 i := g1
  have g3 : ∀ i, i < t + 1 → E2 i = E1 i := g3
  have hAd : ∀ i, i < t + 1 → ad2 i = ad i := fun i hi => (g1 i (by omega)).trans (hAd i hi)
  have hEo : ∀ i, i < t → E2 i = E i := fun i hi => (g3 i (by omega)).trans (hEo i hi)
  have hA0 : ad2 (t) = a := (g1 (t) (by omega)).trans hA0
  have hE0 : E2 (t) = .inr (0, [.null, .int 0]) := (g3 (t) (by omega)).trans hE0
  have hA1 : ad2 (t + 1) = q1 := (g1 (t + 1) (by omega)).trans hA1
  have hB1 : zblk D cy b0 ad2 E2 (t + 1) (t + 3) := hBn
  have hP : va_P D vwCl (zN ad2 (t + 3) E2) H := hP
  have hD : va_D (zB b0) (zN ad2 (t + 3) E2) := hD
  refine W.widen (k := 2) (n := 16) (Nat.le_of_ble_eq_true rfl) (Nat.le_of_ble_eq_true rfl) ?_
  refine y_putF (j := 0) (fs2 := [.ref q1, .int 0]) (ty0 := tyX0) (ty := .object "LeaseOffice$Table") hmn hx hb hts hi0 hown hK hP hD hS (by omega : t < t + 3) hA0 hE0 rfl tyX0_ok nmX0 (by decide) (hts (.fieldLink RX0 14 "LeaseOffice$Blame" "blamed" "LLeaseOffice$Table;") (by decide +kernel)) rfl rfl (by decide +kernel) rfl rfl (Nat.le_of_ble_eq_true rfl) rfl dX0_init_15 (fun E3 H locs g3 g4 hP hD hS => ?_)
  have hEo : ∀ i, i < t → E3 i = E i := fun i hi => (g3 i (by omega)).trans (hEo i hi)
  have hB1 : zblk D cy b0 ad2 E3 (t + 1) (t + 3) := zblk_keep (N := t + 3) hB1 (by omega) (fun i h1 h2 => by have hh := cl_0 hk (i - (t + 1)) (by omega); rw [show t + 1 + (i - (t + 1)) = i by omega] at hh; omega) (fun j hj => rfl) (fun i h1 h2 => g3 i (by omega))
  have hE0 : E3 (t) = .inr (0, [.ref q1, .int 0]) := g4
  have hB0 : zblk D cy b0 ad2 E3 t (t + 1) := by
    refine zblk_one ?_
    rw [hE0, wE_o hk (by decide)]
    simp only [wO, wI0_o hk (by decide), hA1]
  exact y_vret ⟨hAd, hEo, zblk_app hB0 hB1⟩ hx hb hr hlocks hb0 hK hX hP hD hS dX0_init_18
set_option maxRecDepth 100000 in
set_option maxHeartbeats 8000000 in
theorem c_X1_init (l : Launch) (D : va_G) (cy : Nat → ClassId) (b0 : Nat) (ad : Nat → Nat) (E : Nat → va_E) (t a : Nat) (hk : wK t = 1) (hA0 : ad t = a) (hE0 : E t = .inr (1, [.int 0, .int 0, .null])) : Met l yX1_init wsX1_init (zrn 2 2 64 43) (va_Pc [.ref a] (zNS D cy b0 ad (t + 1) E)) (zQn D cy b0 (t + 3) (fun u => (∀ i, i < t + 1 → u.1 i = ad i) ∧ (∀ i, i < t → u.2 i = E i) ∧ zblk D cy b0 u.1 u.2 t (t + 3))) 2 64 (zB b0) := by
  refine zMetN (cc := cX1_init) (nL := 1) (ret := none) (by decide) rfl (Nat.le_of_ble_eq_true rfl) ?_
  intro p e s m args below meth c H locs ls F hmn hK hX hb0 hP hD hS hl
  have hmn : meth.name = "<init>" := hmn.symm
  obtain ⟨hx, hb, hr, hml, hts, hown, hlocks⟩ := F
  have hown : s.vm.findClass RX1 = some m.cls := hown
  have hl : lv_has ls 1 [(0, .ref a)] := hl
  have hi1 : ∀ w ∈ wsX10, w ∈ wsX1_init := fun _ h => List.mem_cons_of_mem _ (List.mem_append_left _ (List.mem_append_right _ h))
  have hi4 : ∀ w ∈ wsX40, w ∈ wsX1_init := fun _ h => List.mem_cons_of_mem _ (List.mem_append_right _ h)
  have hAd : ∀ i, i < t + 1 → ad i = ad i := fun _ _ => rfl
  have hEo : ∀ i, i < t → E i = E i := fun _ _ => rfl
  have ht : t + 3 ≤ 359 := wl_1 hk
  refine lv_aload_n hx hb dX1_init_0 rfl (lv_at hl 0 rfl) ?_
  refine W.objInit hx hb hown (hts (.methodLink RX1 3 objectInit) (by decide +kernel)) (hts (.instanceMethod objectInit) (by decide +kernel)) (hts (.code objectInit ⟨#[0xb1]⟩ 1 none) (by decide +kernel)) rfl (by rw [hml]; exact hl.1) rfl dX1_init_1 (Nat.le_of_ble_eq_true rfl) (Nat.le_of_ble_eq_true rfl) ?_
  refine W.eq (g2 := F0 m 4 ls []) rfl ?_
  refine lv_aload_n hx hb dX1_init_4 rfl (lv_at hl 0 rfl) ?_
  refine lv_iconst (v := 0) hx hb dX1_init_5 (by decide) ?_
  refine y_put (j := 0) (fs2 := [.int 0, .int 0, .null]) (ty0 := tyX1) (ty := .int) hx hb hts hi1 hown hK hP hD hS (by omega : t < t + 1) hA0 hE0 rfl tyX1_ok nmX1 (by decide) (hts (.fieldLink RX1 9 "LeaseOffice$Holder" "sort" "I") (by decide +kernel)) rfl (by decide +kernel) rfl rfl (Nat.le_of_ble_eq_true rfl) rfl dX1_init_6 (fun E1 H locs g3 g4 hP hD hS => ?_)
  have hEo : ∀ i, i < t → E1 i = E i := fun i hi => (g3 i (by omega)).trans (hEo i hi)
  have hE0 : E1 (t) = .inr (1, [.int 0, .int 0, .null]) := g4
  refine lv_aload_n hx hb dX1_init_9 rfl (lv_at hl 0 rfl) ?_
  refine y_new (ci := 4) (fs := [.int 0, .int 0, .null, .int 0]) hx hb hts hi4 tyX4 tyX4_ok hown (hts (.classLink RX1 15 RX4) (by decide +kernel)) (hts (.instantiable RX4 4) (by decide +kernel)) (hts (.initialized RX4) (by decide +kernel)) hK hP hD hS hb0 rfl (fun j hj => by rcases (show j = 0 ∨ j = 1 ∨ j = 2 ∨ j = 3 by omega) with rfl | rfl | rfl | rfl <;> rfl) (Nat.le_of_ble_eq_true rfl) (Nat.le_of_ble_eq_true rfl) dX1_init_10 (fun q2 ad2 E2 H g1 g2 g3 g4 hP hD hS => ?_)
  have hAd : ∀ i, i < t + 1 → ad2 i = ad i := fun i hi => (g1 i (by omega)).trans (hAd i hi)
  have hEo : ∀ i, i < t → E2 i = E i := fun i hi => (g3 i (by omega)).trans (hEo i hi)
  have hA0 : ad2 (t) = a := (g1 (t) (by omega)).trans hA0
  have hE0 : E2 (t) = .inr (1, [.int 0, .int 0, .null]) := (g3 (t) (by omega)).trans hE0
  have hA1 : ad2 (t + 1) = q2 := g2
  have hE1 : E2 (t + 1) = .inr (4, [.int 0, .int 0, .null, .int 0]) := g4
  have hP : va_P D vwCl (zN ad2 (t + 2) E2) H := hP
  have hD : va_D (zB b0) (zN ad2 (t + 2) E2) := hD
  refine W.widen (k := 1) (n := 4) (Nat.le_of_ble_eq_true rfl) (Nat.le_of_ble_eq_true rfl) ?_
  refine lv_dup hx hb dX1_init_13 rfl ?_
  refine lv_bipush (v := 60) hx hb dX1_init_14 (by decide) ?_
  refine lv_iconst (v := 1) hx hb dX1_init_16 (by decide) ?_
  refine y_callv (y_runI (As := [.int 60, .int 1]) (rest := [.ref q2, .ref a]) ⟨hx, hb, hml, hown, hts⟩ (c_X4_init l D cy b0 ad2 E2 (t + 1) q2 60 1 60 (wf_1 hk).1 hA1 hE1 (wf_1 hk).2.1 (wf_1 hk).2.2.1 (wf_1 hk).2.2.2.1 (wf_1 hk).2.2.2.2 (by decide) (by decide) (by decide)) (cwI 2 hts gX1_init_X4_init rfl rfl rfl (hts (.initialized RX4) (by decide +kernel)) (hts (.methodLink RX1 17 yX4_init) (by decide +kernel)) (hts (.instanceMethod yX4_init) (by decide +kernel)) rfl (by decide +kernel) ⟨Nat.le_of_ble_eq_true rfl, Nat.le_of_ble_eq_true rfl⟩) hb0 hS hK hX hP hD rfl hl.1 rfl (Nat.le_of_ble_eq_true rfl) dX1_init_17 ⟨Nat.le_of_ble_eq_true rfl, Nat.le_of_ble_eq_true rfl⟩) hS (fun ad3 E3 H locs hpo hP hD hS => ?_)
  obtain ⟨g1, g3, hBn⟩ := hpo
  have g1 : ∀ i, i < t + 2 → ad3 i = ad2 i := g1
  have g3 : ∀ i, i < t + 1 → E3 i = E2 i := g3
  have hAd : ∀ i, i < t + 1 → ad3 i = ad i := fun i hi => (g1 i (by omega)).trans (hAd i hi)
  have hEo : ∀ i, i < t → E3 i = E i := fun i hi => (g3 i (by omega)).trans (hEo i hi)
  have hA0 : ad3 (t) = a := (g1 (t) (by omega)).trans hA0
  have hE0 : E3 (t) = .inr (1, [.int 0, .int 0, .null]) := (g3 (t) (by omega)).trans hE0
  have hA1 : ad3 (t + 1) = q2 := (g1 (t + 1) (by omega)).trans hA1
  have hB1 : zblk D cy b0 ad3 E3 (t + 1) (t + 3) := hBn
  have hP : va_P D vwCl (zN ad3 (t + 3) E3) H := hP
  have hD : va_D (zB b0) (zN ad3 (t + 3) E3) := hD
  refine W.widen (k := 2) (n := 64) (Nat.le_of_ble_eq_true rfl) (Nat.le_of_ble_eq_true rfl) ?_
  refine y_putF (j := 2) (fs2 := [.int 0, .int 0, .ref q2]) (ty0 := tyX1) (ty := .object "LeaseOffice$Table") hmn hx hb hts hi1 hown hK hP hD hS (by omega : t < t + 3) hA0 hE0 rfl tyX1_ok nmX1 (by decide) (hts (.fieldLink RX1 20 "LeaseOffice$Holder" "items" "LLeaseOffice$Table;") (by decide +kernel)) rfl rfl (by decide +kernel) rfl rfl (Nat.le_of_ble_eq_true rfl) rfl dX1_init_20 (fun E4 H locs g3 g4 hP hD hS => ?_)
  have hEo : ∀ i, i < t → E4 i = E i := fun i hi => (g3 i (by omega)).trans (hEo i hi)
  have hB1 : zblk D cy b0 ad3 E4 (t + 1) (t + 3) := zblk_keep (N := t + 3) hB1 (by omega) (fun i h1 h2 => by have hh := cl_1 hk (i - (t + 1)) (by omega); rw [show t + 1 + (i - (t + 1)) = i by omega] at hh; omega) (fun j hj => rfl) (fun i h1 h2 => g3 i (by omega))
  have hE0 : E4 (t) = .inr (1, [.int 0, .int 0, .ref q2]) := g4
  have hB0 : zblk D cy b0 ad3 E4 t (t + 1) := by
    refine zblk_one ?_
    rw [hE0, wE_o hk (by decide)]
    simp only [wO, wI0_o hk (by decide), hA1]
  exact y_vret ⟨hAd, hEo, zblk_app hB0 hB1⟩ hx hb hr hlocks hb0 hK hX hP hD hS dX1_init_23
set_option maxRecDepth 100000 in
set_option maxHeartbeats 8000000 in
theorem c_X7_init (l : Launch) (D : va_G) (cy : Nat → ClassId) (b0 : Nat) (ad : Nat → Nat) (E : Nat → va_E) (t a : Nat) (hk : wK t = 7) (hA0 : ad t = a) (hE0 : E t = .inr (7, [.int 0, .int 0, .int 0, .int 0, .int 0, .int 0, .int 0, .null, .null, .null])) : Met l yX7_init wsX7_init (zrn 2 6 92 43) (va_Pc [.ref a] (zNS D cy b0 ad (t + 1) E)) (zQn D cy b0 (t + 7) (fun u => (∀ i, i < t + 1 → u.1 i = ad i) ∧ (∀ i, i < t → u.2 i = E i) ∧ zblk D cy b0 u.1 u.2 t (t + 7))) 6 92 (zB b0) := by
  refine zMetN (cc := cX7_init) (nL := 1) (ret := none) (by decide) rfl (Nat.le_of_ble_eq_true rfl) ?_
  intro p e s m args below meth c H locs ls F hmn hK hX hb0 hP hD hS hl
  have hmn : meth.name = "<init>" := hmn.symm
  obtain ⟨hx, hb, hr, hml, hts, hown, hlocks⟩ := F
  have hown : s.vm.findClass RX7 = some m.cls := hown
  have hl : lv_has ls 1 [(0, .ref a)] := hl
  have hi4 : ∀ w ∈ wsX40, w ∈ wsX7_init := fun _ h => List.mem_cons_of_mem _ (List.mem_append_left _ (List.mem_append_right _ h))
  have hi7 : ∀ w ∈ wsX70, w ∈ wsX7_init := fun _ h => List.mem_cons_of_mem _ (List.mem_append_right _ h)
  have hAd : ∀ i, i < t + 1 → ad i = ad i := fun _ _ => rfl
  have hEo : ∀ i, i < t → E i = E i := fun _ _ => rfl
  have ht : t + 7 ≤ 359 := wl_7 hk
  refine lv_aload_n hx hb dX7_init_0 rfl (lv_at hl 0 rfl) ?_
  refine W.objInit hx hb hown (hts (.methodLink RX7 3 objectInit) (by decide +kernel)) (hts (.instanceMethod objectInit) (by decide +kernel)) (hts (.code objectInit ⟨#[0xb1]⟩ 1 none) (by decide +kernel)) rfl (by rw [hml]; exact hl.1) rfl dX7_init_1 (Nat.le_of_ble_eq_true rfl) (Nat.le_of_ble_eq_true rfl) ?_
  refine W.eq (g2 := F0 m 4 ls []) rfl ?_
  refine lv_aload_n hx hb dX7_init_4 rfl (lv_at hl 0 rfl) ?_
  refine y_new (ci := 4) (fs := [.int 0, .int 0, .null, .int 0]) hx hb hts hi4 tyX4 tyX4_ok hown (hts (.classLink RX7 9 RX4) (by decide +kernel)) (hts (.instantiable RX4 4) (by decide +kernel)) (hts (.initialized RX4) (by decide +kernel)) hK hP hD hS hb0 rfl (fun j hj => by rcases (show j = 0 ∨ j = 1 ∨ j = 2 ∨ j = 3 by omega) with rfl | rfl | rfl | rfl <;> rfl) (Nat.le_of_ble_eq_true rfl) (Nat.le_of_ble_eq_true rfl) dX7_init_5 (fun q1 ad1 E1 H g1 g2 g3 g4 hP hD hS => ?_)
  have hAd : ∀ i, i < t + 1 → ad1 i = ad i := fun i hi => (g1 i (by omega)).trans (hAd i hi)
  have hEo : ∀ i, i < t → E1 i = E i := fun i hi => (g3 i (by omega)).trans (hEo i hi)
  have hA0 : ad1 (t) = a := (g1 (t) (by omega)).trans hA0
  have hE0 : E1 (t) = .inr (7, [.int 0, .int 0, .int 0, .int 0, .int 0, .int 0, .int 0, .null, .null, .null]) := (g3 (t) (by omega)).trans hE0
  have hA1 : ad1 (t + 1) = q1 := g2
  have hE1 : E1 (t + 1) = .inr (4, [.int 0, .int 0, .null, .int 0]) := g4
  have hP : va_P D vwCl (zN ad1 (t + 2) E1) H := hP
  have hD : va_D (zB b0) (zN ad1 (t + 2) E1) := hD
  refine W.widen (k := 1) (n := 4) (Nat.le_of_ble_eq_true rfl) (Nat.le_of_ble_eq_true rfl) ?_
  refine lv_dup hx hb dX7_init_8 rfl ?_
  refine lv_bipush (v := 8) hx hb dX7_init_9 (by decide) ?_
  refine lv_iconst (v := 3) hx hb dX7_init_11 (by decide) ?_
  refine y_callv (y_runI (As := [.int 8, .int 3]) (rest := [.ref q1, .ref a]) ⟨hx, hb, hml, hown, hts⟩ (c_X4_init l D cy b0 ad1 E1 (t + 1) q1 8 3 24 (wf_7a hk).1 hA1 hE1 (wf_7a hk).2.1 (wf_7a hk).2.2.1 (wf_7a hk).2.2.2.1 (wf_7a hk).2.2.2.2 (by decide) (by decide) (by decide)) (cwI 2 hts gX7_init_X4_init rfl rfl rfl (hts (.initialized RX4) (by decide +kernel)) (hts (.methodLink RX7 11 yX4_init) (by decide +kernel)) (hts (.instanceMethod yX4_init) (by decide +kernel)) rfl (by decide +kernel) ⟨Nat.le_of_ble_eq_true rfl, Nat.le_of_ble_eq_true rfl⟩) hb0 hS hK hX hP hD rfl hl.1 rfl (Nat.le_of_ble_eq_true rfl) dX7_init_12 ⟨Nat.le_of_ble_eq_true rfl, Nat.le_of_ble_eq_true rfl⟩) hS (fun ad2 E2 H locs hpo hP hD hS => ?_)
  obtain ⟨g1, g3, hBn⟩ := hpo
  have g1 : ∀ i, i < t + 2 → ad2 i = ad1 i := g1
  have g3 : ∀ i, i < t + 1 → E2 i = E1 i := g3
  have hAd : ∀ i, i < t + 1 → ad2 i = ad i := fun i hi => (g1 i (by omega)).trans (hAd i hi)
  have hEo : ∀ i, i < t → E2 i = E i := fun i hi => (g3 i (by omega)).trans (hEo i hi)
  have hA0 : ad2 (t) = a := (g1 (t) (by omega)).trans hA0
  have hE0 : E2 (t) = .inr (7, [.int 0, .int 0, .int 0, .int 0, .int 0, .int 0, .int 0, .null, .null, .null]) := (g3 (t) (by omega)).trans hE0
  have hA1 : ad2 (t + 1) = q1 := (g1 (t + 1) (by omega)).trans hA1
  have hB1 : zblk D cy b0 ad2 E2 (t + 1) (t + 3) := hBn
  have hP : va_P D vwCl (zN ad2 (t + 3) E2) H := hP
  have hD : va_D (zB b0) (zN ad2 (t + 3) E2) := hD
  refine W.widen (k := 2) (n := 28) (Nat.le_of_ble_eq_true rfl) (Nat.le_of_ble_eq_true rfl) ?_
  refine y_putF (j := 7) (fs2 := [.int 0, .int 0, .int 0, .int 0, .int 0, .int 0, .int 0, .ref q1, .null, .null]) (ty0 := tyX7) (ty := .object "LeaseOffice$Table") hmn hx hb hts hi7 hown hK hP hD hS (by omega : t < t + 3) hA0 hE0 rfl tyX7_ok nmX7 (by decide) (hts (.fieldLink RX7 14 "LeaseOffice$Tool" "links" "LLeaseOffice$Table;") (by decide +kernel)) rfl rfl (by decide +kernel) rfl rfl (Nat.le_of_ble_eq_true rfl) rfl dX7_init_15 (fun E3 H locs g3 g4 hP hD hS => ?_)
  have hEo : ∀ i, i < t → E3 i = E i := fun i hi => (g3 i (by omega)).trans (hEo i hi)
  have hB1 : zblk D cy b0 ad2 E3 (t + 1) (t + 3) := zblk_keep (N := t + 3) hB1 (by omega) (fun i h1 h2 => by have hh := cl_7a hk (i - (t + 1)) (by omega); rw [show t + 1 + (i - (t + 1)) = i by omega] at hh; omega) (fun j hj => rfl) (fun i h1 h2 => g3 i (by omega))
  have hE0 : E3 (t) = .inr (7, [.int 0, .int 0, .int 0, .int 0, .int 0, .int 0, .int 0, .ref q1, .null, .null]) := g4
  refine lv_aload_n hx hb dX7_init_18 rfl (lv_at hl 0 rfl) ?_
  refine y_new (ci := 4) (fs := [.int 0, .int 0, .null, .int 0]) hx hb hts hi4 tyX4 tyX4_ok hown (hts (.classLink RX7 9 RX4) (by decide +kernel)) (hts (.instantiable RX4 4) (by decide +kernel)) (hts (.initialized RX4) (by decide +kernel)) hK hP hD hS hb0 rfl (fun j hj => by rcases (show j = 0 ∨ j = 1 ∨ j = 2 ∨ j = 3 by omega) with rfl | rfl | rfl | rfl <;> rfl) (Nat.le_of_ble_eq_true rfl) (Nat.le_of_ble_eq_true rfl) dX7_init_19 (fun q4 ad4 E4 H g1 g2 g3 g4 hP hD hS => ?_)
  have hAd : ∀ i, i < t + 1 → ad4 i = ad i := fun i hi => (g1 i (by omega)).trans (hAd i hi)
  have hEo : ∀ i, i < t → E4 i = E i := fun i hi => (g3 i (by omega)).trans (hEo i hi)
  have hA0 : ad4 (t) = a := (g1 (t) (by omega)).trans hA0
  have hE0 : E4 (t) = .inr (7, [.int 0, .int 0, .int 0, .int 0, .int 0, .int 0, .int 0, .ref q1, .null, .null]) := (g3 (t) (by omega)).trans hE0
  have hA1 : ad4 (t + 1) = q1 := (g1 (t + 1) (by omega)).trans hA1
  have hB1 : zblk D cy b0 ad4 E4 (t + 1) (t + 3) := zblk_keep (N := t + 3) hB1 (by omega) (fun i h1 h2 => by have hh := cl_7a hk (i - (t + 1)) (by omega); rw [show t + 1 + (i - (t + 1)) = i by omega] at hh; omega) (fun j hj => g1 j (by omega)) (fun i h1 h2 => g3 i (by omega))
  have hA3 : ad4 (t + 3) = q4 := g2
  have hE3 : E4 (t + 3) = .inr (4, [.int 0, .int 0, .null, .int 0]) := g4
  have hP : va_P D vwCl (zN ad4 (t + 4) E4) H := hP
  have hD : va_D (zB b0) (zN ad4 (t + 4) E4) := hD
  refine W.widen (k := 3) (n := 32) (Nat.le_of_ble_eq_true rfl) (Nat.le_of_ble_eq_true rfl) ?_
  refine lv_dup hx hb dX7_init_22 rfl ?_
  refine lv_bipush (v := 6) hx hb dX7_init_23 (by decide) ?_
  refine lv_iconst (v := 4) hx hb dX7_init_25 (by decide) ?_
  refine y_callv (y_runI (As := [.int 6, .int 4]) (rest := [.ref q4, .ref a]) ⟨hx, hb, hml, hown, hts⟩ (c_X4_init l D cy b0 ad4 E4 (t + 3) q4 6 4 24 (wf_7b hk).1 hA3 hE3 (wf_7b hk).2.1 (wf_7b hk).2.2.1 (wf_7b hk).2.2.2.1 (wf_7b hk).2.2.2.2 (by decide) (by decide) (by decide)) (cwI 2 hts gX7_init_X4_init rfl rfl rfl (hts (.initialized RX4) (by decide +kernel)) (hts (.methodLink RX7 11 yX4_init) (by decide +kernel)) (hts (.instanceMethod yX4_init) (by decide +kernel)) rfl (by decide +kernel) ⟨Nat.le_of_ble_eq_true rfl, Nat.le_of_ble_eq_true rfl⟩) hb0 hS hK hX hP hD rfl hl.1 rfl (Nat.le_of_ble_eq_true rfl) dX7_init_26 ⟨Nat.le_of_ble_eq_true rfl, Nat.le_of_ble_eq_true rfl⟩) hS (fun ad5 E5 H locs hpo hP hD hS => ?_)
  obtain ⟨g1, g3, hBn⟩ := hpo
  have g1 : ∀ i, i < t + 4 → ad5 i = ad4 i := g1
  have g3 : ∀ i, i < t + 3 → E5 i = E4 i := g3
  have hAd : ∀ i, i < t + 1 → ad5 i = ad i := fun i hi => (g1 i (by omega)).trans (hAd i hi)
  have hEo : ∀ i, i < t → E5 i = E i := fun i hi => (g3 i (by omega)).trans (hEo i hi)
  have hA0 : ad5 (t) = a := (g1 (t) (by omega)).trans hA0
  have hE0 : E5 (t) = .inr (7, [.int 0, .int 0, .int 0, .int 0, .int 0, .int 0, .int 0, .ref q1, .null, .null]) := (g3 (t) (by omega)).trans hE0
  have hA1 : ad5 (t + 1) = q1 := (g1 (t + 1) (by omega)).trans hA1
  have hB1 : zblk D cy b0 ad5 E5 (t + 1) (t + 3) := zblk_keep (N := t + 3) hB1 (by omega) (fun i h1 h2 => by have hh := cl_7a hk (i - (t + 1)) (by omega); rw [show t + 1 + (i - (t + 1)) = i by omega] at hh; omega) (fun j hj => g1 j (by omega)) (fun i h1 h2 => g3 i (by omega))
  have hA3 : ad5 (t + 3) = q4 := (g1 (t + 3) (by omega)).trans hA3
  have hB3 : zblk D cy b0 ad5 E5 (t + 3) (t + 5) := hBn
  have hP : va_P D vwCl (zN ad5 (t + 5) E5) H := hP
  have hD : va_D (zB b0) (zN ad5 (t + 5) E5) := hD
  refine W.widen (k := 4) (n := 56) (Nat.le_of_ble_eq_true rfl) (Nat.le_of_ble_eq_true rfl) ?_
  refine y_putF (j := 8) (fs2 := [.int 0, .int 0, .int 0, .int 0, .int 0, .int 0, .int 0, .ref q1, .ref q4, .null]) (ty0 := tyX7) (ty := .object "LeaseOffice$Table") hmn hx hb hts hi7 hown hK hP hD hS (by omega : t < t + 5) hA0 hE0 rfl tyX7_ok nmX7 (by decide) (hts (.fieldLink RX7 20 "LeaseOffice$Tool" "looks" "LLeaseOffice$Table;") (by decide +kernel)) rfl rfl (by decide +kernel) rfl rfl (Nat.le_of_ble_eq_true rfl) rfl dX7_init_29 (fun E6 H locs g3 g4 hP hD hS => ?_)
  have hEo : ∀ i, i < t → E6 i = E i := fun i hi => (g3 i (by omega)).trans (hEo i hi)
  have hB1 : zblk D cy b0 ad5 E6 (t + 1) (t + 3) := zblk_keep (N := t + 5) hB1 (by omega) (fun i h1 h2 => by have hh := cl_7a hk (i - (t + 1)) (by omega); rw [show t + 1 + (i - (t + 1)) = i by omega] at hh; omega) (fun j hj => rfl) (fun i h1 h2 => g3 i (by omega))
  have hB3 : zblk D cy b0 ad5 E6 (t + 3) (t + 5) := zblk_keep (N := t + 5) hB3 (by omega) (fun i h1 h2 => by have hh := cl_7b hk (i - (t + 3)) (by omega); rw [show t + 3 + (i - (t + 3)) = i by omega] at hh; omega) (fun j hj => rfl) (fun i h1 h2 => g3 i (by omega))
  have hE0 : E6 (t) = .inr (7, [.int 0, .int 0, .int 0, .int 0, .int 0, .int 0, .int 0, .ref q1, .ref q4, .null]) := g4
  refine lv_aload_n hx hb dX7_init_32 rfl (lv_at hl 0 rfl) ?_
  refine y_new (ci := 4) (fs := [.int 0, .int 0, .null, .int 0]) hx hb hts hi4 tyX4 tyX4_ok hown (hts (.classLink RX7 9 RX4) (by decide +kernel)) (hts (.instantiable RX4 4) (by decide +kernel)) (hts (.initialized RX4) (by decide +kernel)) hK hP hD hS hb0 rfl (fun j hj => by rcases (show j = 0 ∨ j = 1 ∨ j = 2 ∨ j = 3 by omega) with rfl | rfl | rfl | rfl <;> rfl) (Nat.le_of_ble_eq_true rfl) (Nat.le_of_ble_eq_true rfl) dX7_init_33 (fun q7 ad7 E7 H g1 g2 g3 g4 hP hD hS => ?_)
  have hAd : ∀ i, i < t + 1 → ad7 i = ad i := fun i hi => (g1 i (by omega)).trans (hAd i hi)
  have hEo : ∀ i, i < t → E7 i = E i := fun i hi => (g3 i (by omega)).trans (hEo i hi)
  have hA0 : ad7 (t) = a := (g1 (t) (by omega)).trans hA0
  have hE0 : E7 (t) = .inr (7, [.int 0, .int 0, .int 0, .int 0, .int 0, .int 0, .int 0, .ref q1, .ref q4, .null]) := (g3 (t) (by omega)).trans hE0
  have hA1 : ad7 (t + 1) = q1 := (g1 (t + 1) (by omega)).trans hA1
  have hA3 : ad7 (t + 3) = q4 := (g1 (t + 3) (by omega)).trans hA3
  have hB1 : zblk D cy b0 ad7 E7 (t + 1) (t + 3) := zblk_keep (N := t + 5) hB1 (by omega) (fun i h1 h2 => by have hh := cl_7a hk (i - (t + 1)) (by omega); rw [show t + 1 + (i - (t + 1)) = i by omega] at hh; omega) (fun j hj => g1 j (by omega)) (fun i h1 h2 => g3 i (by omega))
  have hB3 : zblk D cy b0 ad7 E7 (t + 3) (t + 5) := zblk_keep (N := t + 5) hB3 (by omega) (fun i h1 h2 => by have hh := cl_7b hk (i - (t + 3)) (by omega); rw [show t + 3 + (i - (t + 3)) = i by omega] at hh; omega) (fun j hj => g1 j (by omega)) (fun i h1 h2 => g3 i (by omega))
  have hA5 : ad7 (t + 5) = q7 := g2
  have hE5 : E7 (t + 5) = .inr (4, [.int 0, .int 0, .null, .int 0]) := g4
  have hP : va_P D vwCl (zN ad7 (t + 6) E7) H := hP
  have hD : va_D (zB b0) (zN ad7 (t + 6) E7) := hD
  refine W.widen (k := 5) (n := 60) (Nat.le_of_ble_eq_true rfl) (Nat.le_of_ble_eq_true rfl) ?_
  refine lv_dup hx hb dX7_init_36 rfl ?_
  refine lv_bipush (v := 8) hx hb dX7_init_37 (by decide) ?_
  refine lv_iconst (v := 4) hx hb dX7_init_39 (by decide) ?_
  refine y_callv (y_runI (As := [.int 8, .int 4]) (rest := [.ref q7, .ref a]) ⟨hx, hb, hml, hown, hts⟩ (c_X4_init l D cy b0 ad7 E7 (t + 5) q7 8 4 32 (wf_7c hk).1 hA5 hE5 (wf_7c hk).2.1 (wf_7c hk).2.2.1 (wf_7c hk).2.2.2.1 (wf_7c hk).2.2.2.2 (by decide) (by decide) (by decide)) (cwI 2 hts gX7_init_X4_init rfl rfl rfl (hts (.initialized RX4) (by decide +kernel)) (hts (.methodLink RX7 11 yX4_init) (by decide +kernel)) (hts (.instanceMethod yX4_init) (by decide +kernel)) rfl (by decide +kernel) ⟨Nat.le_of_ble_eq_true rfl, Nat.le_of_ble_eq_true rfl⟩) hb0 hS hK hX hP hD rfl hl.1 rfl (Nat.le_of_ble_eq_true rfl) dX7_init_40 ⟨Nat.le_of_ble_eq_true rfl, Nat.le_of_ble_eq_true rfl⟩) hS (fun ad8 E8 H locs hpo hP hD hS => ?_)
  obtain ⟨g1, g3, hBn⟩ := hpo
  have g1 : ∀ i, i < t + 6 → ad8 i = ad7 i := g1
  have g3 : ∀ i, i < t + 5 → E8 i = E7 i := g3
  have hAd : ∀ i, i < t + 1 → ad8 i = ad i := fun i hi => (g1 i (by omega)).trans (hAd i hi)
  have hEo : ∀ i, i < t → E8 i = E i := fun i hi => (g3 i (by omega)).trans (hEo i hi)
  have hA0 : ad8 (t) = a := (g1 (t) (by omega)).trans hA0
  have hE0 : E8 (t) = .inr (7, [.int 0, .int 0, .int 0, .int 0, .int 0, .int 0, .int 0, .ref q1, .ref q4, .null]) := (g3 (t) (by omega)).trans hE0
  have hA1 : ad8 (t + 1) = q1 := (g1 (t + 1) (by omega)).trans hA1
  have hA3 : ad8 (t + 3) = q4 := (g1 (t + 3) (by omega)).trans hA3
  have hB1 : zblk D cy b0 ad8 E8 (t + 1) (t + 3) := zblk_keep (N := t + 5) hB1 (by omega) (fun i h1 h2 => by have hh := cl_7a hk (i - (t + 1)) (by omega); rw [show t + 1 + (i - (t + 1)) = i by omega] at hh; omega) (fun j hj => g1 j (by omega)) (fun i h1 h2 => g3 i (by omega))
  have hB3 : zblk D cy b0 ad8 E8 (t + 3) (t + 5) := zblk_keep (N := t + 5) hB3 (by omega) (fun i h1 h2 => by have hh := cl_7b hk (i - (t + 3)) (by omega); rw [show t + 3 + (i - (t + 3)) = i by omega] at hh; omega) (fun j hj => g1 j (by omega)) (fun i h1 h2 => g3 i (by omega))
  have hA5 : ad8 (t + 5) = q7 := (g1 (t + 5) (by omega)).trans hA5
  have hB5 : zblk D cy b0 ad8 E8 (t + 5) (t + 7) := hBn
  have hP : va_P D vwCl (zN ad8 (t + 7) E8) H := hP
  have hD : va_D (zB b0) (zN ad8 (t + 7) E8) := hD
  refine W.widen (k := 6) (n := 92) (Nat.le_of_ble_eq_true rfl) (Nat.le_of_ble_eq_true rfl) ?_
  refine y_putF (j := 9) (fs2 := [.int 0, .int 0, .int 0, .int 0, .int 0, .int 0, .int 0, .ref q1, .ref q4, .ref q7]) (ty0 := tyX7) (ty := .object "LeaseOffice$Table") hmn hx hb hts hi7 hown hK hP hD hS (by omega : t < t + 7) hA0 hE0 rfl tyX7_ok nmX7 (by decide) (hts (.fieldLink RX7 23 "LeaseOffice$Tool" "claims" "LLeaseOffice$Table;") (by decide +kernel)) rfl rfl (by decide +kernel) rfl rfl (Nat.le_of_ble_eq_true rfl) rfl dX7_init_43 (fun E9 H locs g3 g4 hP hD hS => ?_)
  have hEo : ∀ i, i < t → E9 i = E i := fun i hi => (g3 i (by omega)).trans (hEo i hi)
  have hB1 : zblk D cy b0 ad8 E9 (t + 1) (t + 3) := zblk_keep (N := t + 7) hB1 (by omega) (fun i h1 h2 => by have hh := cl_7a hk (i - (t + 1)) (by omega); rw [show t + 1 + (i - (t + 1)) = i by omega] at hh; omega) (fun j hj => rfl) (fun i h1 h2 => g3 i (by omega))
  have hB3 : zblk D cy b0 ad8 E9 (t + 3) (t + 5) := zblk_keep (N := t + 7) hB3 (by omega) (fun i h1 h2 => by have hh := cl_7b hk (i - (t + 3)) (by omega); rw [show t + 3 + (i - (t + 3)) = i by omega] at hh; omega) (fun j hj => rfl) (fun i h1 h2 => g3 i (by omega))
  have hB5 : zblk D cy b0 ad8 E9 (t + 5) (t + 7) := zblk_keep (N := t + 7) hB5 (by omega) (fun i h1 h2 => by have hh := cl_7c hk (i - (t + 5)) (by omega); rw [show t + 5 + (i - (t + 5)) = i by omega] at hh; omega) (fun j hj => rfl) (fun i h1 h2 => g3 i (by omega))
  have hE0 : E9 (t) = .inr (7, [.int 0, .int 0, .int 0, .int 0, .int 0, .int 0, .int 0, .ref q1, .ref q4, .ref q7]) := g4
  have hB0 : zblk D cy b0 ad8 E9 t (t + 1) := by
    refine zblk_one ?_
    rw [hE0, wE_o hk (by decide)]
    simp only [wO, wI0_o hk (by decide), hA1, hA3, hA5]
  exact y_vret ⟨hAd, hEo, zblk_app hB0 (zblk_app hB1 (zblk_app hB3 hB5))⟩ hx hb hr hlocks hb0 hK hX hP hD hS dX7_init_46
set_option maxRecDepth 100000 in
set_option maxHeartbeats 8000000 in
theorem c_X5_init (l : Launch) (D : va_G) (cy : Nat → ClassId) (b0 : Nat) (ad : Nat → Nat) (E : Nat → va_E) (t a : Nat) (hk : wK t = 5) (hA0 : ad t = a) (hE0 : E t = .inr (5, [.null, .null, .int 0])) : Met l yX5_init wsX5_init (zrn 2 4 283 43) (va_Pc [.ref a] (zNS D cy b0 ad (t + 1) E)) (zQn D cy b0 (t + 5) (fun u => (∀ i, i < t + 1 → u.1 i = ad i) ∧ (∀ i, i < t → u.2 i = E i) ∧ zblk D cy b0 u.1 u.2 t (t + 5))) 4 283 (zB b0) := by
  refine zMetN (cc := cX5_init) (nL := 1) (ret := none) (by decide) rfl (Nat.le_of_ble_eq_true rfl) ?_
  intro p e s m args below meth c H locs ls F hmn hK hX hb0 hP hD hS hl
  have hmn : meth.name = "<init>" := hmn.symm
  obtain ⟨hx, hb, hr, hml, hts, hown, hlocks⟩ := F
  have hown : s.vm.findClass RX5 = some m.cls := hown
  have hl : lv_has ls 1 [(0, .ref a)] := hl
  have hi4 : ∀ w ∈ wsX40, w ∈ wsX5_init := fun _ h => List.mem_cons_of_mem _ (List.mem_append_left _ (List.mem_append_right _ h))
  have hi5 : ∀ w ∈ wsX50, w ∈ wsX5_init := fun _ h => List.mem_cons_of_mem _ (List.mem_append_right _ h)
  have hAd : ∀ i, i < t + 1 → ad i = ad i := fun _ _ => rfl
  have hEo : ∀ i, i < t → E i = E i := fun _ _ => rfl
  have ht : t + 5 ≤ 359 := wl_5 hk
  refine lv_aload_n hx hb dX5_init_0 rfl (lv_at hl 0 rfl) ?_
  refine W.objInit hx hb hown (hts (.methodLink RX5 3 objectInit) (by decide +kernel)) (hts (.instanceMethod objectInit) (by decide +kernel)) (hts (.code objectInit ⟨#[0xb1]⟩ 1 none) (by decide +kernel)) rfl (by rw [hml]; exact hl.1) rfl dX5_init_1 (Nat.le_of_ble_eq_true rfl) (Nat.le_of_ble_eq_true rfl) ?_
  refine W.eq (g2 := F0 m 4 ls []) rfl ?_
  refine lv_aload_n hx hb dX5_init_4 rfl (lv_at hl 0 rfl) ?_
  refine y_new (ci := 4) (fs := [.int 0, .int 0, .null, .int 0]) hx hb hts hi4 tyX4 tyX4_ok hown (hts (.classLink RX5 9 RX4) (by decide +kernel)) (hts (.instantiable RX4 4) (by decide +kernel)) (hts (.initialized RX4) (by decide +kernel)) hK hP hD hS hb0 rfl (fun j hj => by rcases (show j = 0 ∨ j = 1 ∨ j = 2 ∨ j = 3 by omega) with rfl | rfl | rfl | rfl <;> rfl) (Nat.le_of_ble_eq_true rfl) (Nat.le_of_ble_eq_true rfl) dX5_init_5 (fun q1 ad1 E1 H g1 g2 g3 g4 hP hD hS => ?_)
  have hAd : ∀ i, i < t + 1 → ad1 i = ad i := fun i hi => (g1 i (by omega)).trans (hAd i hi)
  have hEo : ∀ i, i < t → E1 i = E i := fun i hi => (g3 i (by omega)).trans (hEo i hi)
  have hA0 : ad1 (t) = a := (g1 (t) (by omega)).trans hA0
  have hE0 : E1 (t) = .inr (5, [.null, .null, .int 0]) := (g3 (t) (by omega)).trans hE0
  have hA1 : ad1 (t + 1) = q1 := g2
  have hE1 : E1 (t + 1) = .inr (4, [.int 0, .int 0, .null, .int 0]) := g4
  have hP : va_P D vwCl (zN ad1 (t + 2) E1) H := hP
  have hD : va_D (zB b0) (zN ad1 (t + 2) E1) := hD
  refine W.widen (k := 1) (n := 4) (Nat.le_of_ble_eq_true rfl) (Nat.le_of_ble_eq_true rfl) ?_
  refine lv_dup hx hb dX5_init_8 rfl ?_
  refine lv_bipush (v := 120) hx hb dX5_init_9 (by decide) ?_
  refine lv_iconst (v := 1) hx hb dX5_init_11 (by decide) ?_
  refine y_callv (y_runI (As := [.int 120, .int 1]) (rest := [.ref q1, .ref a]) ⟨hx, hb, hml, hown, hts⟩ (c_X4_init l D cy b0 ad1 E1 (t + 1) q1 120 1 120 (wf_5a hk).1 hA1 hE1 (wf_5a hk).2.1 (wf_5a hk).2.2.1 (wf_5a hk).2.2.2.1 (wf_5a hk).2.2.2.2 (by decide) (by decide) (by decide)) (cwI 2 hts gX5_init_X4_init rfl rfl rfl (hts (.initialized RX4) (by decide +kernel)) (hts (.methodLink RX5 11 yX4_init) (by decide +kernel)) (hts (.instanceMethod yX4_init) (by decide +kernel)) rfl (by decide +kernel) ⟨Nat.le_of_ble_eq_true rfl, Nat.le_of_ble_eq_true rfl⟩) hb0 hS hK hX hP hD rfl hl.1 rfl (Nat.le_of_ble_eq_true rfl) dX5_init_12 ⟨Nat.le_of_ble_eq_true rfl, Nat.le_of_ble_eq_true rfl⟩) hS (fun ad2 E2 H locs hpo hP hD hS => ?_)
  obtain ⟨g1, g3, hBn⟩ := hpo
  have g1 : ∀ i, i < t + 2 → ad2 i = ad1 i := g1
  have g3 : ∀ i, i < t + 1 → E2 i = E1 i := g3
  have hAd : ∀ i, i < t + 1 → ad2 i = ad i := fun i hi => (g1 i (by omega)).trans (hAd i hi)
  have hEo : ∀ i, i < t → E2 i = E i := fun i hi => (g3 i (by omega)).trans (hEo i hi)
  have hA0 : ad2 (t) = a := (g1 (t) (by omega)).trans hA0
  have hE0 : E2 (t) = .inr (5, [.null, .null, .int 0]) := (g3 (t) (by omega)).trans hE0
  have hA1 : ad2 (t + 1) = q1 := (g1 (t + 1) (by omega)).trans hA1
  have hB1 : zblk D cy b0 ad2 E2 (t + 1) (t + 3) := hBn
  have hP : va_P D vwCl (zN ad2 (t + 3) E2) H := hP
  have hD : va_D (zB b0) (zN ad2 (t + 3) E2) := hD
  refine W.widen (k := 2) (n := 124) (Nat.le_of_ble_eq_true rfl) (Nat.le_of_ble_eq_true rfl) ?_
  refine y_putF (j := 0) (fs2 := [.ref q1, .null, .int 0]) (ty0 := tyX5) (ty := .object "LeaseOffice$Table") hmn hx hb hts hi5 hown hK hP hD hS (by omega : t < t + 3) hA0 hE0 rfl tyX5_ok nmX5 (by decide) (hts (.fieldLink RX5 14 "LeaseOffice$TextReader" "tape" "LLeaseOffice$Table;") (by decide +kernel)) rfl rfl (by decide +kernel) rfl rfl (Nat.le_of_ble_eq_true rfl) rfl dX5_init_15 (fun E3 H locs g3 g4 hP hD hS => ?_)
  have hEo : ∀ i, i < t → E3 i = E i := fun i hi => (g3 i (by omega)).trans (hEo i hi)
  have hB1 : zblk D cy b0 ad2 E3 (t + 1) (t + 3) := zblk_keep (N := t + 3) hB1 (by omega) (fun i h1 h2 => by have hh := cl_5a hk (i - (t + 1)) (by omega); rw [show t + 1 + (i - (t + 1)) = i by omega] at hh; omega) (fun j hj => rfl) (fun i h1 h2 => g3 i (by omega))
  have hE0 : E3 (t) = .inr (5, [.ref q1, .null, .int 0]) := g4
  refine lv_aload_n hx hb dX5_init_18 rfl (lv_at hl 0 rfl) ?_
  refine y_new (ci := 4) (fs := [.int 0, .int 0, .null, .int 0]) hx hb hts hi4 tyX4 tyX4_ok hown (hts (.classLink RX5 9 RX4) (by decide +kernel)) (hts (.instantiable RX4 4) (by decide +kernel)) (hts (.initialized RX4) (by decide +kernel)) hK hP hD hS hb0 rfl (fun j hj => by rcases (show j = 0 ∨ j = 1 ∨ j = 2 ∨ j = 3 by omega) with rfl | rfl | rfl | rfl <;> rfl) (Nat.le_of_ble_eq_true rfl) (Nat.le_of_ble_eq_true rfl) dX5_init_19 (fun q4 ad4 E4 H g1 g2 g3 g4 hP hD hS => ?_)
  have hAd : ∀ i, i < t + 1 → ad4 i = ad i := fun i hi => (g1 i (by omega)).trans (hAd i hi)
  have hEo : ∀ i, i < t → E4 i = E i := fun i hi => (g3 i (by omega)).trans (hEo i hi)
  have hA0 : ad4 (t) = a := (g1 (t) (by omega)).trans hA0
  have hE0 : E4 (t) = .inr (5, [.ref q1, .null, .int 0]) := (g3 (t) (by omega)).trans hE0
  have hA1 : ad4 (t + 1) = q1 := (g1 (t + 1) (by omega)).trans hA1
  have hB1 : zblk D cy b0 ad4 E4 (t + 1) (t + 3) := zblk_keep (N := t + 3) hB1 (by omega) (fun i h1 h2 => by have hh := cl_5a hk (i - (t + 1)) (by omega); rw [show t + 1 + (i - (t + 1)) = i by omega] at hh; omega) (fun j hj => g1 j (by omega)) (fun i h1 h2 => g3 i (by omega))
  have hA3 : ad4 (t + 3) = q4 := g2
  have hE3 : E4 (t + 3) = .inr (4, [.int 0, .int 0, .null, .int 0]) := g4
  have hP : va_P D vwCl (zN ad4 (t + 4) E4) H := hP
  have hD : va_D (zB b0) (zN ad4 (t + 4) E4) := hD
  refine W.widen (k := 3) (n := 128) (Nat.le_of_ble_eq_true rfl) (Nat.le_of_ble_eq_true rfl) ?_
  refine lv_dup hx hb dX5_init_22 rfl ?_
  refine lv_bipush (v := 31) hx hb dX5_init_23 (by decide) ?_
  refine lv_iconst (v := 5) hx hb dX5_init_25 (by decide) ?_
  refine y_callv (y_runI (As := [.int 31, .int 5]) (rest := [.ref q4, .ref a]) ⟨hx, hb, hml, hown, hts⟩ (c_X4_init l D cy b0 ad4 E4 (t + 3) q4 31 5 155 (wf_5b hk).1 hA3 hE3 (wf_5b hk).2.1 (wf_5b hk).2.2.1 (wf_5b hk).2.2.2.1 (wf_5b hk).2.2.2.2 (by decide) (by decide) (by decide)) (cwI 2 hts gX5_init_X4_init rfl rfl rfl (hts (.initialized RX4) (by decide +kernel)) (hts (.methodLink RX5 11 yX4_init) (by decide +kernel)) (hts (.instanceMethod yX4_init) (by decide +kernel)) rfl (by decide +kernel) ⟨Nat.le_of_ble_eq_true rfl, Nat.le_of_ble_eq_true rfl⟩) hb0 hS hK hX hP hD rfl hl.1 rfl (Nat.le_of_ble_eq_true rfl) dX5_init_26 ⟨Nat.le_of_ble_eq_true rfl, Nat.le_of_ble_eq_true rfl⟩) hS (fun ad5 E5 H locs hpo hP hD hS => ?_)
  obtain ⟨g1, g3, hBn⟩ := hpo
  have g1 : ∀ i, i < t + 4 → ad5 i = ad4 i := g1
  have g3 : ∀ i, i < t + 3 → E5 i = E4 i := g3
  have hAd : ∀ i, i < t + 1 → ad5 i = ad i := fun i hi => (g1 i (by omega)).trans (hAd i hi)
  have hEo : ∀ i, i < t → E5 i = E i := fun i hi => (g3 i (by omega)).trans (hEo i hi)
  have hA0 : ad5 (t) = a := (g1 (t) (by omega)).trans hA0
  have hE0 : E5 (t) = .inr (5, [.ref q1, .null, .int 0]) := (g3 (t) (by omega)).trans hE0
  have hA1 : ad5 (t + 1) = q1 := (g1 (t + 1) (by omega)).trans hA1
  have hB1 : zblk D cy b0 ad5 E5 (t + 1) (t + 3) := zblk_keep (N := t + 3) hB1 (by omega) (fun i h1 h2 => by have hh := cl_5a hk (i - (t + 1)) (by omega); rw [show t + 1 + (i - (t + 1)) = i by omega] at hh; omega) (fun j hj => g1 j (by omega)) (fun i h1 h2 => g3 i (by omega))
  have hA3 : ad5 (t + 3) = q4 := (g1 (t + 3) (by omega)).trans hA3
  have hB3 : zblk D cy b0 ad5 E5 (t + 3) (t + 5) := hBn
  have hP : va_P D vwCl (zN ad5 (t + 5) E5) H := hP
  have hD : va_D (zB b0) (zN ad5 (t + 5) E5) := hD
  refine W.widen (k := 4) (n := 283) (Nat.le_of_ble_eq_true rfl) (Nat.le_of_ble_eq_true rfl) ?_
  refine y_putF (j := 1) (fs2 := [.ref q1, .ref q4, .int 0]) (ty0 := tyX5) (ty := .object "LeaseOffice$Table") hmn hx hb hts hi5 hown hK hP hD hS (by omega : t < t + 5) hA0 hE0 rfl tyX5_ok nmX5 (by decide) (hts (.fieldLink RX5 20 "LeaseOffice$TextReader" "lines" "LLeaseOffice$Table;") (by decide +kernel)) rfl rfl (by decide +kernel) rfl rfl (Nat.le_of_ble_eq_true rfl) rfl dX5_init_29 (fun E6 H locs g3 g4 hP hD hS => ?_)
  have hEo : ∀ i, i < t → E6 i = E i := fun i hi => (g3 i (by omega)).trans (hEo i hi)
  have hB1 : zblk D cy b0 ad5 E6 (t + 1) (t + 3) := zblk_keep (N := t + 5) hB1 (by omega) (fun i h1 h2 => by have hh := cl_5a hk (i - (t + 1)) (by omega); rw [show t + 1 + (i - (t + 1)) = i by omega] at hh; omega) (fun j hj => rfl) (fun i h1 h2 => g3 i (by omega))
  have hB3 : zblk D cy b0 ad5 E6 (t + 3) (t + 5) := zblk_keep (N := t + 5) hB3 (by omega) (fun i h1 h2 => by have hh := cl_5b hk (i - (t + 3)) (by omega); rw [show t + 3 + (i - (t + 3)) = i by omega] at hh; omega) (fun j hj => rfl) (fun i h1 h2 => g3 i (by omega))
  have hE0 : E6 (t) = .inr (5, [.ref q1, .ref q4, .int 0]) := g4
  have hB0 : zblk D cy b0 ad5 E6 t (t + 1) := by
    refine zblk_one ?_
    rw [hE0, wE_o hk (by decide)]
    simp only [wO, wI0_o hk (by decide), hA1, hA3]
  exact y_vret ⟨hAd, hEo, zblk_app hB0 (zblk_app hB1 hB3)⟩ hx hb hr hlocks hb0 hK hX hP hD hS dX5_init_32
set_option maxRecDepth 100000 in
set_option maxHeartbeats 8000000 in
theorem c_X2_init (l : Launch) (D : va_G) (cy : Nat → ClassId) (b0 : Nat) (ad : Nat → Nat) (E : Nat → va_E) (t a : Nat) (hk : wK t = 2) (hA0 : ad t = a) (hE0 : E t = .inr (2, [.null, .null, .null, .null, .null, .int 0, .int 0, .int 0, .int 0, .int 0, .int 0])) : Met l yX2_init wsX2_init (zrn 3 108 1370 63) (va_Pc [.ref a] (zNS D cy b0 ad (t + 1) E)) (zQn D cy b0 (t + 109) (fun u => (∀ i, i < t + 1 → u.1 i = ad i) ∧ (∀ i, i < t → u.2 i = E i) ∧ zblk D cy b0 u.1 u.2 t (t + 109))) 108 1370 (zB b0) := by
  refine zMetN (cc := cX2_init) (nL := 2) (ret := none) (by decide) rfl (Nat.le_of_ble_eq_true rfl) ?_
  intro p e s m args below meth c H locs ls F hmn hK hX hb0 hP hD hS hl
  have hmn : meth.name = "<init>" := hmn.symm
  obtain ⟨hx, hb, hr, hml, hts, hown, hlocks⟩ := F
  have hown : s.vm.findClass RX2 = some m.cls := hown
  have hl : lv_has ls 2 [(0, .ref a)] := hl
  have hi0 : ∀ w ∈ wsX00, w ∈ wsX2_init := fun _ h => List.mem_cons_of_mem _ (List.mem_append_left _ (List.mem_append_right _ h))
  have hi2 : ∀ w ∈ wsX20, w ∈ wsX2_init := fun _ h => List.mem_cons_of_mem _ (List.mem_append_left _ (List.mem_append_left _ (List.mem_append_left _ (List.mem_append_left _ (List.mem_append_right _ h)))))
  have hi3 : ∀ w ∈ wsX30, w ∈ wsX2_init := fun _ h => List.mem_cons_of_mem _ (List.mem_append_left _ (List.mem_append_left _ (List.mem_append_left _ (List.mem_append_right _ h))))
  have hi7 : ∀ w ∈ wsX70, w ∈ wsX2_init := fun _ h => List.mem_cons_of_mem _ (List.mem_append_left _ (List.mem_append_left _ (List.mem_append_right _ h)))
  have hAd : ∀ i, i < t + 1 → ad i = ad i := fun _ _ => rfl
  have hEo : ∀ i, i < t → E i = E i := fun _ _ => rfl
  have ht : t + 109 ≤ 359 := wl_2 hk
  refine lv_aload_n hx hb dX2_init_0 rfl (lv_at hl 0 rfl) ?_
  refine W.objInit hx hb hown (hts (.methodLink RX2 3 objectInit) (by decide +kernel)) (hts (.instanceMethod objectInit) (by decide +kernel)) (hts (.code objectInit ⟨#[0xb1]⟩ 1 none) (by decide +kernel)) rfl (by rw [hml]; exact hl.1) rfl dX2_init_1 (Nat.le_of_ble_eq_true rfl) (Nat.le_of_ble_eq_true rfl) ?_
  refine W.eq (g2 := F0 m 4 ls []) rfl ?_
  refine lv_aload_n hx hb dX2_init_4 rfl (lv_at hl 0 rfl) ?_
  refine lv_bipush (v := 12) hx hb dX2_init_5 (by decide) ?_
  refine y_newq (L := 12) (t0 := 2) hx hb hown (hts (.classLink RX2 9 RX3) (by decide +kernel)) hX.2.2.2.2.2.2.2.2.1 rfl hK hP hD hS hb0 (by decide) (by decide) (Nat.le_of_ble_eq_true rfl) (Nat.le_of_ble_eq_true rfl) (Nat.le_of_ble_eq_true rfl) dX2_init_7 (fun q1 ad1 E1 H g1 g2 g3 g4 hP hD hS => ?_)
  have hAd : ∀ i, i < t + 1 → ad1 i = ad i := fun i hi => (g1 i (by omega)).trans (hAd i hi)
  have hEo : ∀ i, i < t → E1 i = E i := fun i hi => (g3 i (by omega)).trans (hEo i hi)
  have hA0 : ad1 (t) = a := (g1 (t) (by omega)).trans hA0
  have hE0 : E1 (t) = .inr (2, [.null, .null, .null, .null, .null, .int 0, .int 0, .int 0, .int 0, .int 0, .int 0]) := (g3 (t) (by omega)).trans hE0
  have hA1 : ad1 (t + 1) = q1 := g2
  have hE1 : E1 (t + 1) = .inl (cy 12, 12, .inr (.inr (.inr (.inr (fun _ => none))))) := g4
  have hP : va_P D vwCl (zN ad1 (t + 2) E1) H := hP
  have hD : va_D (zB b0) (zN ad1 (t + 2) E1) := hD
  refine W.widen (k := 1) (n := 12) (Nat.le_of_ble_eq_true rfl) (Nat.le_of_ble_eq_true rfl) ?_
  refine y_putF (j := 0) (fs2 := [.ref q1, .null, .null, .null, .null, .int 0, .int 0, .int 0, .int 0, .int 0, .int 0]) (ty0 := tyX2) (ty := .array (.object "LeaseOffice$Person")) hmn hx hb hts hi2 hown hK hP hD hS (by omega : t < t + 2) hA0 hE0 rfl tyX2_ok nmX2 (by decide) (hts (.fieldLink RX2 11 "LeaseOffice$Office" "persons" "[LLeaseOffice$Person;") (by decide +kernel)) rfl rfl (by decide +kernel) rfl rfl (Nat.le_of_ble_eq_true rfl) rfl dX2_init_10 (fun E2 H locs g3 g4 hP hD hS => ?_)
  have hEo : ∀ i, i < t → E2 i = E i := fun i hi => (g3 i (by omega)).trans (hEo i hi)
  have hE1 : E2 (t + 1) = .inl (cy 12, 12, .inr (.inr (.inr (.inr (fun _ => none))))) := (g3 (t + 1) (by omega)).trans hE1
  have hE0 : E2 (t) = .inr (2, [.ref q1, .null, .null, .null, .null, .int 0, .int 0, .int 0, .int 0, .int 0, .int 0]) := g4
  refine lv_aload_n hx hb dX2_init_13 rfl (lv_at hl 0 rfl) ?_
  refine lv_bipush (v := 10) hx hb dX2_init_14 (by decide) ?_
  refine y_newq (L := 10) (t0 := 3) hx hb hown (hts (.classLink RX2 17 RX7) (by decide +kernel)) hX.2.2.2.2.2.2.2.2.2.1 rfl hK hP hD hS hb0 (by decide) (by decide) (Nat.le_of_ble_eq_true rfl) (Nat.le_of_ble_eq_true rfl) (Nat.le_of_ble_eq_true rfl) dX2_init_16 (fun q3 ad3 E3 H g1 g2 g3 g4 hP hD hS => ?_)
  have hAd : ∀ i, i < t + 1 → ad3 i = ad i := fun i hi => (g1 i (by omega)).trans (hAd i hi)
  have hEo : ∀ i, i < t → E3 i = E i := fun i hi => (g3 i (by omega)).trans (hEo i hi)
  have hA0 : ad3 (t) = a := (g1 (t) (by omega)).trans hA0
  have hE0 : E3 (t) = .inr (2, [.ref q1, .null, .null, .null, .null, .int 0, .int 0, .int 0, .int 0, .int 0, .int 0]) := (g3 (t) (by omega)).trans hE0
  have hA1 : ad3 (t + 1) = q1 := (g1 (t + 1) (by omega)).trans hA1
  have hE1 : E3 (t + 1) = .inl (cy 12, 12, .inr (.inr (.inr (.inr (fun _ => none))))) := (g3 (t + 1) (by omega)).trans hE1
  have hA2 : ad3 (t + 2) = q3 := g2
  have hE2 : E3 (t + 2) = .inl (cy 13, 10, .inr (.inr (.inr (.inr (fun _ => none))))) := g4
  have hP : va_P D vwCl (zN ad3 (t + 3) E3) H := hP
  have hD : va_D (zB b0) (zN ad3 (t + 3) E3) := hD
  refine W.widen (k := 2) (n := 22) (Nat.le_of_ble_eq_true rfl) (Nat.le_of_ble_eq_true rfl) ?_
  refine y_putF (j := 1) (fs2 := [.ref q1, .ref q3, .null, .null, .null, .int 0, .int 0, .int 0, .int 0, .int 0, .int 0]) (ty0 := tyX2) (ty := .array (.object "LeaseOffice$Tool")) hmn hx hb hts hi2 hown hK hP hD hS (by omega : t < t + 3) hA0 hE0 rfl tyX2_ok nmX2 (by decide) (hts (.fieldLink RX2 19 "LeaseOffice$Office" "tools" "[LLeaseOffice$Tool;") (by decide +kernel)) rfl rfl (by decide +kernel) rfl rfl (Nat.le_of_ble_eq_true rfl) rfl dX2_init_19 (fun E4 H locs g3 g4 hP hD hS => ?_)
  have hEo : ∀ i, i < t → E4 i = E i := fun i hi => (g3 i (by omega)).trans (hEo i hi)
  have hE1 : E4 (t + 1) = .inl (cy 12, 12, .inr (.inr (.inr (.inr (fun _ => none))))) := (g3 (t + 1) (by omega)).trans hE1
  have hE2 : E4 (t + 2) = .inl (cy 13, 10, .inr (.inr (.inr (.inr (fun _ => none))))) := (g3 (t + 2) (by omega)).trans hE2
  have hE0 : E4 (t) = .inr (2, [.ref q1, .ref q3, .null, .null, .null, .int 0, .int 0, .int 0, .int 0, .int 0, .int 0]) := g4
  refine lv_aload_n hx hb dX2_init_22 rfl (lv_at hl 0 rfl) ?_
  refine y_new (ci := 3) (fs := [.int 0, .int 0, .int 0, .int 0, .int 0, .null]) hx hb hts hi3 tyX3 tyX3_ok hown (hts (.classLink RX2 9 RX3) (by decide +kernel)) (hts (.instantiable RX3 6) (by decide +kernel)) (hts (.initialized RX3) (by decide +kernel)) hK hP hD hS hb0 rfl (fun j hj => by rcases (show j = 0 ∨ j = 1 ∨ j = 2 ∨ j = 3 ∨ j = 4 ∨ j = 5 by omega) with rfl | rfl | rfl | rfl | rfl | rfl <;> rfl) (Nat.le_of_ble_eq_true rfl) (Nat.le_of_ble_eq_true rfl) dX2_init_23 (fun q5 ad5 E5 H g1 g2 g3 g4 hP hD hS => ?_)
  have hAd : ∀ i, i < t + 1 → ad5 i = ad i := fun i hi => (g1 i (by omega)).trans (hAd i hi)
  have hEo : ∀ i, i < t → E5 i = E i := fun i hi => (g3 i (by omega)).trans (hEo i hi)
  have hA0 : ad5 (t) = a := (g1 (t) (by omega)).trans hA0
  have hE0 : E5 (t) = .inr (2, [.ref q1, .ref q3, .null, .null, .null, .int 0, .int 0, .int 0, .int 0, .int 0, .int 0]) := (g3 (t) (by omega)).trans hE0
  have hA1 : ad5 (t + 1) = q1 := (g1 (t + 1) (by omega)).trans hA1
  have hE1 : E5 (t + 1) = .inl (cy 12, 12, .inr (.inr (.inr (.inr (fun _ => none))))) := (g3 (t + 1) (by omega)).trans hE1
  have hA2 : ad5 (t + 2) = q3 := (g1 (t + 2) (by omega)).trans hA2
  have hE2 : E5 (t + 2) = .inl (cy 13, 10, .inr (.inr (.inr (.inr (fun _ => none))))) := (g3 (t + 2) (by omega)).trans hE2
  have hA3 : ad5 (t + 3) = q5 := g2
  have hE3 : E5 (t + 3) = .inr (3, [.int 0, .int 0, .int 0, .int 0, .int 0, .null]) := g4
  have hP : va_P D vwCl (zN ad5 (t + 4) E5) H := hP
  have hD : va_D (zB b0) (zN ad5 (t + 4) E5) := hD
  refine W.widen (k := 3) (n := 28) (Nat.le_of_ble_eq_true rfl) (Nat.le_of_ble_eq_true rfl) ?_
  refine lv_dup hx hb dX2_init_26 rfl ?_
  refine y_callv (y_runIN (As := []) (rest := [.ref q5, .ref a]) ⟨hx, hb, hml, hown, hts⟩ (c_X3_init l D cy b0 ad5 E5 (t + 3) q5 (wk_2_2 hk) hA3 hE3) (⟨va_cnB 0 hts gX2_init_X3_init_n23 rfl rfl rfl hX.2.1 (hts (.initialized RX3) (by decide +kernel)) (by decide +kernel) ⟨Nat.le_of_ble_eq_true rfl, Nat.le_of_ble_eq_true rfl⟩, rfl, (hts (.instanceMethod yX3_init) (by decide +kernel))⟩) hb0 hS hK hX hP hD rfl hl.1 rfl (Nat.le_of_ble_eq_true rfl) dX2_init_27 ⟨Nat.le_of_ble_eq_true rfl, Nat.le_of_ble_eq_true rfl⟩) hS (fun ad6 E6 H locs hpo hP hD hS => ?_)
  obtain ⟨g1, g3, hBn⟩ := hpo
  have g1 : ∀ i, i < t + 4 → ad6 i = ad5 i := g1
  have g3 : ∀ i, i < t + 3 → E6 i = E5 i := g3
  have hAd : ∀ i, i < t + 1 → ad6 i = ad i := fun i hi => (g1 i (by omega)).trans (hAd i hi)
  have hEo : ∀ i, i < t → E6 i = E i := fun i hi => (g3 i (by omega)).trans (hEo i hi)
  have hA0 : ad6 (t) = a := (g1 (t) (by omega)).trans hA0
  have hE0 : E6 (t) = .inr (2, [.ref q1, .ref q3, .null, .null, .null, .int 0, .int 0, .int 0, .int 0, .int 0, .int 0]) := (g3 (t) (by omega)).trans hE0
  have hA1 : ad6 (t + 1) = q1 := (g1 (t + 1) (by omega)).trans hA1
  have hE1 : E6 (t + 1) = .inl (cy 12, 12, .inr (.inr (.inr (.inr (fun _ => none))))) := (g3 (t + 1) (by omega)).trans hE1
  have hA2 : ad6 (t + 2) = q3 := (g1 (t + 2) (by omega)).trans hA2
  have hE2 : E6 (t + 2) = .inl (cy 13, 10, .inr (.inr (.inr (.inr (fun _ => none))))) := (g3 (t + 2) (by omega)).trans hE2
  have hA3 : ad6 (t + 3) = q5 := (g1 (t + 3) (by omega)).trans hA3
  have hB3 : zblk D cy b0 ad6 E6 (t + 3) (t + 5) := hBn
  have hP : va_P D vwCl (zN ad6 (t + 5) E6) H := hP
  have hD : va_D (zB b0) (zN ad6 (t + 5) E6) := hD
  refine W.widen (k := 4) (n := 38) (Nat.le_of_ble_eq_true rfl) (Nat.le_of_ble_eq_true rfl) ?_
  refine y_putF (j := 2) (fs2 := [.ref q1, .ref q3, .ref q5, .null, .null, .int 0, .int 0, .int 0, .int 0, .int 0, .int 0]) (ty0 := tyX2) (ty := .object "LeaseOffice$Person") hmn hx hb hts hi2 hown hK hP hD hS (by omega : t < t + 5) hA0 hE0 rfl tyX2_ok nmX2 (by decide) (hts (.fieldLink RX2 24 "LeaseOffice$Office" "nobody" "LLeaseOffice$Person;") (by decide +kernel)) rfl rfl (by decide +kernel) rfl rfl (Nat.le_of_ble_eq_true rfl) rfl dX2_init_30 (fun E7 H locs g3 g4 hP hD hS => ?_)
  have hEo : ∀ i, i < t → E7 i = E i := fun i hi => (g3 i (by omega)).trans (hEo i hi)
  have hE1 : E7 (t + 1) = .inl (cy 12, 12, .inr (.inr (.inr (.inr (fun _ => none))))) := (g3 (t + 1) (by omega)).trans hE1
  have hE2 : E7 (t + 2) = .inl (cy 13, 10, .inr (.inr (.inr (.inr (fun _ => none))))) := (g3 (t + 2) (by omega)).trans hE2
  have hB3 : zblk D cy b0 ad6 E7 (t + 3) (t + 5) := zblk_keep (N := t + 5) hB3 (by omega) (fun i h1 h2 => by have hh := cl_2a hk (i - (t + 3)) (by omega); rw [show t + 3 + (i - (t + 3)) = i by omega] at hh; omega) (fun j hj => rfl) (fun i h1 h2 => g3 i (by omega))
  have hE0 : E7 (t) = .inr (2, [.ref q1, .ref q3, .ref q5, .null, .null, .int 0, .int 0, .int 0, .int 0, .int 0, .int 0]) := g4
  refine lv_aload_n hx hb dX2_init_33 rfl (lv_at hl 0 rfl) ?_
  refine y_new (ci := 7) (fs := [.int 0, .int 0, .int 0, .int 0, .int 0, .int 0, .int 0, .null, .null, .null]) hx hb hts hi7 tyX7 tyX7_ok hown (hts (.classLink RX2 17 RX7) (by decide +kernel)) (hts (.instantiable RX7 10) (by decide +kernel)) (hts (.initialized RX7) (by decide +kernel)) hK hP hD hS hb0 rfl (fun j hj => by rcases (show j = 0 ∨ j = 1 ∨ j = 2 ∨ j = 3 ∨ j = 4 ∨ j = 5 ∨ j = 6 ∨ j = 7 ∨ j = 8 ∨ j = 9 by omega) with rfl | rfl | rfl | rfl | rfl | rfl | rfl | rfl | rfl | rfl <;> rfl) (Nat.le_of_ble_eq_true rfl) (Nat.le_of_ble_eq_true rfl) dX2_init_34 (fun q8 ad8 E8 H g1 g2 g3 g4 hP hD hS => ?_)
  have hAd : ∀ i, i < t + 1 → ad8 i = ad i := fun i hi => (g1 i (by omega)).trans (hAd i hi)
  have hEo : ∀ i, i < t → E8 i = E i := fun i hi => (g3 i (by omega)).trans (hEo i hi)
  have hA0 : ad8 (t) = a := (g1 (t) (by omega)).trans hA0
  have hE0 : E8 (t) = .inr (2, [.ref q1, .ref q3, .ref q5, .null, .null, .int 0, .int 0, .int 0, .int 0, .int 0, .int 0]) := (g3 (t) (by omega)).trans hE0
  have hA1 : ad8 (t + 1) = q1 := (g1 (t + 1) (by omega)).trans hA1
  have hE1 : E8 (t + 1) = .inl (cy 12, 12, .inr (.inr (.inr (.inr (fun _ => none))))) := (g3 (t + 1) (by omega)).trans hE1
  have hA2 : ad8 (t + 2) = q3 := (g1 (t + 2) (by omega)).trans hA2
  have hE2 : E8 (t + 2) = .inl (cy 13, 10, .inr (.inr (.inr (.inr (fun _ => none))))) := (g3 (t + 2) (by omega)).trans hE2
  have hA3 : ad8 (t + 3) = q5 := (g1 (t + 3) (by omega)).trans hA3
  have hB3 : zblk D cy b0 ad8 E8 (t + 3) (t + 5) := zblk_keep (N := t + 5) hB3 (by omega) (fun i h1 h2 => by have hh := cl_2a hk (i - (t + 3)) (by omega); rw [show t + 3 + (i - (t + 3)) = i by omega] at hh; omega) (fun j hj => g1 j (by omega)) (fun i h1 h2 => g3 i (by omega))
  have hA5 : ad8 (t + 5) = q8 := g2
  have hE5 : E8 (t + 5) = .inr (7, [.int 0, .int 0, .int 0, .int 0, .int 0, .int 0, .int 0, .null, .null, .null]) := g4
  have hP : va_P D vwCl (zN ad8 (t + 6) E8) H := hP
  have hD : va_D (zB b0) (zN ad8 (t + 6) E8) := hD
  refine W.widen (k := 5) (n := 48) (Nat.le_of_ble_eq_true rfl) (Nat.le_of_ble_eq_true rfl) ?_
  refine lv_dup hx hb dX2_init_37 rfl ?_
  refine y_callv (y_runIN (As := []) (rest := [.ref q8, .ref a]) ⟨hx, hb, hml, hown, hts⟩ (c_X7_init l D cy b0 ad8 E8 (t + 5) q8 (wk_2_3 hk) hA5 hE5) (⟨va_cnB 0 hts gX2_init_X7_init_n28 rfl rfl rfl hX.2.2.1 (hts (.initialized RX7) (by decide +kernel)) (by decide +kernel) ⟨Nat.le_of_ble_eq_true rfl, Nat.le_of_ble_eq_true rfl⟩, rfl, (hts (.instanceMethod yX7_init) (by decide +kernel))⟩) hb0 hS hK hX hP hD rfl hl.1 rfl (Nat.le_of_ble_eq_true rfl) dX2_init_38 ⟨Nat.le_of_ble_eq_true rfl, Nat.le_of_ble_eq_true rfl⟩) hS (fun ad9 E9 H locs hpo hP hD hS => ?_)
  obtain ⟨g1, g3, hBn⟩ := hpo
  have g1 : ∀ i, i < t + 6 → ad9 i = ad8 i := g1
  have g3 : ∀ i, i < t + 5 → E9 i = E8 i := g3
  have hAd : ∀ i, i < t + 1 → ad9 i = ad i := fun i hi => (g1 i (by omega)).trans (hAd i hi)
  have hEo : ∀ i, i < t → E9 i = E i := fun i hi => (g3 i (by omega)).trans (hEo i hi)
  have hA0 : ad9 (t) = a := (g1 (t) (by omega)).trans hA0
  have hE0 : E9 (t) = .inr (2, [.ref q1, .ref q3, .ref q5, .null, .null, .int 0, .int 0, .int 0, .int 0, .int 0, .int 0]) := (g3 (t) (by omega)).trans hE0
  have hA1 : ad9 (t + 1) = q1 := (g1 (t + 1) (by omega)).trans hA1
  have hE1 : E9 (t + 1) = .inl (cy 12, 12, .inr (.inr (.inr (.inr (fun _ => none))))) := (g3 (t + 1) (by omega)).trans hE1
  have hA2 : ad9 (t + 2) = q3 := (g1 (t + 2) (by omega)).trans hA2
  have hE2 : E9 (t + 2) = .inl (cy 13, 10, .inr (.inr (.inr (.inr (fun _ => none))))) := (g3 (t + 2) (by omega)).trans hE2
  have hA3 : ad9 (t + 3) = q5 := (g1 (t + 3) (by omega)).trans hA3
  have hB3 : zblk D cy b0 ad9 E9 (t + 3) (t + 5) := zblk_keep (N := t + 5) hB3 (by omega) (fun i h1 h2 => by have hh := cl_2a hk (i - (t + 3)) (by omega); rw [show t + 3 + (i - (t + 3)) = i by omega] at hh; omega) (fun j hj => g1 j (by omega)) (fun i h1 h2 => g3 i (by omega))
  have hA5 : ad9 (t + 5) = q8 := (g1 (t + 5) (by omega)).trans hA5
  have hB5 : zblk D cy b0 ad9 E9 (t + 5) (t + 12) := hBn
  have hP : va_P D vwCl (zN ad9 (t + 12) E9) H := hP
  have hD : va_D (zB b0) (zN ad9 (t + 12) E9) := hD
  refine W.widen (k := 11) (n := 140) (Nat.le_of_ble_eq_true rfl) (Nat.le_of_ble_eq_true rfl) ?_
  refine y_putF (j := 3) (fs2 := [.ref q1, .ref q3, .ref q5, .ref q8, .null, .int 0, .int 0, .int 0, .int 0, .int 0, .int 0]) (ty0 := tyX2) (ty := .object "LeaseOffice$Tool") hmn hx hb hts hi2 hown hK hP hD hS (by omega : t < t + 12) hA0 hE0 rfl tyX2_ok nmX2 (by decide) (hts (.fieldLink RX2 29 "LeaseOffice$Office" "noTool" "LLeaseOffice$Tool;") (by decide +kernel)) rfl rfl (by decide +kernel) rfl rfl (Nat.le_of_ble_eq_true rfl) rfl dX2_init_41 (fun E10 H locs g3 g4 hP hD hS => ?_)
  have hEo : ∀ i, i < t → E10 i = E i := fun i hi => (g3 i (by omega)).trans (hEo i hi)
  have hE1 : E10 (t + 1) = .inl (cy 12, 12, .inr (.inr (.inr (.inr (fun _ => none))))) := (g3 (t + 1) (by omega)).trans hE1
  have hE2 : E10 (t + 2) = .inl (cy 13, 10, .inr (.inr (.inr (.inr (fun _ => none))))) := (g3 (t + 2) (by omega)).trans hE2
  have hB3 : zblk D cy b0 ad9 E10 (t + 3) (t + 5) := zblk_keep (N := t + 12) hB3 (by omega) (fun i h1 h2 => by have hh := cl_2a hk (i - (t + 3)) (by omega); rw [show t + 3 + (i - (t + 3)) = i by omega] at hh; omega) (fun j hj => rfl) (fun i h1 h2 => g3 i (by omega))
  have hB5 : zblk D cy b0 ad9 E10 (t + 5) (t + 12) := zblk_keep (N := t + 12) hB5 (by omega) (fun i h1 h2 => by have hh := cl_2b hk (i - (t + 5)) (by omega); rw [show t + 5 + (i - (t + 5)) = i by omega] at hh; omega) (fun j hj => rfl) (fun i h1 h2 => g3 i (by omega))
  have hE0 : E10 (t) = .inr (2, [.ref q1, .ref q3, .ref q5, .ref q8, .null, .int 0, .int 0, .int 0, .int 0, .int 0, .int 0]) := g4
  refine lv_aload_n hx hb dX2_init_44 rfl (lv_at hl 0 rfl) ?_
  refine y_new (ci := 0) (fs := [.null, .int 0]) hx hb hts hi0 tyX0 tyX0_ok hown (hts (.classLink RX2 33 RX0) (by decide +kernel)) (hts (.instantiable RX0 2) (by decide +kernel)) (hts (.initialized RX0) (by decide +kernel)) hK hP hD hS hb0 rfl (fun j hj => by rcases (show j = 0 ∨ j = 1 by omega) with rfl | rfl <;> rfl) (Nat.le_of_ble_eq_true rfl) (Nat.le_of_ble_eq_true rfl) dX2_init_45 (fun q11 ad11 E11 H g1 g2 g3 g4 hP hD hS => ?_)
  have hAd : ∀ i, i < t + 1 → ad11 i = ad i := fun i hi => (g1 i (by omega)).trans (hAd i hi)
  have hEo : ∀ i, i < t → E11 i = E i := fun i hi => (g3 i (by omega)).trans (hEo i hi)
  have hA0 : ad11 (t) = a := (g1 (t) (by omega)).trans hA0
  have hE0 : E11 (t) = .inr (2, [.ref q1, .ref q3, .ref q5, .ref q8, .null, .int 0, .int 0, .int 0, .int 0, .int 0, .int 0]) := (g3 (t) (by omega)).trans hE0
  have hA1 : ad11 (t + 1) = q1 := (g1 (t + 1) (by omega)).trans hA1
  have hE1 : E11 (t + 1) = .inl (cy 12, 12, .inr (.inr (.inr (.inr (fun _ => none))))) := (g3 (t + 1) (by omega)).trans hE1
  have hA2 : ad11 (t + 2) = q3 := (g1 (t + 2) (by omega)).trans hA2
  have hE2 : E11 (t + 2) = .inl (cy 13, 10, .inr (.inr (.inr (.inr (fun _ => none))))) := (g3 (t + 2) (by omega)).trans hE2
  have hA3 : ad11 (t + 3) = q5 := (g1 (t + 3) (by omega)).trans hA3
  have hA5 : ad11 (t + 5) = q8 := (g1 (t + 5) (by omega)).trans hA5
  have hB3 : zblk D cy b0 ad11 E11 (t + 3) (t + 5) := zblk_keep (N := t + 12) hB3 (by omega) (fun i h1 h2 => by have hh := cl_2a hk (i - (t + 3)) (by omega); rw [show t + 3 + (i - (t + 3)) = i by omega] at hh; omega) (fun j hj => g1 j (by omega)) (fun i h1 h2 => g3 i (by omega))
  have hB5 : zblk D cy b0 ad11 E11 (t + 5) (t + 12) := zblk_keep (N := t + 12) hB5 (by omega) (fun i h1 h2 => by have hh := cl_2b hk (i - (t + 5)) (by omega); rw [show t + 5 + (i - (t + 5)) = i by omega] at hh; omega) (fun j hj => g1 j (by omega)) (fun i h1 h2 => g3 i (by omega))
  have hA12 : ad11 (t + 12) = q11 := g2
  have hE12 : E11 (t + 12) = .inr (0, [.null, .int 0]) := g4
  have hP : va_P D vwCl (zN ad11 (t + 13) E11) H := hP
  have hD : va_D (zB b0) (zN ad11 (t + 13) E11) := hD
  refine W.widen (k := 12) (n := 142) (Nat.le_of_ble_eq_true rfl) (Nat.le_of_ble_eq_true rfl) ?_
  refine lv_dup hx hb dX2_init_48 rfl ?_
  refine y_callv (y_runIN (As := []) (rest := [.ref q11, .ref a]) ⟨hx, hb, hml, hown, hts⟩ (c_X0_init l D cy b0 ad11 E11 (t + 12) q11 (wk_2_4 hk) hA12 hE12) (⟨va_cnB 0 hts gX2_init_X0_init_n35 rfl rfl rfl hX.2.2.2.1 (hts (.initialized RX0) (by decide +kernel)) (by decide +kernel) ⟨Nat.le_of_ble_eq_true rfl, Nat.le_of_ble_eq_true rfl⟩, rfl, (hts (.instanceMethod yX0_init) (by decide +kernel))⟩) hb0 hS hK hX hP hD rfl hl.1 rfl (Nat.le_of_ble_eq_true rfl) dX2_init_49 ⟨Nat.le_of_ble_eq_true rfl, Nat.le_of_ble_eq_true rfl⟩) hS (fun ad12 E12 H locs hpo hP hD hS => ?_)
  obtain ⟨g1, g3, hBn⟩ := hpo
  have g1 : ∀ i, i < t + 13 → ad12 i = ad11 i := g1
  have g3 : ∀ i, i < t + 12 → E12 i = E11 i := g3
  have hAd : ∀ i, i < t + 1 → ad12 i = ad i := fun i hi => (g1 i (by omega)).trans (hAd i hi)
  have hEo : ∀ i, i < t → E12 i = E i := fun i hi => (g3 i (by omega)).trans (hEo i hi)
  have hA0 : ad12 (t) = a := (g1 (t) (by omega)).trans hA0
  have hE0 : E12 (t) = .inr (2, [.ref q1, .ref q3, .ref q5, .ref q8, .null, .int 0, .int 0, .int 0, .int 0, .int 0, .int 0]) := (g3 (t) (by omega)).trans hE0
  have hA1 : ad12 (t + 1) = q1 := (g1 (t + 1) (by omega)).trans hA1
  have hE1 : E12 (t + 1) = .inl (cy 12, 12, .inr (.inr (.inr (.inr (fun _ => none))))) := (g3 (t + 1) (by omega)).trans hE1
  have hA2 : ad12 (t + 2) = q3 := (g1 (t + 2) (by omega)).trans hA2
  have hE2 : E12 (t + 2) = .inl (cy 13, 10, .inr (.inr (.inr (.inr (fun _ => none))))) := (g3 (t + 2) (by omega)).trans hE2
  have hA3 : ad12 (t + 3) = q5 := (g1 (t + 3) (by omega)).trans hA3
  have hA5 : ad12 (t + 5) = q8 := (g1 (t + 5) (by omega)).trans hA5
  have hB3 : zblk D cy b0 ad12 E12 (t + 3) (t + 5) := zblk_keep (N := t + 12) hB3 (by omega) (fun i h1 h2 => by have hh := cl_2a hk (i - (t + 3)) (by omega); rw [show t + 3 + (i - (t + 3)) = i by omega] at hh; omega) (fun j hj => g1 j (by omega)) (fun i h1 h2 => g3 i (by omega))
  have hB5 : zblk D cy b0 ad12 E12 (t + 5) (t + 12) := zblk_keep (N := t + 12) hB5 (by omega) (fun i h1 h2 => by have hh := cl_2b hk (i - (t + 5)) (by omega); rw [show t + 5 + (i - (t + 5)) = i by omega] at hh; omega) (fun j hj => g1 j (by omega)) (fun i h1 h2 => g3 i (by omega))
  have hA12 : ad12 (t + 12) = q11 := (g1 (t + 12) (by omega)).trans hA12
  have hB12 : zblk D cy b0 ad12 E12 (t + 12) (t + 15) := hBn
  have hP : va_P D vwCl (zN ad12 (t + 15) E12) H := hP
  have hD : va_D (zB b0) (zN ad12 (t + 15) E12) := hD
  refine W.widen (k := 14) (n := 158) (Nat.le_of_ble_eq_true rfl) (Nat.le_of_ble_eq_true rfl) ?_
  refine y_putF (j := 4) (fs2 := [.ref q1, .ref q3, .ref q5, .ref q8, .ref q11, .int 0, .int 0, .int 0, .int 0, .int 0, .int 0]) (ty0 := tyX2) (ty := .object "LeaseOffice$Blame") hmn hx hb hts hi2 hown hK hP hD hS (by omega : t < t + 15) hA0 hE0 rfl tyX2_ok nmX2 (by decide) (hts (.fieldLink RX2 36 "LeaseOffice$Office" "blame" "LLeaseOffice$Blame;") (by decide +kernel)) rfl rfl (by decide +kernel) rfl rfl (Nat.le_of_ble_eq_true rfl) rfl dX2_init_52 (fun E13 H locs g3 g4 hP hD hS => ?_)
  have hEo : ∀ i, i < t → E13 i = E i := fun i hi => (g3 i (by omega)).trans (hEo i hi)
  have hE1 : E13 (t + 1) = .inl (cy 12, 12, .inr (.inr (.inr (.inr (fun _ => none))))) := (g3 (t + 1) (by omega)).trans hE1
  have hE2 : E13 (t + 2) = .inl (cy 13, 10, .inr (.inr (.inr (.inr (fun _ => none))))) := (g3 (t + 2) (by omega)).trans hE2
  have hB3 : zblk D cy b0 ad12 E13 (t + 3) (t + 5) := zblk_keep (N := t + 15) hB3 (by omega) (fun i h1 h2 => by have hh := cl_2a hk (i - (t + 3)) (by omega); rw [show t + 3 + (i - (t + 3)) = i by omega] at hh; omega) (fun j hj => rfl) (fun i h1 h2 => g3 i (by omega))
  have hB5 : zblk D cy b0 ad12 E13 (t + 5) (t + 12) := zblk_keep (N := t + 15) hB5 (by omega) (fun i h1 h2 => by have hh := cl_2b hk (i - (t + 5)) (by omega); rw [show t + 5 + (i - (t + 5)) = i by omega] at hh; omega) (fun j hj => rfl) (fun i h1 h2 => g3 i (by omega))
  have hB12 : zblk D cy b0 ad12 E13 (t + 12) (t + 15) := zblk_keep (N := t + 15) hB12 (by omega) (fun i h1 h2 => by have hh := cl_2c hk (i - (t + 12)) (by omega); rw [show t + 12 + (i - (t + 12)) = i by omega] at hh; omega) (fun j hj => rfl) (fun i h1 h2 => g3 i (by omega))
  have hE0 : E13 (t) = .inr (2, [.ref q1, .ref q3, .ref q5, .ref q8, .ref q11, .int 0, .int 0, .int 0, .int 0, .int 0, .int 0]) := g4
  have L87 : ∀ (nn j u : Nat) (i1 : Int32) (f : Nat → Option Nat) (ad1 : Nat → Nat) (E1 : Nat → va_E) (H : Heap) (locs : List Loc) (ls : Array Slot), j + nn = 10 → (u = t + 39 + 7 * j) → (i1 = nI j) → (∀ i, i < t + 1 → ad1 i = ad i) → (∀ i, i < t → E1 i = E i) → (ad1 (t) = a) → (ad1 (t + 1) = q1) → (ad1 (t + 2) = q3) → (ad1 (t + 3) = q5) → (ad1 (t + 5) = q8) → (ad1 (t + 12) = q11) → (E1 (t) = .inr (2, [.ref q1, .ref q3, .ref q5, .ref q8, .ref q11, .int 0, .int 0, .int 0, .int 0, .int 0, .int 0])) → (E1 (t + 2) = .inl (cy 13, 10, .inr (.inr (.inr (.inr f))))) → (∀ k, k < j → f k = some (ad1 (t + 39 + 7 * k))) → (∀ k, j ≤ k → f k = none) → (zblk D cy b0 ad1 E1 (t + 1) (t + 1 + 1)) → (zblk D cy b0 ad1 E1 (t + 3) u) → va_P D vwCl (zN ad1 u E1) H → va_D (zB b0) (zN ad1 u E1) → va_S (zB b0) s.heap H locs → lv_has ls 2 [(1, .int i1), (0, .ref a)] → W p l e (zrn 3 108 1370 63) s m args below meth c H locs (38 + 7 * j) (350 + 102 * j) (MQ below (zQn D cy b0 (t + 109) (fun u => (∀ i, i < t + 1 → u.1 i = ad i) ∧ (∀ i, i < t → u.2 i = E i) ∧ zblk D cy b0 u.1 u.2 t (t + 109))) args s 108 1370 (zB b0)) (F0 m 87 ls []) := by
    intro nn
    induction nn with
    | zero =>
      intro j u i1 f ad1 E1 H locs ls hj hu hiv hAd hEo hA0 hA1 hA2 hA3 hA5 hA12 hE0 hEa hf1 hf2 hBp hBg hP hD hS hl
      have hj : j = 10 := by omega
      subst hj
      refine lv_iload_n hx hb dX2_init_87 rfl (lv_at hl 0 rfl) ?_
      refine lv_aload_n hx hb dX2_init_88 rfl (lv_at hl 1 rfl) ?_
      refine y_get (j := 1) hx hb hts hi2 hown hK hP (by omega : t < u) hA0 hE0 rfl (by decide) (hts (.fieldLink RX2 19 "LeaseOffice$Office" "tools" "[LLeaseOffice$Tool;") (by decide +kernel)) rfl dX2_init_89 ?_
      refine y_alen 3 (v := 10) hx hb hK hP (by omega : t + 2 < u) hA2 hEa rfl rfl dX2_init_92 ?_
      refine lv_icmp_ge (tgt := 115) hx hb dX2_init_93 (by decide) (fun c => ?_) (fun c => absurd (by rw [hiv]; decide) c)
      have hB0 : zblk D cy b0 ad1 E1 t (t + 1) := zblk_one (by rw [hE0, wE_o hk (by decide)]; simp only [wO, wI0_o hk (by decide), hA1, hA2, hA3, hA5, hA12])
      have hB2 : zblk D cy b0 ad1 E1 (t + 2) (t + 2 + 1) := by
        refine zblk_one ?_
        rw [hEa, wE_13 (wk_2_1 hk)]
        have hfe : f = (fun j => if j < 10 then some (ad1 (t + 2 + 37 + 7 * j)) else none) := by
          funext k
          by_cases h9 : k < 10
          · rw [if_pos h9]; exact hf1 k h9
          · rw [if_neg h9]; exact hf2 k (by omega)
        rw [hfe]
      subst hu
      refine W.widen (k := 108) (n := 1370) (by omega) (by omega) ?_
      exact y_vret ⟨hAd, hEo, zblk_app hB0 (zblk_app hBp (zblk_app hB2 hBg))⟩ hx hb hr hlocks hb0 hK hX hP hD hS dX2_init_115
    | succ nn ih =>
      intro j u i1 f ad1 E1 H locs ls hj hu hiv hAd hEo hA0 hA1 hA2 hA3 hA5 hA12 hE0 hEa hf1 hf2 hBp hBg hP hD hS hl
      have hjN : j < 10 := by omega
      refine lv_iload_n hx hb dX2_init_87 rfl (lv_at hl 0 rfl) ?_
      refine lv_aload_n hx hb dX2_init_88 rfl (lv_at hl 1 rfl) ?_
      refine y_get (j := 1) hx hb hts hi2 hown hK hP (by omega : t < u) hA0 hE0 rfl (by decide) (hts (.fieldLink RX2 19 "LeaseOffice$Office" "tools" "[LLeaseOffice$Tool;") (by decide +kernel)) rfl dX2_init_89 ?_
      refine y_alen 3 (v := 10) hx hb hK hP (by omega : t + 2 < u) hA2 hEa rfl rfl dX2_init_92 ?_
      refine lv_icmp_ge (tgt := 115) hx hb dX2_init_93 (by decide) (fun c => absurd c (by rw [hiv]; exact nI_ge hjN (by decide))) (fun _ => ?_)
      refine lv_aload_n hx hb dX2_init_96 rfl (lv_at hl 1 rfl) ?_
      refine y_get (j := 1) hx hb hts hi2 hown hK hP (by omega : t < u) hA0 hE0 rfl (by decide) (hts (.fieldLink RX2 19 "LeaseOffice$Office" "tools" "[LLeaseOffice$Tool;") (by decide +kernel)) rfl dX2_init_97 ?_
      refine lv_iload_n hx hb dX2_init_100 rfl (lv_at hl 0 rfl) ?_
      refine y_new (ci := 7) (fs := [.int 0, .int 0, .int 0, .int 0, .int 0, .int 0, .int 0, .null, .null, .null]) hx hb hts hi7 tyX7 tyX7_ok hown (hts (.classLink RX2 17 RX7) (by decide +kernel)) (hts (.instantiable RX7 10) (by decide +kernel)) (hts (.initialized RX7) (by decide +kernel)) hK hP hD hS hb0 rfl (fun j hj => by rcases (show j = 0 ∨ j = 1 ∨ j = 2 ∨ j = 3 ∨ j = 4 ∨ j = 5 ∨ j = 6 ∨ j = 7 ∨ j = 8 ∨ j = 9 by omega) with rfl | rfl | rfl | rfl | rfl | rfl | rfl | rfl | rfl | rfl <;> rfl) (by show _ ≤ 108; omega) (by show _ ≤ 1370; omega) dX2_init_101 (fun q ad2 E2 H g1 g2 g3 g4 hP hD hS => ?_)
      refine lv_dup hx hb dX2_init_104 rfl ?_
      have hku : wK u = 7 := by rw [hu]; exact wk_2_t hk j hjN
      have hE2u : E2 u = .inr (7, [.int 0, .int 0, .int 0, .int 0, .int 0, .int 0, .int 0, .null, .null, .null]) := g4
      refine y_callv (y_runIN (As := []) (rest := [.ref q, .int i1, .ref q3]) ⟨hx, hb, hml, hown, hts⟩ (c_X7_init l D cy b0 ad2 E2 u q hku g2 hE2u) (⟨va_cnB 0 hts gX2_init_X7_init_n28 rfl rfl rfl hX.2.2.1 (hts (.initialized RX7) (by decide +kernel)) (by decide +kernel) ⟨Nat.le_of_ble_eq_true rfl, Nat.le_of_ble_eq_true rfl⟩, rfl, (hts (.instanceMethod yX7_init) (by decide +kernel))⟩) hb0 hS hK hX hP hD rfl hl.1 rfl (Nat.le_of_ble_eq_true rfl) dX2_init_105 ⟨by show _ ≤ 108; omega, by show _ ≤ 1370; omega⟩) hS (fun ad3 E3 H locs hpo hP hD hS => ?_)
      obtain ⟨k1, k3, hBn⟩ := hpo
      have k1 : ∀ i, i < u + 1 → ad3 i = ad2 i := k1
      have k3 : ∀ i, i < u → E3 i = E2 i := k3
      have hBn : zblk D cy b0 ad3 E3 u (u + 7) := hBn
      have hP : va_P D vwCl (zN ad3 (u + 7) E3) H := hP
      have hD : va_D (zB b0) (zN ad3 (u + 7) E3) := hD
      have m1 : ∀ i, i < u → ad3 i = ad1 i := fun i hi => (k1 i (by omega)).trans (g1 i hi)
      have m3 : ∀ i, i < u → E3 i = E1 i := fun i hi => (k3 i hi).trans (g3 i hi)
      have hq : ad3 u = q := (k1 u (by omega)).trans g2
      have hEu : E3 u = .inr (7, wO (D, ad3, cy, b0) wI0 zJ0 u 7) := (hBn u (by omega) (by omega)).trans (wE_o hku (by decide))
      have hin : vp_in i1 10 := by rw [hiv]; exact vp_in_nI hjN (by decide)
      refine y_aast (t0 := 3) hx hb hK hP hD hS (by omega : t + 2 < u + 7) ((m1 (t + 2) (by omega)).trans hA2) ((m3 (t + 2) (by omega)).trans hEa) rfl (by omega : u < u + 7) hq hEu rfl hin rfl dX2_init_108 (fun E4 H locs n3 n4 hP hD hS => ?_)
      refine lv_iinc (v := i1 + 1) (lv' := [(1, .int (i1 + 1)), (0, .ref a)]) hx hb dX2_init_109 hl (k := 0) rfl rfl (by decide) rfl (fun ls hl => ?_)
      refine lv_goto (tgt := 87) hx hb dX2_init_112 (by decide) ?_
      have o3 : ∀ i, i < u → i ≠ t + 2 → E4 i = E1 i := fun i hi hne => (n3 i hne).trans (m3 i hi)
      have hcl : i1.toNatClampNeg = j := by rw [hiv]; exact nI_clamp (by omega)
      rw [hcl] at n4
      refine W.widen (k := 38 + 7 * (j + 1)) (n := 350 + 102 * (j + 1)) (by omega) (by omega) ?_
      have hfj : va_up f j (some q) j = some (ad3 (t + 39 + 7 * j)) := (if_pos rfl).trans (by rw [← hu, hq])
      exact ih (j + 1) (u + 7) (i1 + 1) _ ad3 E4 H locs ls (by omega) (by omega) (by rw [hiv]; exact nI_1 j) (fun i hi => (m1 i (by omega)).trans (hAd i hi)) (fun i hi => (o3 i (by omega) (by omega)).trans (hEo i hi)) ((m1 (t) (by omega)).trans hA0) ((m1 (t + 1) (by omega)).trans hA1) ((m1 (t + 2) (by omega)).trans hA2) ((m1 (t + 3) (by omega)).trans hA3) ((m1 (t + 5) (by omega)).trans hA5) ((m1 (t + 12) (by omega)).trans hA12) ((o3 (t) (by omega) (by omega)).trans hE0) n4 (fun k hk9 => (Nat.lt_or_ge k j).elim (fun h9 => (if_neg (by omega)).trans ((hf1 k h9).trans (by rw [m1 (t + 39 + 7 * k) (by omega)]))) (fun h9 => by rw [(show k = j by omega)]; exact hfj)) (fun k hk9 => (if_neg (by omega)).trans (hf2 k (by omega))) (zblk_keep (N := u) hBp (by omega) (fun i h1 h2 => by have hh := cl_2p hk; rw [show i = t + 1 by omega]; omega) m1 (fun i h1 h2 => o3 i (by omega) (by omega))) (zblk_app (zblk_keep (N := u) hBg (by omega) (fun i h1 h2 => by have hh := cl_2h hk j (by omega) (i - (t + 3)) (by omega); rw [show t + 3 + (i - (t + 3)) = i by omega] at hh; omega) m1 (fun i h1 h2 => o3 i (by omega) (by omega))) (zblk_keep (N := u + 7) hBn (by omega) (fun i h1 h2 => by have hh := cl_7 hku (i - (u)) (by omega); rw [show u + (i - (u)) = i by omega] at hh; omega) (fun _ _ => rfl) (fun i h1 h2 => n3 i (by omega)))) hP hD hS hl
  have L57 : ∀ (nn j u : Nat) (i1 : Int32) (f : Nat → Option Nat) (ad1 : Nat → Nat) (E1 : Nat → va_E) (H : Heap) (locs : List Loc) (ls : Array Slot), j + nn = 12 → (u = t + 15 + 2 * j) → (i1 = nI j) → (∀ i, i < t + 1 → ad1 i = ad i) → (∀ i, i < t → E1 i = E i) → (ad1 (t) = a) → (ad1 (t + 1) = q1) → (ad1 (t + 2) = q3) → (ad1 (t + 3) = q5) → (ad1 (t + 5) = q8) → (ad1 (t + 12) = q11) → (E1 (t) = .inr (2, [.ref q1, .ref q3, .ref q5, .ref q8, .ref q11, .int 0, .int 0, .int 0, .int 0, .int 0, .int 0])) → (E1 (t + 2) = .inl (cy 13, 10, .inr (.inr (.inr (.inr (fun _ => none)))))) → (E1 (t + 1) = .inl (cy 12, 12, .inr (.inr (.inr (.inr f))))) → (∀ k, k < j → f k = some (ad1 (t + 15 + 2 * k))) → (∀ k, j ≤ k → f k = none) → (zblk D cy b0 ad1 E1 (t + 3) u) → va_P D vwCl (zN ad1 u E1) H → va_D (zB b0) (zN ad1 u E1) → va_S (zB b0) s.heap H locs → lv_has ls 2 [(1, .int i1), (0, .ref a)] → W p l e (zrn 3 108 1370 63) s m args below meth c H locs (14 + 2 * j) (158 + 16 * j) (MQ below (zQn D cy b0 (t + 109) (fun u => (∀ i, i < t + 1 → u.1 i = ad i) ∧ (∀ i, i < t → u.2 i = E i) ∧ zblk D cy b0 u.1 u.2 t (t + 109))) args s 108 1370 (zB b0)) (F0 m 57 ls []) := by
    intro nn
    induction nn with
    | zero =>
      intro j u i1 f ad1 E1 H locs ls hj hu hiv hAd hEo hA0 hA1 hA2 hA3 hA5 hA12 hE0 hE2 hEa hf1 hf2 hBg hP hD hS hl
      have hj : j = 12 := by omega
      subst hj
      refine lv_iload_n hx hb dX2_init_57 rfl (lv_at hl 0 rfl) ?_
      refine lv_aload_n hx hb dX2_init_58 rfl (lv_at hl 1 rfl) ?_
      refine y_get (j := 0) hx hb hts hi2 hown hK hP (by omega : t < u) hA0 hE0 rfl (by decide) (hts (.fieldLink RX2 11 "LeaseOffice$Office" "persons" "[LLeaseOffice$Person;") (by decide +kernel)) rfl dX2_init_59 ?_
      refine y_alen 2 (v := 12) hx hb hK hP (by omega : t + 1 < u) hA1 hEa rfl rfl dX2_init_62 ?_
      refine lv_icmp_ge (tgt := 85) hx hb dX2_init_63 (by decide) (fun c => ?_) (fun c => absurd (by rw [hiv]; decide) c)
      refine lv_iconst (v := 0) hx hb dX2_init_85 (by decide) ?_
      refine lv_istore_n (lv' := [(1, .int 0), (0, .ref a)]) hx hb dX2_init_86 rfl hl (by decide) rfl (fun ls hl => ?_)
      have hBp : zblk D cy b0 ad1 E1 (t + 1) (t + 1 + 1) := by
        refine zblk_one ?_
        rw [hEa, wE_12 (wk_2_0 hk)]
        have hfe : f = (fun j => if j < 12 then some (ad1 (t + 1 + 14 + 2 * j)) else none) := by
          funext k
          by_cases h9 : k < 12
          · rw [if_pos h9]; exact hf1 k h9
          · rw [if_neg h9]; exact hf2 k (by omega)
        rw [hfe]
      refine W.widen (k := 38 + 7 * 0) (n := 350 + 102 * 0) (by omega) (by omega) ?_
      exact L87 10 0 u 0 (fun _ => none) ad1 E1 H locs ls rfl (by omega) nI_0.symm hAd hEo hA0 hA1 hA2 hA3 hA5 hA12 hE0 hE2 (fun k h9 => absurd h9 (Nat.not_lt_zero k)) (fun _ _ => rfl) hBp hBg hP hD hS hl
    | succ nn ih =>
      intro j u i1 f ad1 E1 H locs ls hj hu hiv hAd hEo hA0 hA1 hA2 hA3 hA5 hA12 hE0 hE2 hEa hf1 hf2 hBg hP hD hS hl
      have hjN : j < 12 := by omega
      refine lv_iload_n hx hb dX2_init_57 rfl (lv_at hl 0 rfl) ?_
      refine lv_aload_n hx hb dX2_init_58 rfl (lv_at hl 1 rfl) ?_
      refine y_get (j := 0) hx hb hts hi2 hown hK hP (by omega : t < u) hA0 hE0 rfl (by decide) (hts (.fieldLink RX2 11 "LeaseOffice$Office" "persons" "[LLeaseOffice$Person;") (by decide +kernel)) rfl dX2_init_59 ?_
      refine y_alen 2 (v := 12) hx hb hK hP (by omega : t + 1 < u) hA1 hEa rfl rfl dX2_init_62 ?_
      refine lv_icmp_ge (tgt := 85) hx hb dX2_init_63 (by decide) (fun c => absurd c (by rw [hiv]; exact nI_ge hjN (by decide))) (fun _ => ?_)
      refine lv_aload_n hx hb dX2_init_66 rfl (lv_at hl 1 rfl) ?_
      refine y_get (j := 0) hx hb hts hi2 hown hK hP (by omega : t < u) hA0 hE0 rfl (by decide) (hts (.fieldLink RX2 11 "LeaseOffice$Office" "persons" "[LLeaseOffice$Person;") (by decide +kernel)) rfl dX2_init_67 ?_
      refine lv_iload_n hx hb dX2_init_70 rfl (lv_at hl 0 rfl) ?_
      refine y_new (ci := 3) (fs := [.int 0, .int 0, .int 0, .int 0, .int 0, .null]) hx hb hts hi3 tyX3 tyX3_ok hown (hts (.classLink RX2 9 RX3) (by decide +kernel)) (hts (.instantiable RX3 6) (by decide +kernel)) (hts (.initialized RX3) (by decide +kernel)) hK hP hD hS hb0 rfl (fun j hj => by rcases (show j = 0 ∨ j = 1 ∨ j = 2 ∨ j = 3 ∨ j = 4 ∨ j = 5 by omega) with rfl | rfl | rfl | rfl | rfl | rfl <;> rfl) (by show _ ≤ 108; omega) (by show _ ≤ 1370; omega) dX2_init_71 (fun q ad2 E2 H g1 g2 g3 g4 hP hD hS => ?_)
      refine lv_dup hx hb dX2_init_74 rfl ?_
      have hku : wK u = 3 := by rw [hu]; exact wk_2_p hk j hjN
      have hE2u : E2 u = .inr (3, [.int 0, .int 0, .int 0, .int 0, .int 0, .null]) := g4
      refine y_callv (y_runIN (As := []) (rest := [.ref q, .int i1, .ref q1]) ⟨hx, hb, hml, hown, hts⟩ (c_X3_init l D cy b0 ad2 E2 u q hku g2 hE2u) (⟨va_cnB 0 hts gX2_init_X3_init_n23 rfl rfl rfl hX.2.1 (hts (.initialized RX3) (by decide +kernel)) (by decide +kernel) ⟨Nat.le_of_ble_eq_true rfl, Nat.le_of_ble_eq_true rfl⟩, rfl, (hts (.instanceMethod yX3_init) (by decide +kernel))⟩) hb0 hS hK hX hP hD rfl hl.1 rfl (Nat.le_of_ble_eq_true rfl) dX2_init_75 ⟨by show _ ≤ 108; omega, by show _ ≤ 1370; omega⟩) hS (fun ad3 E3 H locs hpo hP hD hS => ?_)
      obtain ⟨k1, k3, hBn⟩ := hpo
      have k1 : ∀ i, i < u + 1 → ad3 i = ad2 i := k1
      have k3 : ∀ i, i < u → E3 i = E2 i := k3
      have hBn : zblk D cy b0 ad3 E3 u (u + 2) := hBn
      have hP : va_P D vwCl (zN ad3 (u + 2) E3) H := hP
      have hD : va_D (zB b0) (zN ad3 (u + 2) E3) := hD
      have m1 : ∀ i, i < u → ad3 i = ad1 i := fun i hi => (k1 i (by omega)).trans (g1 i hi)
      have m3 : ∀ i, i < u → E3 i = E1 i := fun i hi => (k3 i hi).trans (g3 i hi)
      have hq : ad3 u = q := (k1 u (by omega)).trans g2
      have hEu : E3 u = .inr (3, wO (D, ad3, cy, b0) wI0 zJ0 u 3) := (hBn u (by omega) (by omega)).trans (wE_o hku (by decide))
      have hin : vp_in i1 12 := by rw [hiv]; exact vp_in_nI hjN (by decide)
      refine y_aast (t0 := 2) hx hb hK hP hD hS (by omega : t + 1 < u + 2) ((m1 (t + 1) (by omega)).trans hA1) ((m3 (t + 1) (by omega)).trans hEa) rfl (by omega : u < u + 2) hq hEu rfl hin rfl dX2_init_78 (fun E4 H locs n3 n4 hP hD hS => ?_)
      refine lv_iinc (v := i1 + 1) (lv' := [(1, .int (i1 + 1)), (0, .ref a)]) hx hb dX2_init_79 hl (k := 0) rfl rfl (by decide) rfl (fun ls hl => ?_)
      refine lv_goto (tgt := 57) hx hb dX2_init_82 (by decide) ?_
      have o3 : ∀ i, i < u → i ≠ t + 1 → E4 i = E1 i := fun i hi hne => (n3 i hne).trans (m3 i hi)
      have hcl : i1.toNatClampNeg = j := by rw [hiv]; exact nI_clamp (by omega)
      rw [hcl] at n4
      refine W.widen (k := 14 + 2 * (j + 1)) (n := 158 + 16 * (j + 1)) (by omega) (by omega) ?_
      have hfj : va_up f j (some q) j = some (ad3 (t + 15 + 2 * j)) := (if_pos rfl).trans (by rw [← hu, hq])
      exact ih (j + 1) (u + 2) (i1 + 1) _ ad3 E4 H locs ls (by omega) (by omega) (by rw [hiv]; exact nI_1 j) (fun i hi => (m1 i (by omega)).trans (hAd i hi)) (fun i hi => (o3 i (by omega) (by omega)).trans (hEo i hi)) ((m1 (t) (by omega)).trans hA0) ((m1 (t + 1) (by omega)).trans hA1) ((m1 (t + 2) (by omega)).trans hA2) ((m1 (t + 3) (by omega)).trans hA3) ((m1 (t + 5) (by omega)).trans hA5) ((m1 (t + 12) (by omega)).trans hA12) ((o3 (t) (by omega) (by omega)).trans hE0) ((o3 (t + 2) (by omega) (by omega)).trans hE2) n4 (fun k hk9 => (Nat.lt_or_ge k j).elim (fun h9 => (if_neg (by omega)).trans ((hf1 k h9).trans (by rw [m1 (t + 15 + 2 * k) (by omega)]))) (fun h9 => by rw [(show k = j by omega)]; exact hfj)) (fun k hk9 => (if_neg (by omega)).trans (hf2 k (by omega))) (zblk_app (zblk_keep (N := u) hBg (by omega) (fun i h1 h2 => by have hh := cl_2g hk j (by omega) (i - (t + 3)) (by omega); rw [show t + 3 + (i - (t + 3)) = i by omega] at hh; omega) m1 (fun i h1 h2 => o3 i (by omega) (by omega))) (zblk_keep (N := u + 2) hBn (by omega) (fun i h1 h2 => by have hh := cl_3 hku (i - (u)) (by omega); rw [show u + (i - (u)) = i by omega] at hh; omega) (fun _ _ => rfl) (fun i h1 h2 => n3 i (by omega)))) hP hD hS hl
  refine lv_iconst (v := 0) hx hb dX2_init_55 (by decide) ?_
  refine lv_istore_n (lv' := [(1, .int 0), (0, .ref a)]) hx hb dX2_init_56 rfl hl (by decide) rfl (fun ls hl => ?_)
  refine W.widen (k := 14 + 2 * 0) (n := 158 + 16 * 0) (Nat.le_of_ble_eq_true rfl) (Nat.le_of_ble_eq_true rfl) ?_
  exact L57 12 0 (t + 15) 0 (fun _ => none) ad12 E13 H locs ls rfl rfl nI_0.symm hAd hEo hA0 hA1 hA2 hA3 hA5 hA12 hE0 hE2 hE1 (fun k h9 => absurd h9 (Nat.not_lt_zero k)) (fun _ _ => rfl) (zblk_app hB3 (zblk_app hB5 hB12)) hP hD hS hl
set_option maxRecDepth 100000 in
set_option maxHeartbeats 8000000 in
theorem c_X6_init (l : Launch) (D : va_G) (cy : Nat → ClassId) (b0 : Nat) (ad : Nat → Nat) (E : Nat → va_E) (t a : Nat) (hk : wK t = 6) (hA0 : ad t = a) (hE0 : E t = .inr (6, [.null, .null])) : Met l yX6_init wsX6_init (zrn 4 112 1399 84) (va_Pc [.ref a] (zNS D cy b0 ad (t + 1) E)) (zQn D cy b0 (t + 113) (fun u => (∀ i, i < t + 1 → u.1 i = ad i) ∧ (∀ i, i < t → u.2 i = E i) ∧ zblk D cy b0 u.1 u.2 t (t + 113))) 112 1399 (zB b0) := by
  refine zMetN (cc := cX6_init) (nL := 1) (ret := none) (by decide) rfl (Nat.le_of_ble_eq_true rfl) ?_
  intro p e s m args below meth c H locs ls F hmn hK hX hb0 hP hD hS hl
  have hmn : meth.name = "<init>" := hmn.symm
  obtain ⟨hx, hb, hr, hml, hts, hown, hlocks⟩ := F
  have hown : s.vm.findClass RX6 = some m.cls := hown
  have hl : lv_has ls 1 [(0, .ref a)] := hl
  have hi0 : ∀ w ∈ wsX00, w ∈ wsX6_init := fun _ h => List.mem_cons_of_mem _ (List.mem_append_left _ (List.mem_append_left _ (List.mem_append_left _ (List.mem_append_right _ h))))
  have hi2 : ∀ w ∈ wsX20, w ∈ wsX6_init := fun _ h => List.mem_cons_of_mem _ (List.mem_append_left _ (List.mem_append_left _ (List.mem_append_left _ (List.mem_append_left _ (List.mem_append_left _ (List.mem_append_right _ h))))))
  have hi6 : ∀ w ∈ wsX60, w ∈ wsX6_init := fun _ h => List.mem_cons_of_mem _ (List.mem_append_left _ (List.mem_append_left _ (List.mem_append_left _ (List.mem_append_left _ (List.mem_append_right _ h)))))
  have hAd : ∀ i, i < t + 1 → ad i = ad i := fun _ _ => rfl
  have hEo : ∀ i, i < t → E i = E i := fun _ _ => rfl
  have ht : t + 113 ≤ 359 := wl_6 hk
  refine lv_aload_n hx hb dX6_init_0 rfl (lv_at hl 0 rfl) ?_
  refine W.objInit hx hb hown (hts (.methodLink RX6 3 objectInit) (by decide +kernel)) (hts (.instanceMethod objectInit) (by decide +kernel)) (hts (.code objectInit ⟨#[0xb1]⟩ 1 none) (by decide +kernel)) rfl (by rw [hml]; exact hl.1) rfl dX6_init_1 (Nat.le_of_ble_eq_true rfl) (Nat.le_of_ble_eq_true rfl) ?_
  refine W.eq (g2 := F0 m 4 ls []) rfl ?_
  refine lv_aload_n hx hb dX6_init_4 rfl (lv_at hl 0 rfl) ?_
  refine y_new (ci := 2) (fs := [.null, .null, .null, .null, .null, .int 0, .int 0, .int 0, .int 0, .int 0, .int 0]) hx hb hts hi2 tyX2 tyX2_ok hown (hts (.classLink RX6 9 RX2) (by decide +kernel)) (hts (.instantiable RX2 11) (by decide +kernel)) (hts (.initialized RX2) (by decide +kernel)) hK hP hD hS hb0 rfl (fun j hj => by rcases (show j = 0 ∨ j = 1 ∨ j = 2 ∨ j = 3 ∨ j = 4 ∨ j = 5 ∨ j = 6 ∨ j = 7 ∨ j = 8 ∨ j = 9 ∨ j = 10 by omega) with rfl | rfl | rfl | rfl | rfl | rfl | rfl | rfl | rfl | rfl | rfl <;> rfl) (Nat.le_of_ble_eq_true rfl) (Nat.le_of_ble_eq_true rfl) dX6_init_5 (fun q1 ad1 E1 H g1 g2 g3 g4 hP hD hS => ?_)
  have hAd : ∀ i, i < t + 1 → ad1 i = ad i := fun i hi => (g1 i (by omega)).trans (hAd i hi)
  have hEo : ∀ i, i < t → E1 i = E i := fun i hi => (g3 i (by omega)).trans (hEo i hi)
  have hA0 : ad1 (t) = a := (g1 (t) (by omega)).trans hA0
  have hE0 : E1 (t) = .inr (6, [.null, .null]) := (g3 (t) (by omega)).trans hE0
  have hA1 : ad1 (t + 1) = q1 := g2
  have hE1 : E1 (t + 1) = .inr (2, [.null, .null, .null, .null, .null, .int 0, .int 0, .int 0, .int 0, .int 0, .int 0]) := g4
  have hP : va_P D vwCl (zN ad1 (t + 2) E1) H := hP
  have hD : va_D (zB b0) (zN ad1 (t + 2) E1) := hD
  refine W.widen (k := 1) (n := 11) (Nat.le_of_ble_eq_true rfl) (Nat.le_of_ble_eq_true rfl) ?_
  refine lv_dup hx hb dX6_init_8 rfl ?_
  refine y_callv (y_runI (As := []) (rest := [.ref q1, .ref a]) ⟨hx, hb, hml, hown, hts⟩ (c_X2_init l D cy b0 ad1 E1 (t + 1) q1 (wf_6a hk) hA1 hE1) (cwI 0 hts gX6_init_X2_init rfl rfl rfl (hts (.initialized RX2) (by decide +kernel)) (hts (.methodLink RX6 11 yX2_init) (by decide +kernel)) (hts (.instanceMethod yX2_init) (by decide +kernel)) rfl (by decide +kernel) ⟨Nat.le_of_ble_eq_true rfl, Nat.le_of_ble_eq_true rfl⟩) hb0 hS hK hX hP hD rfl hl.1 rfl (Nat.le_of_ble_eq_true rfl) dX6_init_9 ⟨Nat.le_of_ble_eq_true rfl, Nat.le_of_ble_eq_true rfl⟩) hS (fun ad2 E2 H locs hpo hP hD hS => ?_)
  obtain ⟨g1, g3, hBn⟩ := hpo
  have g1 : ∀ i, i < t + 2 → ad2 i = ad1 i := g1
  have g3 : ∀ i, i < t + 1 → E2 i = E1 i := g3
  have hAd : ∀ i, i < t + 1 → ad2 i = ad i := fun i hi => (g1 i (by omega)).trans (hAd i hi)
  have hEo : ∀ i, i < t → E2 i = E i := fun i hi => (g3 i (by omega)).trans (hEo i hi)
  have hA0 : ad2 (t) = a := (g1 (t) (by omega)).trans hA0
  have hE0 : E2 (t) = .inr (6, [.null, .null]) := (g3 (t) (by omega)).trans hE0
  have hA1 : ad2 (t + 1) = q1 := (g1 (t + 1) (by omega)).trans hA1
  have hB1 : zblk D cy b0 ad2 E2 (t + 1) (t + 110) := hBn
  have hP : va_P D vwCl (zN ad2 (t + 110) E2) H := hP
  have hD : va_D (zB b0) (zN ad2 (t + 110) E2) := hD
  refine W.widen (k := 109) (n := 1381) (Nat.le_of_ble_eq_true rfl) (Nat.le_of_ble_eq_true rfl) ?_
  refine y_putF (j := 0) (fs2 := [.ref q1, .null]) (ty0 := tyX6) (ty := .object "LeaseOffice$Office") hmn hx hb hts hi6 hown hK hP hD hS (by omega : t < t + 110) hA0 hE0 rfl tyX6_ok nmX6 (by decide) (hts (.fieldLink RX6 12 "LeaseOffice$Thought" "office" "LLeaseOffice$Office;") (by decide +kernel)) rfl rfl (by decide +kernel) rfl rfl (Nat.le_of_ble_eq_true rfl) rfl dX6_init_12 (fun E3 H locs g3 g4 hP hD hS => ?_)
  have hEo : ∀ i, i < t → E3 i = E i := fun i hi => (g3 i (by omega)).trans (hEo i hi)
  have hB1 : zblk D cy b0 ad2 E3 (t + 1) (t + 110) := zblk_keep (N := t + 110) hB1 (by omega) (fun i h1 h2 => by have hh := cl_6a hk (i - (t + 1)) (by omega); rw [show t + 1 + (i - (t + 1)) = i by omega] at hh; omega) (fun j hj => rfl) (fun i h1 h2 => g3 i (by omega))
  have hE0 : E3 (t) = .inr (6, [.ref q1, .null]) := g4
  refine lv_aload_n hx hb dX6_init_15 rfl (lv_at hl 0 rfl) ?_
  refine y_new (ci := 0) (fs := [.null, .int 0]) hx hb hts hi0 tyX0 tyX0_ok hown (hts (.classLink RX6 18 RX0) (by decide +kernel)) (hts (.instantiable RX0 2) (by decide +kernel)) (hts (.initialized RX0) (by decide +kernel)) hK hP hD hS hb0 rfl (fun j hj => by rcases (show j = 0 ∨ j = 1 by omega) with rfl | rfl <;> rfl) (Nat.le_of_ble_eq_true rfl) (Nat.le_of_ble_eq_true rfl) dX6_init_16 (fun q4 ad4 E4 H g1 g2 g3 g4 hP hD hS => ?_)
  have hAd : ∀ i, i < t + 1 → ad4 i = ad i := fun i hi => (g1 i (by omega)).trans (hAd i hi)
  have hEo : ∀ i, i < t → E4 i = E i := fun i hi => (g3 i (by omega)).trans (hEo i hi)
  have hA0 : ad4 (t) = a := (g1 (t) (by omega)).trans hA0
  have hE0 : E4 (t) = .inr (6, [.ref q1, .null]) := (g3 (t) (by omega)).trans hE0
  have hA1 : ad4 (t + 1) = q1 := (g1 (t + 1) (by omega)).trans hA1
  have hB1 : zblk D cy b0 ad4 E4 (t + 1) (t + 110) := zblk_keep (N := t + 110) hB1 (by omega) (fun i h1 h2 => by have hh := cl_6a hk (i - (t + 1)) (by omega); rw [show t + 1 + (i - (t + 1)) = i by omega] at hh; omega) (fun j hj => g1 j (by omega)) (fun i h1 h2 => g3 i (by omega))
  have hA110 : ad4 (t + 110) = q4 := g2
  have hE110 : E4 (t + 110) = .inr (0, [.null, .int 0]) := g4
  have hP : va_P D vwCl (zN ad4 (t + 111) E4) H := hP
  have hD : va_D (zB b0) (zN ad4 (t + 111) E4) := hD
  refine W.widen (k := 110) (n := 1383) (Nat.le_of_ble_eq_true rfl) (Nat.le_of_ble_eq_true rfl) ?_
  refine lv_dup hx hb dX6_init_19 rfl ?_
  refine y_callv (y_runIN (As := []) (rest := [.ref q4, .ref a]) ⟨hx, hb, hml, hown, hts⟩ (c_X0_init l D cy b0 ad4 E4 (t + 110) q4 (wf_6b hk) hA110 hE110) (⟨va_cnB 0 hts gX6_init_X0_init_n20 rfl rfl rfl hX.2.2.2.2.1 (hts (.initialized RX0) (by decide +kernel)) (by decide +kernel) ⟨Nat.le_of_ble_eq_true rfl, Nat.le_of_ble_eq_true rfl⟩, rfl, (hts (.instanceMethod yX0_init) (by decide +kernel))⟩) hb0 hS hK hX hP hD rfl hl.1 rfl (Nat.le_of_ble_eq_true rfl) dX6_init_20 ⟨Nat.le_of_ble_eq_true rfl, Nat.le_of_ble_eq_true rfl⟩) hS (fun ad5 E5 H locs hpo hP hD hS => ?_)
  obtain ⟨g1, g3, hBn⟩ := hpo
  have g1 : ∀ i, i < t + 111 → ad5 i = ad4 i := g1
  have g3 : ∀ i, i < t + 110 → E5 i = E4 i := g3
  have hAd : ∀ i, i < t + 1 → ad5 i = ad i := fun i hi => (g1 i (by omega)).trans (hAd i hi)
  have hEo : ∀ i, i < t → E5 i = E i := fun i hi => (g3 i (by omega)).trans (hEo i hi)
  have hA0 : ad5 (t) = a := (g1 (t) (by omega)).trans hA0
  have hE0 : E5 (t) = .inr (6, [.ref q1, .null]) := (g3 (t) (by omega)).trans hE0
  have hA1 : ad5 (t + 1) = q1 := (g1 (t + 1) (by omega)).trans hA1
  have hB1 : zblk D cy b0 ad5 E5 (t + 1) (t + 110) := zblk_keep (N := t + 110) hB1 (by omega) (fun i h1 h2 => by have hh := cl_6a hk (i - (t + 1)) (by omega); rw [show t + 1 + (i - (t + 1)) = i by omega] at hh; omega) (fun j hj => g1 j (by omega)) (fun i h1 h2 => g3 i (by omega))
  have hA110 : ad5 (t + 110) = q4 := (g1 (t + 110) (by omega)).trans hA110
  have hB110 : zblk D cy b0 ad5 E5 (t + 110) (t + 113) := hBn
  have hP : va_P D vwCl (zN ad5 (t + 113) E5) H := hP
  have hD : va_D (zB b0) (zN ad5 (t + 113) E5) := hD
  refine W.widen (k := 112) (n := 1399) (Nat.le_of_ble_eq_true rfl) (Nat.le_of_ble_eq_true rfl) ?_
  refine y_putF (j := 1) (fs2 := [.ref q1, .ref q4]) (ty0 := tyX6) (ty := .object "LeaseOffice$Blame") hmn hx hb hts hi6 hown hK hP hD hS (by omega : t < t + 113) hA0 hE0 rfl tyX6_ok nmX6 (by decide) (hts (.fieldLink RX6 21 "LeaseOffice$Thought" "blame" "LLeaseOffice$Blame;") (by decide +kernel)) rfl rfl (by decide +kernel) rfl rfl (Nat.le_of_ble_eq_true rfl) rfl dX6_init_23 (fun E6 H locs g3 g4 hP hD hS => ?_)
  have hEo : ∀ i, i < t → E6 i = E i := fun i hi => (g3 i (by omega)).trans (hEo i hi)
  have hB1 : zblk D cy b0 ad5 E6 (t + 1) (t + 110) := zblk_keep (N := t + 113) hB1 (by omega) (fun i h1 h2 => by have hh := cl_6a hk (i - (t + 1)) (by omega); rw [show t + 1 + (i - (t + 1)) = i by omega] at hh; omega) (fun j hj => rfl) (fun i h1 h2 => g3 i (by omega))
  have hB110 : zblk D cy b0 ad5 E6 (t + 110) (t + 113) := zblk_keep (N := t + 113) hB110 (by omega) (fun i h1 h2 => by have hh := cl_6b hk (i - (t + 110)) (by omega); rw [show t + 110 + (i - (t + 110)) = i by omega] at hh; omega) (fun j hj => rfl) (fun i h1 h2 => g3 i (by omega))
  have hE0 : E6 (t) = .inr (6, [.ref q1, .ref q4]) := g4
  have hB0 : zblk D cy b0 ad5 E6 t (t + 1) := by
    refine zblk_one ?_
    rw [hE0, wE_o hk (by decide)]
    simp only [wO, hA1, hA110]
  exact y_vret ⟨hAd, hEo, zblk_app hB0 (zblk_app hB1 hB110)⟩ hx hb hr hlocks hb0 hK hX hP hD hS dX6_init_26
set_option maxRecDepth 100000 in
set_option maxHeartbeats 8000000 in
theorem c_X8_init (l : Launch) (D : va_G) (cy : Nat → ClassId) (b0 : Nat) (ad : Nat → Nat) (E : Nat → va_E) (a : Nat) (hA0 : ad 0 = a) (hE0 : E 0 = .inr (8, [.null, .null, .null, .null, .null, .null, .null, .null, .int 0])) : Met l yX8_init wsX8_init (zrn 5 358 4924 104) (va_Pc [.ref a] (zNS D cy b0 ad (1) E)) (zQn D cy b0 (359) (fun u => (∀ i, i < 1 → u.1 i = ad i) ∧ (∀ i, i < 0 → u.2 i = E i) ∧ zblk D cy b0 u.1 u.2 0 (359))) 358 4924 (zB b0) := by
  refine zMetN (cc := cX8_init) (nL := 2) (ret := none) (by decide) rfl (Nat.le_of_ble_eq_true rfl) ?_
  intro p e s m args below meth c H locs ls F hmn hK hX hb0 hP hD hS hl
  have hmn : meth.name = "<init>" := hmn.symm
  obtain ⟨hx, hb, hr, hml, hts, hown, hlocks⟩ := F
  have hown : s.vm.findClass RX8 = some m.cls := hown
  have hl : lv_has ls 2 [(0, .ref a)] := hl
  have hi1 : ∀ w ∈ wsX10, w ∈ wsX8_init := fun _ h => List.mem_cons_of_mem _ (List.mem_append_left _ (List.mem_append_left _ (List.mem_append_left _ (List.mem_append_left _ (List.mem_append_right _ h)))))
  have hi2 : ∀ w ∈ wsX20, w ∈ wsX8_init := fun _ h => List.mem_cons_of_mem _ (List.mem_append_left _ (List.mem_append_left _ (List.mem_append_left _ (List.mem_append_left _ (List.mem_append_left _ (List.mem_append_left _ (List.mem_append_right _ h)))))))
  have hi4 : ∀ w ∈ wsX40, w ∈ wsX8_init := fun _ h => List.mem_cons_of_mem _ (List.mem_append_right _ h)
  have hi5 : ∀ w ∈ wsX50, w ∈ wsX8_init := fun _ h => List.mem_cons_of_mem _ (List.mem_append_left _ (List.mem_append_left _ (List.mem_append_left _ (List.mem_append_left _ (List.mem_append_left _ (List.mem_append_right _ h))))))
  have hi6 : ∀ w ∈ wsX60, w ∈ wsX8_init := fun _ h => List.mem_cons_of_mem _ (List.mem_append_left _ (List.mem_append_left _ (List.mem_append_left _ (List.mem_append_left _ (List.mem_append_left _ (List.mem_append_left _ (List.mem_append_left _ (List.mem_append_left _ (List.mem_append_right _ h)))))))))
  have hi8 : ∀ w ∈ wsX80, w ∈ wsX8_init := fun _ h => List.mem_cons_of_mem _ (List.mem_append_left _ (List.mem_append_left _ (List.mem_append_left _ (List.mem_append_left _ (List.mem_append_left _ (List.mem_append_left _ (List.mem_append_left _ (List.mem_append_right _ h))))))))
  have hAd : ∀ i, i < 1 → ad i = ad i := fun _ _ => rfl
  have hEo : ∀ i, i < 0 → E i = E i := fun _ _ => rfl
  refine lv_aload_n hx hb dX8_init_0 rfl (lv_at hl 0 rfl) ?_
  refine W.objInit hx hb hown (hts (.methodLink RX8 3 objectInit) (by decide +kernel)) (hts (.instanceMethod objectInit) (by decide +kernel)) (hts (.code objectInit ⟨#[0xb1]⟩ 1 none) (by decide +kernel)) rfl (by rw [hml]; exact hl.1) rfl dX8_init_1 (Nat.le_of_ble_eq_true rfl) (Nat.le_of_ble_eq_true rfl) ?_
  refine W.eq (g2 := F0 m 4 ls []) rfl ?_
  refine lv_aload_n hx hb dX8_init_4 rfl (lv_at hl 0 rfl) ?_
  refine y_new (ci := 6) (fs := [.null, .null]) hx hb hts hi6 tyX6 tyX6_ok hown (hts (.classLink RX8 9 RX6) (by decide +kernel)) (hts (.instantiable RX6 2) (by decide +kernel)) (hts (.initialized RX6) (by decide +kernel)) hK hP hD hS hb0 rfl (fun j hj => by rcases (show j = 0 ∨ j = 1 by omega) with rfl | rfl <;> rfl) (Nat.le_of_ble_eq_true rfl) (Nat.le_of_ble_eq_true rfl) dX8_init_5 (fun q1 ad1 E1 H g1 g2 g3 g4 hP hD hS => ?_)
  have hAd : ∀ i, i < 1 → ad1 i = ad i := fun i hi => (g1 i (by omega)).trans (hAd i hi)
  have hEo : ∀ i, i < 0 → E1 i = E i := fun i hi => (g3 i (by omega)).trans (hEo i hi)
  have hA0 : ad1 (0) = a := (g1 (0) (by omega)).trans hA0
  have hE0 : E1 (0) = .inr (8, [.null, .null, .null, .null, .null, .null, .null, .null, .int 0]) := (g3 (0) (by omega)).trans hE0
  have hA1 : ad1 (1) = q1 := g2
  have hE1 : E1 (1) = .inr (6, [.null, .null]) := g4
  have hP : va_P D vwCl (zN ad1 (2) E1) H := hP
  have hD : va_D (zB b0) (zN ad1 (2) E1) := hD
  refine W.widen (k := 1) (n := 2) (Nat.le_of_ble_eq_true rfl) (Nat.le_of_ble_eq_true rfl) ?_
  refine lv_dup hx hb dX8_init_8 rfl ?_
  refine y_callv (y_runIN (As := []) (rest := [.ref q1, .ref a]) ⟨hx, hb, hml, hown, hts⟩ (c_X6_init l D cy b0 ad1 E1 1 q1 wkL_1 hA1 hE1) (⟨va_cnB 0 hts gX8_init_X6_init_n11 rfl rfl rfl hX.2.2.2.2.2.1 (hts (.initialized RX6) (by decide +kernel)) (by decide +kernel) ⟨Nat.le_of_ble_eq_true rfl, Nat.le_of_ble_eq_true rfl⟩, rfl, (hts (.instanceMethod yX6_init) (by decide +kernel))⟩) hb0 hS hK hX hP hD rfl hl.1 rfl (Nat.le_of_ble_eq_true rfl) dX8_init_9 ⟨Nat.le_of_ble_eq_true rfl, Nat.le_of_ble_eq_true rfl⟩) hS (fun ad2 E2 H locs hpo hP hD hS => ?_)
  obtain ⟨g1, g3, hBn⟩ := hpo
  have g1 : ∀ i, i < 2 → ad2 i = ad1 i := g1
  have g3 : ∀ i, i < 1 → E2 i = E1 i := g3
  have hAd : ∀ i, i < 1 → ad2 i = ad i := fun i hi => (g1 i (by omega)).trans (hAd i hi)
  have hEo : ∀ i, i < 0 → E2 i = E i := fun i hi => (g3 i (by omega)).trans (hEo i hi)
  have hA0 : ad2 (0) = a := (g1 (0) (by omega)).trans hA0
  have hE0 : E2 (0) = .inr (8, [.null, .null, .null, .null, .null, .null, .null, .null, .int 0]) := (g3 (0) (by omega)).trans hE0
  have hA1 : ad2 (1) = q1 := (g1 (1) (by omega)).trans hA1
  have hB1 : zblk D cy b0 ad2 E2 (1) (114) := hBn
  have hP : va_P D vwCl (zN ad2 (114) E2) H := hP
  have hD : va_D (zB b0) (zN ad2 (114) E2) := hD
  refine W.widen (k := 113) (n := 1401) (Nat.le_of_ble_eq_true rfl) (Nat.le_of_ble_eq_true rfl) ?_
  refine y_putF (j := 0) (fs2 := [.ref q1, .null, .null, .null, .null, .null, .null, .null, .int 0]) (ty0 := tyX8) (ty := .object "LeaseOffice$Thought") hmn hx hb hts hi8 hown hK hP hD hS (by omega : 0 < 114) hA0 hE0 rfl tyX8_ok nmX8 (by decide) (hts (.fieldLink RX8 12 "LeaseOffice" "thought" "LLeaseOffice$Thought;") (by decide +kernel)) rfl rfl (by decide +kernel) rfl rfl (Nat.le_of_ble_eq_true rfl) rfl dX8_init_12 (fun E3 H locs g3 g4 hP hD hS => ?_)
  have hEo : ∀ i, i < 0 → E3 i = E i := fun i hi => (g3 i (by omega)).trans (hEo i hi)
  have hB1 : zblk D cy b0 ad2 E3 (1) (114) := zblk_keep (N := 114) hB1 (by omega) (fun i h1 h2 => Nat.lt_of_lt_of_le (clX_1 i h1 h2) (by omega)) (fun j hj => rfl) (fun i h1 h2 => g3 i (by omega))
  have hE0 : E3 (0) = .inr (8, [.ref q1, .null, .null, .null, .null, .null, .null, .null, .int 0]) := g4
  refine lv_aload_n hx hb dX8_init_15 rfl (lv_at hl 0 rfl) ?_
  refine lv_aload_n hx hb dX8_init_16 rfl (lv_at hl 0 rfl) ?_
  refine y_get (j := 0) hx hb hts hi8 hown hK hP (by omega : 0 < 114) hA0 hE0 rfl (by decide) (hts (.fieldLink RX8 12 "LeaseOffice" "thought" "LLeaseOffice$Thought;") (by decide +kernel)) rfl dX8_init_17 ?_
  obtain ⟨u2, hA2⟩ : ∃ x, ad2 2 = x := ⟨_, rfl⟩
  have hE1 : E3 1 = .inr (6, [.ref (ad2 (1+1)), .ref (ad2 (1+110))]) := (hB1 1 (by decide) (by decide)).trans (wE_o wkL_1 (by decide))
  have hEe : E3 1 = .inr (6, [.ref u2, .ref (ad2 (1+110))]) := by rw [hE1, ← hA2]
  refine y_get (j := 0) hx hb hts hi6 hown hK hP (by omega : 1 < 114) hA1 hEe rfl (by decide) (hts (.fieldLink RX8 16 "LeaseOffice$Thought" "office" "LLeaseOffice$Office;") (by decide +kernel)) rfl dX8_init_20 ?_
  refine y_putF (j := 1) (fs2 := [.ref q1, .ref u2, .null, .null, .null, .null, .null, .null, .int 0]) (ty0 := tyX8) (ty := .object "LeaseOffice$Office") hmn hx hb hts hi8 hown hK hP hD hS (by omega : 0 < 114) hA0 hE0 rfl tyX8_ok nmX8 (by decide) (hts (.fieldLink RX8 20 "LeaseOffice" "office" "LLeaseOffice$Office;") (by decide +kernel)) rfl rfl (by decide +kernel) rfl rfl (Nat.le_of_ble_eq_true rfl) rfl dX8_init_23 (fun E4 H locs g3 g4 hP hD hS => ?_)
  have hEo : ∀ i, i < 0 → E4 i = E i := fun i hi => (g3 i (by omega)).trans (hEo i hi)
  have hB1 : zblk D cy b0 ad2 E4 (1) (114) := zblk_keep (N := 114) hB1 (by omega) (fun i h1 h2 => Nat.lt_of_lt_of_le (clX_1 i h1 h2) (by omega)) (fun j hj => rfl) (fun i h1 h2 => g3 i (by omega))
  have hE0 : E4 (0) = .inr (8, [.ref q1, .ref u2, .null, .null, .null, .null, .null, .null, .int 0]) := g4
  refine lv_aload_n hx hb dX8_init_26 rfl (lv_at hl 0 rfl) ?_
  refine y_new (ci := 2) (fs := [.null, .null, .null, .null, .null, .int 0, .int 0, .int 0, .int 0, .int 0, .int 0]) hx hb hts hi2 tyX2 tyX2_ok hown (hts (.classLink RX8 21 RX2) (by decide +kernel)) (hts (.instantiable RX2 11) (by decide +kernel)) (hts (.initialized RX2) (by decide +kernel)) hK hP hD hS hb0 rfl (fun j hj => by rcases (show j = 0 ∨ j = 1 ∨ j = 2 ∨ j = 3 ∨ j = 4 ∨ j = 5 ∨ j = 6 ∨ j = 7 ∨ j = 8 ∨ j = 9 ∨ j = 10 by omega) with rfl | rfl | rfl | rfl | rfl | rfl | rfl | rfl | rfl | rfl | rfl <;> rfl) (Nat.le_of_ble_eq_true rfl) (Nat.le_of_ble_eq_true rfl) dX8_init_27 (fun q5 ad5 E5 H g1 g2 g3 g4 hP hD hS => ?_)
  have hAd : ∀ i, i < 1 → ad5 i = ad i := fun i hi => (g1 i (by omega)).trans (hAd i hi)
  have hEo : ∀ i, i < 0 → E5 i = E i := fun i hi => (g3 i (by omega)).trans (hEo i hi)
  have hA0 : ad5 (0) = a := (g1 (0) (by omega)).trans hA0
  have hE0 : E5 (0) = .inr (8, [.ref q1, .ref u2, .null, .null, .null, .null, .null, .null, .int 0]) := (g3 (0) (by omega)).trans hE0
  have hA1 : ad5 (1) = q1 := (g1 (1) (by omega)).trans hA1
  have hA2 : ad5 (2) = u2 := (g1 (2) (by omega)).trans hA2
  have hB1 : zblk D cy b0 ad5 E5 (1) (114) := zblk_keep (N := 114) hB1 (by omega) (fun i h1 h2 => Nat.lt_of_lt_of_le (clX_1 i h1 h2) (by omega)) (fun j hj => g1 j (by omega)) (fun i h1 h2 => g3 i (by omega))
  have hA114 : ad5 (114) = q5 := g2
  have hE114 : E5 (114) = .inr (2, [.null, .null, .null, .null, .null, .int 0, .int 0, .int 0, .int 0, .int 0, .int 0]) := g4
  have hP : va_P D vwCl (zN ad5 (115) E5) H := hP
  have hD : va_D (zB b0) (zN ad5 (115) E5) := hD
  refine W.widen (k := 114) (n := 1412) (Nat.le_of_ble_eq_true rfl) (Nat.le_of_ble_eq_true rfl) ?_
  refine lv_dup hx hb dX8_init_30 rfl ?_
  refine y_callv (y_runI (As := []) (rest := [.ref q5, .ref a]) ⟨hx, hb, hml, hown, hts⟩ (c_X2_init l D cy b0 ad5 E5 114 q5 wkL_114 hA114 hE114) (cwI 0 hts gX8_init_X2_init rfl rfl rfl (hts (.initialized RX2) (by decide +kernel)) (hts (.methodLink RX8 23 yX2_init) (by decide +kernel)) (hts (.instanceMethod yX2_init) (by decide +kernel)) rfl (by decide +kernel) ⟨Nat.le_of_ble_eq_true rfl, Nat.le_of_ble_eq_true rfl⟩) hb0 hS hK hX hP hD rfl hl.1 rfl (Nat.le_of_ble_eq_true rfl) dX8_init_31 ⟨Nat.le_of_ble_eq_true rfl, Nat.le_of_ble_eq_true rfl⟩) hS (fun ad6 E6 H locs hpo hP hD hS => ?_)
  obtain ⟨g1, g3, hBn⟩ := hpo
  have g1 : ∀ i, i < 115 → ad6 i = ad5 i := g1
  have g3 : ∀ i, i < 114 → E6 i = E5 i := g3
  have hAd : ∀ i, i < 1 → ad6 i = ad i := fun i hi => (g1 i (by omega)).trans (hAd i hi)
  have hEo : ∀ i, i < 0 → E6 i = E i := fun i hi => (g3 i (by omega)).trans (hEo i hi)
  have hA0 : ad6 (0) = a := (g1 (0) (by omega)).trans hA0
  have hE0 : E6 (0) = .inr (8, [.ref q1, .ref u2, .null, .null, .null, .null, .null, .null, .int 0]) := (g3 (0) (by omega)).trans hE0
  have hA1 : ad6 (1) = q1 := (g1 (1) (by omega)).trans hA1
  have hA2 : ad6 (2) = u2 := (g1 (2) (by omega)).trans hA2
  have hB1 : zblk D cy b0 ad6 E6 (1) (114) := zblk_keep (N := 114) hB1 (by omega) (fun i h1 h2 => Nat.lt_of_lt_of_le (clX_1 i h1 h2) (by omega)) (fun j hj => g1 j (by omega)) (fun i h1 h2 => g3 i (by omega))
  have hA114 : ad6 (114) = q5 := (g1 (114) (by omega)).trans hA114
  have hB114 : zblk D cy b0 ad6 E6 (114) (223) := hBn
  have hP : va_P D vwCl (zN ad6 (223) E6) H := hP
  have hD : va_D (zB b0) (zN ad6 (223) E6) := hD
  refine W.widen (k := 222) (n := 2782) (Nat.le_of_ble_eq_true rfl) (Nat.le_of_ble_eq_true rfl) ?_
  refine y_putF (j := 2) (fs2 := [.ref q1, .ref u2, .ref q5, .null, .null, .null, .null, .null, .int 0]) (ty0 := tyX8) (ty := .object "LeaseOffice$Office") hmn hx hb hts hi8 hown hK hP hD hS (by omega : 0 < 223) hA0 hE0 rfl tyX8_ok nmX8 (by decide) (hts (.fieldLink RX8 24 "LeaseOffice" "imageKept" "LLeaseOffice$Office;") (by decide +kernel)) rfl rfl (by decide +kernel) rfl rfl (Nat.le_of_ble_eq_true rfl) rfl dX8_init_34 (fun E7 H locs g3 g4 hP hD hS => ?_)
  have hEo : ∀ i, i < 0 → E7 i = E i := fun i hi => (g3 i (by omega)).trans (hEo i hi)
  have hB1 : zblk D cy b0 ad6 E7 (1) (114) := zblk_keep (N := 223) hB1 (by omega) (fun i h1 h2 => Nat.lt_of_lt_of_le (clX_1 i h1 h2) (by omega)) (fun j hj => rfl) (fun i h1 h2 => g3 i (by omega))
  have hB114 : zblk D cy b0 ad6 E7 (114) (223) := zblk_keep (N := 223) hB114 (by omega) (fun i h1 h2 => Nat.lt_of_lt_of_le (clX_114 i h1 h2) (by omega)) (fun j hj => rfl) (fun i h1 h2 => g3 i (by omega))
  have hE0 : E7 (0) = .inr (8, [.ref q1, .ref u2, .ref q5, .null, .null, .null, .null, .null, .int 0]) := g4
  refine lv_aload_n hx hb dX8_init_37 rfl (lv_at hl 0 rfl) ?_
  refine y_new (ci := 2) (fs := [.null, .null, .null, .null, .null, .int 0, .int 0, .int 0, .int 0, .int 0, .int 0]) hx hb hts hi2 tyX2 tyX2_ok hown (hts (.classLink RX8 21 RX2) (by decide +kernel)) (hts (.instantiable RX2 11) (by decide +kernel)) (hts (.initialized RX2) (by decide +kernel)) hK hP hD hS hb0 rfl (fun j hj => by rcases (show j = 0 ∨ j = 1 ∨ j = 2 ∨ j = 3 ∨ j = 4 ∨ j = 5 ∨ j = 6 ∨ j = 7 ∨ j = 8 ∨ j = 9 ∨ j = 10 by omega) with rfl | rfl | rfl | rfl | rfl | rfl | rfl | rfl | rfl | rfl | rfl <;> rfl) (Nat.le_of_ble_eq_true rfl) (Nat.le_of_ble_eq_true rfl) dX8_init_38 (fun q8 ad8 E8 H g1 g2 g3 g4 hP hD hS => ?_)
  have hAd : ∀ i, i < 1 → ad8 i = ad i := fun i hi => (g1 i (by omega)).trans (hAd i hi)
  have hEo : ∀ i, i < 0 → E8 i = E i := fun i hi => (g3 i (by omega)).trans (hEo i hi)
  have hA0 : ad8 (0) = a := (g1 (0) (by omega)).trans hA0
  have hE0 : E8 (0) = .inr (8, [.ref q1, .ref u2, .ref q5, .null, .null, .null, .null, .null, .int 0]) := (g3 (0) (by omega)).trans hE0
  have hA1 : ad8 (1) = q1 := (g1 (1) (by omega)).trans hA1
  have hA2 : ad8 (2) = u2 := (g1 (2) (by omega)).trans hA2
  have hA114 : ad8 (114) = q5 := (g1 (114) (by omega)).trans hA114
  have hB1 : zblk D cy b0 ad8 E8 (1) (114) := zblk_keep (N := 223) hB1 (by omega) (fun i h1 h2 => Nat.lt_of_lt_of_le (clX_1 i h1 h2) (by omega)) (fun j hj => g1 j (by omega)) (fun i h1 h2 => g3 i (by omega))
  have hB114 : zblk D cy b0 ad8 E8 (114) (223) := zblk_keep (N := 223) hB114 (by omega) (fun i h1 h2 => Nat.lt_of_lt_of_le (clX_114 i h1 h2) (by omega)) (fun j hj => g1 j (by omega)) (fun i h1 h2 => g3 i (by omega))
  have hA223 : ad8 (223) = q8 := g2
  have hE223 : E8 (223) = .inr (2, [.null, .null, .null, .null, .null, .int 0, .int 0, .int 0, .int 0, .int 0, .int 0]) := g4
  have hP : va_P D vwCl (zN ad8 (224) E8) H := hP
  have hD : va_D (zB b0) (zN ad8 (224) E8) := hD
  refine W.widen (k := 223) (n := 2793) (Nat.le_of_ble_eq_true rfl) (Nat.le_of_ble_eq_true rfl) ?_
  refine lv_dup hx hb dX8_init_41 rfl ?_
  refine y_callv (y_runI (As := []) (rest := [.ref q8, .ref a]) ⟨hx, hb, hml, hown, hts⟩ (c_X2_init l D cy b0 ad8 E8 223 q8 wkL_223 hA223 hE223) (cwI 0 hts gX8_init_X2_init rfl rfl rfl (hts (.initialized RX2) (by decide +kernel)) (hts (.methodLink RX8 23 yX2_init) (by decide +kernel)) (hts (.instanceMethod yX2_init) (by decide +kernel)) rfl (by decide +kernel) ⟨Nat.le_of_ble_eq_true rfl, Nat.le_of_ble_eq_true rfl⟩) hb0 hS hK hX hP hD rfl hl.1 rfl (Nat.le_of_ble_eq_true rfl) dX8_init_42 ⟨Nat.le_of_ble_eq_true rfl, Nat.le_of_ble_eq_true rfl⟩) hS (fun ad9 E9 H locs hpo hP hD hS => ?_)
  obtain ⟨g1, g3, hBn⟩ := hpo
  have g1 : ∀ i, i < 224 → ad9 i = ad8 i := g1
  have g3 : ∀ i, i < 223 → E9 i = E8 i := g3
  have hAd : ∀ i, i < 1 → ad9 i = ad i := fun i hi => (g1 i (by omega)).trans (hAd i hi)
  have hEo : ∀ i, i < 0 → E9 i = E i := fun i hi => (g3 i (by omega)).trans (hEo i hi)
  have hA0 : ad9 (0) = a := (g1 (0) (by omega)).trans hA0
  have hE0 : E9 (0) = .inr (8, [.ref q1, .ref u2, .ref q5, .null, .null, .null, .null, .null, .int 0]) := (g3 (0) (by omega)).trans hE0
  have hA1 : ad9 (1) = q1 := (g1 (1) (by omega)).trans hA1
  have hA2 : ad9 (2) = u2 := (g1 (2) (by omega)).trans hA2
  have hA114 : ad9 (114) = q5 := (g1 (114) (by omega)).trans hA114
  have hB1 : zblk D cy b0 ad9 E9 (1) (114) := zblk_keep (N := 223) hB1 (by omega) (fun i h1 h2 => Nat.lt_of_lt_of_le (clX_1 i h1 h2) (by omega)) (fun j hj => g1 j (by omega)) (fun i h1 h2 => g3 i (by omega))
  have hB114 : zblk D cy b0 ad9 E9 (114) (223) := zblk_keep (N := 223) hB114 (by omega) (fun i h1 h2 => Nat.lt_of_lt_of_le (clX_114 i h1 h2) (by omega)) (fun j hj => g1 j (by omega)) (fun i h1 h2 => g3 i (by omega))
  have hA223 : ad9 (223) = q8 := (g1 (223) (by omega)).trans hA223
  have hB223 : zblk D cy b0 ad9 E9 (223) (332) := hBn
  have hP : va_P D vwCl (zN ad9 (332) E9) H := hP
  have hD : va_D (zB b0) (zN ad9 (332) E9) := hD
  refine W.widen (k := 331) (n := 4163) (Nat.le_of_ble_eq_true rfl) (Nat.le_of_ble_eq_true rfl) ?_
  refine y_putF (j := 3) (fs2 := [.ref q1, .ref u2, .ref q5, .ref q8, .null, .null, .null, .null, .int 0]) (ty0 := tyX8) (ty := .object "LeaseOffice$Office") hmn hx hb hts hi8 hown hK hP hD hS (by omega : 0 < 332) hA0 hE0 rfl tyX8_ok nmX8 (by decide) (hts (.fieldLink RX8 27 "LeaseOffice" "aheadOfText" "LLeaseOffice$Office;") (by decide +kernel)) rfl rfl (by decide +kernel) rfl rfl (Nat.le_of_ble_eq_true rfl) rfl dX8_init_45 (fun E10 H locs g3 g4 hP hD hS => ?_)
  have hEo : ∀ i, i < 0 → E10 i = E i := fun i hi => (g3 i (by omega)).trans (hEo i hi)
  have hB1 : zblk D cy b0 ad9 E10 (1) (114) := zblk_keep (N := 332) hB1 (by omega) (fun i h1 h2 => Nat.lt_of_lt_of_le (clX_1 i h1 h2) (by omega)) (fun j hj => rfl) (fun i h1 h2 => g3 i (by omega))
  have hB114 : zblk D cy b0 ad9 E10 (114) (223) := zblk_keep (N := 332) hB114 (by omega) (fun i h1 h2 => Nat.lt_of_lt_of_le (clX_114 i h1 h2) (by omega)) (fun j hj => rfl) (fun i h1 h2 => g3 i (by omega))
  have hB223 : zblk D cy b0 ad9 E10 (223) (332) := zblk_keep (N := 332) hB223 (by omega) (fun i h1 h2 => Nat.lt_of_lt_of_le (clX_223 i h1 h2) (by omega)) (fun j hj => rfl) (fun i h1 h2 => g3 i (by omega))
  have hE0 : E10 (0) = .inr (8, [.ref q1, .ref u2, .ref q5, .ref q8, .null, .null, .null, .null, .int 0]) := g4
  refine lv_aload_n hx hb dX8_init_48 rfl (lv_at hl 0 rfl) ?_
  refine y_new (ci := 5) (fs := [.null, .null, .int 0]) hx hb hts hi5 tyX5 tyX5_ok hown (hts (.classLink RX8 30 RX5) (by decide +kernel)) (hts (.instantiable RX5 3) (by decide +kernel)) (hts (.initialized RX5) (by decide +kernel)) hK hP hD hS hb0 rfl (fun j hj => by rcases (show j = 0 ∨ j = 1 ∨ j = 2 by omega) with rfl | rfl | rfl <;> rfl) (Nat.le_of_ble_eq_true rfl) (Nat.le_of_ble_eq_true rfl) dX8_init_49 (fun q11 ad11 E11 H g1 g2 g3 g4 hP hD hS => ?_)
  have hAd : ∀ i, i < 1 → ad11 i = ad i := fun i hi => (g1 i (by omega)).trans (hAd i hi)
  have hEo : ∀ i, i < 0 → E11 i = E i := fun i hi => (g3 i (by omega)).trans (hEo i hi)
  have hA0 : ad11 (0) = a := (g1 (0) (by omega)).trans hA0
  have hE0 : E11 (0) = .inr (8, [.ref q1, .ref u2, .ref q5, .ref q8, .null, .null, .null, .null, .int 0]) := (g3 (0) (by omega)).trans hE0
  have hA1 : ad11 (1) = q1 := (g1 (1) (by omega)).trans hA1
  have hA2 : ad11 (2) = u2 := (g1 (2) (by omega)).trans hA2
  have hA114 : ad11 (114) = q5 := (g1 (114) (by omega)).trans hA114
  have hA223 : ad11 (223) = q8 := (g1 (223) (by omega)).trans hA223
  have hB1 : zblk D cy b0 ad11 E11 (1) (114) := zblk_keep (N := 332) hB1 (by omega) (fun i h1 h2 => Nat.lt_of_lt_of_le (clX_1 i h1 h2) (by omega)) (fun j hj => g1 j (by omega)) (fun i h1 h2 => g3 i (by omega))
  have hB114 : zblk D cy b0 ad11 E11 (114) (223) := zblk_keep (N := 332) hB114 (by omega) (fun i h1 h2 => Nat.lt_of_lt_of_le (clX_114 i h1 h2) (by omega)) (fun j hj => g1 j (by omega)) (fun i h1 h2 => g3 i (by omega))
  have hB223 : zblk D cy b0 ad11 E11 (223) (332) := zblk_keep (N := 332) hB223 (by omega) (fun i h1 h2 => Nat.lt_of_lt_of_le (clX_223 i h1 h2) (by omega)) (fun j hj => g1 j (by omega)) (fun i h1 h2 => g3 i (by omega))
  have hA332 : ad11 (332) = q11 := g2
  have hE332 : E11 (332) = .inr (5, [.null, .null, .int 0]) := g4
  have hP : va_P D vwCl (zN ad11 (333) E11) H := hP
  have hD : va_D (zB b0) (zN ad11 (333) E11) := hD
  refine W.widen (k := 332) (n := 4166) (Nat.le_of_ble_eq_true rfl) (Nat.le_of_ble_eq_true rfl) ?_
  refine lv_dup hx hb dX8_init_52 rfl ?_
  refine y_callv (y_runIN (As := []) (rest := [.ref q11, .ref a]) ⟨hx, hb, hml, hown, hts⟩ (c_X5_init l D cy b0 ad11 E11 332 q11 wkL_332 hA332 hE332) (⟨va_cnB 0 hts gX8_init_X5_init_n32 rfl rfl rfl hX.2.2.2.2.2.2.1 (hts (.initialized RX5) (by decide +kernel)) (by decide +kernel) ⟨Nat.le_of_ble_eq_true rfl, Nat.le_of_ble_eq_true rfl⟩, rfl, (hts (.instanceMethod yX5_init) (by decide +kernel))⟩) hb0 hS hK hX hP hD rfl hl.1 rfl (Nat.le_of_ble_eq_true rfl) dX8_init_53 ⟨Nat.le_of_ble_eq_true rfl, Nat.le_of_ble_eq_true rfl⟩) hS (fun ad12 E12 H locs hpo hP hD hS => ?_)
  obtain ⟨g1, g3, hBn⟩ := hpo
  have g1 : ∀ i, i < 333 → ad12 i = ad11 i := g1
  have g3 : ∀ i, i < 332 → E12 i = E11 i := g3
  have hAd : ∀ i, i < 1 → ad12 i = ad i := fun i hi => (g1 i (by omega)).trans (hAd i hi)
  have hEo : ∀ i, i < 0 → E12 i = E i := fun i hi => (g3 i (by omega)).trans (hEo i hi)
  have hA0 : ad12 (0) = a := (g1 (0) (by omega)).trans hA0
  have hE0 : E12 (0) = .inr (8, [.ref q1, .ref u2, .ref q5, .ref q8, .null, .null, .null, .null, .int 0]) := (g3 (0) (by omega)).trans hE0
  have hA1 : ad12 (1) = q1 := (g1 (1) (by omega)).trans hA1
  have hA2 : ad12 (2) = u2 := (g1 (2) (by omega)).trans hA2
  have hA114 : ad12 (114) = q5 := (g1 (114) (by omega)).trans hA114
  have hA223 : ad12 (223) = q8 := (g1 (223) (by omega)).trans hA223
  have hB1 : zblk D cy b0 ad12 E12 (1) (114) := zblk_keep (N := 332) hB1 (by omega) (fun i h1 h2 => Nat.lt_of_lt_of_le (clX_1 i h1 h2) (by omega)) (fun j hj => g1 j (by omega)) (fun i h1 h2 => g3 i (by omega))
  have hB114 : zblk D cy b0 ad12 E12 (114) (223) := zblk_keep (N := 332) hB114 (by omega) (fun i h1 h2 => Nat.lt_of_lt_of_le (clX_114 i h1 h2) (by omega)) (fun j hj => g1 j (by omega)) (fun i h1 h2 => g3 i (by omega))
  have hB223 : zblk D cy b0 ad12 E12 (223) (332) := zblk_keep (N := 332) hB223 (by omega) (fun i h1 h2 => Nat.lt_of_lt_of_le (clX_223 i h1 h2) (by omega)) (fun j hj => g1 j (by omega)) (fun i h1 h2 => g3 i (by omega))
  have hA332 : ad12 (332) = q11 := (g1 (332) (by omega)).trans hA332
  have hB332 : zblk D cy b0 ad12 E12 (332) (337) := hBn
  have hP : va_P D vwCl (zN ad12 (337) E12) H := hP
  have hD : va_D (zB b0) (zN ad12 (337) E12) := hD
  refine W.widen (k := 336) (n := 4449) (Nat.le_of_ble_eq_true rfl) (Nat.le_of_ble_eq_true rfl) ?_
  refine y_putF (j := 4) (fs2 := [.ref q1, .ref u2, .ref q5, .ref q8, .ref q11, .null, .null, .null, .int 0]) (ty0 := tyX8) (ty := .object "LeaseOffice$TextReader") hmn hx hb hts hi8 hown hK hP hD hS (by omega : 0 < 337) hA0 hE0 rfl tyX8_ok nmX8 (by decide) (hts (.fieldLink RX8 33 "LeaseOffice" "reader" "LLeaseOffice$TextReader;") (by decide +kernel)) rfl rfl (by decide +kernel) rfl rfl (Nat.le_of_ble_eq_true rfl) rfl dX8_init_56 (fun E13 H locs g3 g4 hP hD hS => ?_)
  have hEo : ∀ i, i < 0 → E13 i = E i := fun i hi => (g3 i (by omega)).trans (hEo i hi)
  have hB1 : zblk D cy b0 ad12 E13 (1) (114) := zblk_keep (N := 337) hB1 (by omega) (fun i h1 h2 => Nat.lt_of_lt_of_le (clX_1 i h1 h2) (by omega)) (fun j hj => rfl) (fun i h1 h2 => g3 i (by omega))
  have hB114 : zblk D cy b0 ad12 E13 (114) (223) := zblk_keep (N := 337) hB114 (by omega) (fun i h1 h2 => Nat.lt_of_lt_of_le (clX_114 i h1 h2) (by omega)) (fun j hj => rfl) (fun i h1 h2 => g3 i (by omega))
  have hB223 : zblk D cy b0 ad12 E13 (223) (332) := zblk_keep (N := 337) hB223 (by omega) (fun i h1 h2 => Nat.lt_of_lt_of_le (clX_223 i h1 h2) (by omega)) (fun j hj => rfl) (fun i h1 h2 => g3 i (by omega))
  have hB332 : zblk D cy b0 ad12 E13 (332) (337) := zblk_keep (N := 337) hB332 (by omega) (fun i h1 h2 => Nat.lt_of_lt_of_le (clX_332 i h1 h2) (by omega)) (fun j hj => rfl) (fun i h1 h2 => g3 i (by omega))
  have hE0 : E13 (0) = .inr (8, [.ref q1, .ref u2, .ref q5, .ref q8, .ref q11, .null, .null, .null, .int 0]) := g4
  refine lv_aload_n hx hb dX8_init_59 rfl (lv_at hl 0 rfl) ?_
  refine lv_aload_n hx hb dX8_init_60 rfl (lv_at hl 0 rfl) ?_
  refine y_get (j := 4) hx hb hts hi8 hown hK hP (by omega : 0 < 337) hA0 hE0 rfl (by decide) (hts (.fieldLink RX8 33 "LeaseOffice" "reader" "LLeaseOffice$TextReader;") (by decide +kernel)) rfl dX8_init_61 ?_
  obtain ⟨u333, hA333⟩ : ∃ x, ad12 333 = x := ⟨_, rfl⟩
  have hE332 : E13 332 = .inr (5, [.ref (ad12 (332+1)), .ref (ad12 (332+3)), .int (wI0 332 2)]) := (hB332 332 (by decide) (by decide)).trans (wE_o wkL_332 (by decide))
  have hEe : E13 332 = .inr (5, [.ref u333, .ref (ad12 (332+3)), .int (wI0 332 2)]) := by rw [hE332, ← hA333]
  refine y_get (j := 0) hx hb hts hi5 hown hK hP (by omega : 332 < 337) hA332 hEe rfl (by decide) (hts (.fieldLink RX8 37 "LeaseOffice$TextReader" "tape" "LLeaseOffice$Table;") (by decide +kernel)) rfl dX8_init_64 ?_
  refine y_putF (j := 5) (fs2 := [.ref q1, .ref u2, .ref q5, .ref q8, .ref q11, .ref u333, .null, .null, .int 0]) (ty0 := tyX8) (ty := .object "LeaseOffice$Table") hmn hx hb hts hi8 hown hK hP hD hS (by omega : 0 < 337) hA0 hE0 rfl tyX8_ok nmX8 (by decide) (hts (.fieldLink RX8 41 "LeaseOffice" "tape" "LLeaseOffice$Table;") (by decide +kernel)) rfl rfl (by decide +kernel) rfl rfl (Nat.le_of_ble_eq_true rfl) rfl dX8_init_67 (fun E14 H locs g3 g4 hP hD hS => ?_)
  have hEo : ∀ i, i < 0 → E14 i = E i := fun i hi => (g3 i (by omega)).trans (hEo i hi)
  have hB1 : zblk D cy b0 ad12 E14 (1) (114) := zblk_keep (N := 337) hB1 (by omega) (fun i h1 h2 => Nat.lt_of_lt_of_le (clX_1 i h1 h2) (by omega)) (fun j hj => rfl) (fun i h1 h2 => g3 i (by omega))
  have hB114 : zblk D cy b0 ad12 E14 (114) (223) := zblk_keep (N := 337) hB114 (by omega) (fun i h1 h2 => Nat.lt_of_lt_of_le (clX_114 i h1 h2) (by omega)) (fun j hj => rfl) (fun i h1 h2 => g3 i (by omega))
  have hB223 : zblk D cy b0 ad12 E14 (223) (332) := zblk_keep (N := 337) hB223 (by omega) (fun i h1 h2 => Nat.lt_of_lt_of_le (clX_223 i h1 h2) (by omega)) (fun j hj => rfl) (fun i h1 h2 => g3 i (by omega))
  have hB332 : zblk D cy b0 ad12 E14 (332) (337) := zblk_keep (N := 337) hB332 (by omega) (fun i h1 h2 => Nat.lt_of_lt_of_le (clX_332 i h1 h2) (by omega)) (fun j hj => rfl) (fun i h1 h2 => g3 i (by omega))
  have hE0 : E14 (0) = .inr (8, [.ref q1, .ref u2, .ref q5, .ref q8, .ref q11, .ref u333, .null, .null, .int 0]) := g4
  refine lv_aload_n hx hb dX8_init_70 rfl (lv_at hl 0 rfl) ?_
  refine lv_bipush (v := 6) hx hb dX8_init_71 (by decide) ?_
  refine y_newq (L := 6) (t0 := 1) hx hb hown (hts (.classLink RX8 42 RX1) (by decide +kernel)) hX.2.2.2.2.2.2.2.1 rfl hK hP hD hS hb0 (by decide) (by decide) (Nat.le_of_ble_eq_true rfl) (Nat.le_of_ble_eq_true rfl) (Nat.le_of_ble_eq_true rfl) dX8_init_73 (fun q15 ad15 E15 H g1 g2 g3 g4 hP hD hS => ?_)
  have hAd : ∀ i, i < 1 → ad15 i = ad i := fun i hi => (g1 i (by omega)).trans (hAd i hi)
  have hEo : ∀ i, i < 0 → E15 i = E i := fun i hi => (g3 i (by omega)).trans (hEo i hi)
  have hA0 : ad15 (0) = a := (g1 (0) (by omega)).trans hA0
  have hE0 : E15 (0) = .inr (8, [.ref q1, .ref u2, .ref q5, .ref q8, .ref q11, .ref u333, .null, .null, .int 0]) := (g3 (0) (by omega)).trans hE0
  have hA1 : ad15 (1) = q1 := (g1 (1) (by omega)).trans hA1
  have hA2 : ad15 (2) = u2 := (g1 (2) (by omega)).trans hA2
  have hA114 : ad15 (114) = q5 := (g1 (114) (by omega)).trans hA114
  have hA223 : ad15 (223) = q8 := (g1 (223) (by omega)).trans hA223
  have hA332 : ad15 (332) = q11 := (g1 (332) (by omega)).trans hA332
  have hA333 : ad15 (333) = u333 := (g1 (333) (by omega)).trans hA333
  have hB1 : zblk D cy b0 ad15 E15 (1) (114) := zblk_keep (N := 337) hB1 (by omega) (fun i h1 h2 => Nat.lt_of_lt_of_le (clX_1 i h1 h2) (by omega)) (fun j hj => g1 j (by omega)) (fun i h1 h2 => g3 i (by omega))
  have hB114 : zblk D cy b0 ad15 E15 (114) (223) := zblk_keep (N := 337) hB114 (by omega) (fun i h1 h2 => Nat.lt_of_lt_of_le (clX_114 i h1 h2) (by omega)) (fun j hj => g1 j (by omega)) (fun i h1 h2 => g3 i (by omega))
  have hB223 : zblk D cy b0 ad15 E15 (223) (332) := zblk_keep (N := 337) hB223 (by omega) (fun i h1 h2 => Nat.lt_of_lt_of_le (clX_223 i h1 h2) (by omega)) (fun j hj => g1 j (by omega)) (fun i h1 h2 => g3 i (by omega))
  have hB332 : zblk D cy b0 ad15 E15 (332) (337) := zblk_keep (N := 337) hB332 (by omega) (fun i h1 h2 => Nat.lt_of_lt_of_le (clX_332 i h1 h2) (by omega)) (fun j hj => g1 j (by omega)) (fun i h1 h2 => g3 i (by omega))
  have hA337 : ad15 (337) = q15 := g2
  have hE337 : E15 (337) = .inl (cy 11, 6, .inr (.inr (.inr (.inr (fun _ => none))))) := g4
  have hP : va_P D vwCl (zN ad15 (338) E15) H := hP
  have hD : va_D (zB b0) (zN ad15 (338) E15) := hD
  refine W.widen (k := 337) (n := 4455) (Nat.le_of_ble_eq_true rfl) (Nat.le_of_ble_eq_true rfl) ?_
  refine y_putF (j := 6) (fs2 := [.ref q1, .ref u2, .ref q5, .ref q8, .ref q11, .ref u333, .ref q15, .null, .int 0]) (ty0 := tyX8) (ty := .array (.object "LeaseOffice$Holder")) hmn hx hb hts hi8 hown hK hP hD hS (by omega : 0 < 338) hA0 hE0 rfl tyX8_ok nmX8 (by decide) (hts (.fieldLink RX8 44 "LeaseOffice" "holders" "[LLeaseOffice$Holder;") (by decide +kernel)) rfl rfl (by decide +kernel) rfl rfl (Nat.le_of_ble_eq_true rfl) rfl dX8_init_76 (fun E16 H locs g3 g4 hP hD hS => ?_)
  have hEo : ∀ i, i < 0 → E16 i = E i := fun i hi => (g3 i (by omega)).trans (hEo i hi)
  have hE337 : E16 (337) = .inl (cy 11, 6, .inr (.inr (.inr (.inr (fun _ => none))))) := (g3 (337) (by omega)).trans hE337
  have hB1 : zblk D cy b0 ad15 E16 (1) (114) := zblk_keep (N := 338) hB1 (by omega) (fun i h1 h2 => Nat.lt_of_lt_of_le (clX_1 i h1 h2) (by omega)) (fun j hj => rfl) (fun i h1 h2 => g3 i (by omega))
  have hB114 : zblk D cy b0 ad15 E16 (114) (223) := zblk_keep (N := 338) hB114 (by omega) (fun i h1 h2 => Nat.lt_of_lt_of_le (clX_114 i h1 h2) (by omega)) (fun j hj => rfl) (fun i h1 h2 => g3 i (by omega))
  have hB223 : zblk D cy b0 ad15 E16 (223) (332) := zblk_keep (N := 338) hB223 (by omega) (fun i h1 h2 => Nat.lt_of_lt_of_le (clX_223 i h1 h2) (by omega)) (fun j hj => rfl) (fun i h1 h2 => g3 i (by omega))
  have hB332 : zblk D cy b0 ad15 E16 (332) (337) := zblk_keep (N := 338) hB332 (by omega) (fun i h1 h2 => Nat.lt_of_lt_of_le (clX_332 i h1 h2) (by omega)) (fun j hj => rfl) (fun i h1 h2 => g3 i (by omega))
  have hE0 : E16 (0) = .inr (8, [.ref q1, .ref u2, .ref q5, .ref q8, .ref q11, .ref u333, .ref q15, .null, .int 0]) := g4
  refine lv_aload_n hx hb dX8_init_79 rfl (lv_at hl 0 rfl) ?_
  refine y_new (ci := 1) (fs := [.int 0, .int 0, .null]) hx hb hts hi1 tyX1 tyX1_ok hown (hts (.classLink RX8 42 RX1) (by decide +kernel)) (hts (.instantiable RX1 3) (by decide +kernel)) (hts (.initialized RX1) (by decide +kernel)) hK hP hD hS hb0 rfl (fun j hj => by rcases (show j = 0 ∨ j = 1 ∨ j = 2 by omega) with rfl | rfl | rfl <;> rfl) (Nat.le_of_ble_eq_true rfl) (Nat.le_of_ble_eq_true rfl) dX8_init_80 (fun q17 ad17 E17 H g1 g2 g3 g4 hP hD hS => ?_)
  have hAd : ∀ i, i < 1 → ad17 i = ad i := fun i hi => (g1 i (by omega)).trans (hAd i hi)
  have hEo : ∀ i, i < 0 → E17 i = E i := fun i hi => (g3 i (by omega)).trans (hEo i hi)
  have hA0 : ad17 (0) = a := (g1 (0) (by omega)).trans hA0
  have hE0 : E17 (0) = .inr (8, [.ref q1, .ref u2, .ref q5, .ref q8, .ref q11, .ref u333, .ref q15, .null, .int 0]) := (g3 (0) (by omega)).trans hE0
  have hA1 : ad17 (1) = q1 := (g1 (1) (by omega)).trans hA1
  have hA2 : ad17 (2) = u2 := (g1 (2) (by omega)).trans hA2
  have hA114 : ad17 (114) = q5 := (g1 (114) (by omega)).trans hA114
  have hA223 : ad17 (223) = q8 := (g1 (223) (by omega)).trans hA223
  have hA332 : ad17 (332) = q11 := (g1 (332) (by omega)).trans hA332
  have hA333 : ad17 (333) = u333 := (g1 (333) (by omega)).trans hA333
  have hA337 : ad17 (337) = q15 := (g1 (337) (by omega)).trans hA337
  have hE337 : E17 (337) = .inl (cy 11, 6, .inr (.inr (.inr (.inr (fun _ => none))))) := (g3 (337) (by omega)).trans hE337
  have hB1 : zblk D cy b0 ad17 E17 (1) (114) := zblk_keep (N := 338) hB1 (by omega) (fun i h1 h2 => Nat.lt_of_lt_of_le (clX_1 i h1 h2) (by omega)) (fun j hj => g1 j (by omega)) (fun i h1 h2 => g3 i (by omega))
  have hB114 : zblk D cy b0 ad17 E17 (114) (223) := zblk_keep (N := 338) hB114 (by omega) (fun i h1 h2 => Nat.lt_of_lt_of_le (clX_114 i h1 h2) (by omega)) (fun j hj => g1 j (by omega)) (fun i h1 h2 => g3 i (by omega))
  have hB223 : zblk D cy b0 ad17 E17 (223) (332) := zblk_keep (N := 338) hB223 (by omega) (fun i h1 h2 => Nat.lt_of_lt_of_le (clX_223 i h1 h2) (by omega)) (fun j hj => g1 j (by omega)) (fun i h1 h2 => g3 i (by omega))
  have hB332 : zblk D cy b0 ad17 E17 (332) (337) := zblk_keep (N := 338) hB332 (by omega) (fun i h1 h2 => Nat.lt_of_lt_of_le (clX_332 i h1 h2) (by omega)) (fun j hj => g1 j (by omega)) (fun i h1 h2 => g3 i (by omega))
  have hA338 : ad17 (338) = q17 := g2
  have hE338 : E17 (338) = .inr (1, [.int 0, .int 0, .null]) := g4
  have hP : va_P D vwCl (zN ad17 (339) E17) H := hP
  have hD : va_D (zB b0) (zN ad17 (339) E17) := hD
  refine W.widen (k := 338) (n := 4458) (Nat.le_of_ble_eq_true rfl) (Nat.le_of_ble_eq_true rfl) ?_
  refine lv_dup hx hb dX8_init_83 rfl ?_
  refine y_callv (y_runIN (As := []) (rest := [.ref q17, .ref a]) ⟨hx, hb, hml, hown, hts⟩ (c_X1_init l D cy b0 ad17 E17 338 q17 wkL_338 hA338 hE338) (⟨va_cnB 0 hts gX8_init_X1_init_n48 rfl rfl rfl hX.1 (hts (.initialized RX1) (by decide +kernel)) (by decide +kernel) ⟨Nat.le_of_ble_eq_true rfl, Nat.le_of_ble_eq_true rfl⟩, rfl, (hts (.instanceMethod yX1_init) (by decide +kernel))⟩) hb0 hS hK hX hP hD rfl hl.1 rfl (Nat.le_of_ble_eq_true rfl) dX8_init_84 ⟨Nat.le_of_ble_eq_true rfl, Nat.le_of_ble_eq_true rfl⟩) hS (fun ad18 E18 H locs hpo hP hD hS => ?_)
  obtain ⟨g1, g3, hBn⟩ := hpo
  have g1 : ∀ i, i < 339 → ad18 i = ad17 i := g1
  have g3 : ∀ i, i < 338 → E18 i = E17 i := g3
  have hAd : ∀ i, i < 1 → ad18 i = ad i := fun i hi => (g1 i (by omega)).trans (hAd i hi)
  have hEo : ∀ i, i < 0 → E18 i = E i := fun i hi => (g3 i (by omega)).trans (hEo i hi)
  have hA0 : ad18 (0) = a := (g1 (0) (by omega)).trans hA0
  have hE0 : E18 (0) = .inr (8, [.ref q1, .ref u2, .ref q5, .ref q8, .ref q11, .ref u333, .ref q15, .null, .int 0]) := (g3 (0) (by omega)).trans hE0
  have hA1 : ad18 (1) = q1 := (g1 (1) (by omega)).trans hA1
  have hA2 : ad18 (2) = u2 := (g1 (2) (by omega)).trans hA2
  have hA114 : ad18 (114) = q5 := (g1 (114) (by omega)).trans hA114
  have hA223 : ad18 (223) = q8 := (g1 (223) (by omega)).trans hA223
  have hA332 : ad18 (332) = q11 := (g1 (332) (by omega)).trans hA332
  have hA333 : ad18 (333) = u333 := (g1 (333) (by omega)).trans hA333
  have hA337 : ad18 (337) = q15 := (g1 (337) (by omega)).trans hA337
  have hE337 : E18 (337) = .inl (cy 11, 6, .inr (.inr (.inr (.inr (fun _ => none))))) := (g3 (337) (by omega)).trans hE337
  have hB1 : zblk D cy b0 ad18 E18 (1) (114) := zblk_keep (N := 338) hB1 (by omega) (fun i h1 h2 => Nat.lt_of_lt_of_le (clX_1 i h1 h2) (by omega)) (fun j hj => g1 j (by omega)) (fun i h1 h2 => g3 i (by omega))
  have hB114 : zblk D cy b0 ad18 E18 (114) (223) := zblk_keep (N := 338) hB114 (by omega) (fun i h1 h2 => Nat.lt_of_lt_of_le (clX_114 i h1 h2) (by omega)) (fun j hj => g1 j (by omega)) (fun i h1 h2 => g3 i (by omega))
  have hB223 : zblk D cy b0 ad18 E18 (223) (332) := zblk_keep (N := 338) hB223 (by omega) (fun i h1 h2 => Nat.lt_of_lt_of_le (clX_223 i h1 h2) (by omega)) (fun j hj => g1 j (by omega)) (fun i h1 h2 => g3 i (by omega))
  have hB332 : zblk D cy b0 ad18 E18 (332) (337) := zblk_keep (N := 338) hB332 (by omega) (fun i h1 h2 => Nat.lt_of_lt_of_le (clX_332 i h1 h2) (by omega)) (fun j hj => g1 j (by omega)) (fun i h1 h2 => g3 i (by omega))
  have hA338 : ad18 (338) = q17 := (g1 (338) (by omega)).trans hA338
  have hB338 : zblk D cy b0 ad18 E18 (338) (341) := hBn
  have hP : va_P D vwCl (zN ad18 (341) E18) H := hP
  have hD : va_D (zB b0) (zN ad18 (341) E18) := hD
  refine W.widen (k := 340) (n := 4522) (Nat.le_of_ble_eq_true rfl) (Nat.le_of_ble_eq_true rfl) ?_
  refine y_putF (j := 7) (fs2 := [.ref q1, .ref u2, .ref q5, .ref q8, .ref q11, .ref u333, .ref q15, .ref q17, .int 0]) (ty0 := tyX8) (ty := .object "LeaseOffice$Holder") hmn hx hb hts hi8 hown hK hP hD hS (by omega : 0 < 341) hA0 hE0 rfl tyX8_ok nmX8 (by decide) (hts (.fieldLink RX8 49 "LeaseOffice" "noHolder" "LLeaseOffice$Holder;") (by decide +kernel)) rfl rfl (by decide +kernel) rfl rfl (Nat.le_of_ble_eq_true rfl) rfl dX8_init_87 (fun E19 H locs g3 g4 hP hD hS => ?_)
  have hEo : ∀ i, i < 0 → E19 i = E i := fun i hi => (g3 i (by omega)).trans (hEo i hi)
  have hE337 : E19 (337) = .inl (cy 11, 6, .inr (.inr (.inr (.inr (fun _ => none))))) := (g3 (337) (by omega)).trans hE337
  have hB1 : zblk D cy b0 ad18 E19 (1) (114) := zblk_keep (N := 341) hB1 (by omega) (fun i h1 h2 => Nat.lt_of_lt_of_le (clX_1 i h1 h2) (by omega)) (fun j hj => rfl) (fun i h1 h2 => g3 i (by omega))
  have hB114 : zblk D cy b0 ad18 E19 (114) (223) := zblk_keep (N := 341) hB114 (by omega) (fun i h1 h2 => Nat.lt_of_lt_of_le (clX_114 i h1 h2) (by omega)) (fun j hj => rfl) (fun i h1 h2 => g3 i (by omega))
  have hB223 : zblk D cy b0 ad18 E19 (223) (332) := zblk_keep (N := 341) hB223 (by omega) (fun i h1 h2 => Nat.lt_of_lt_of_le (clX_223 i h1 h2) (by omega)) (fun j hj => rfl) (fun i h1 h2 => g3 i (by omega))
  have hB332 : zblk D cy b0 ad18 E19 (332) (337) := zblk_keep (N := 341) hB332 (by omega) (fun i h1 h2 => Nat.lt_of_lt_of_le (clX_332 i h1 h2) (by omega)) (fun j hj => rfl) (fun i h1 h2 => g3 i (by omega))
  have hB338 : zblk D cy b0 ad18 E19 (338) (341) := zblk_keep (N := 341) hB338 (by omega) (fun i h1 h2 => Nat.lt_of_lt_of_le (clX_338 i h1 h2) (by omega)) (fun j hj => rfl) (fun i h1 h2 => g3 i (by omega))
  have hE0 : E19 (0) = .inr (8, [.ref q1, .ref u2, .ref q5, .ref q8, .ref q11, .ref u333, .ref q15, .ref q17, .int 0]) := g4
  have L92 : ∀ (nn j u : Nat) (i1 : Int32) (f : Nat → Option Nat) (ad1 : Nat → Nat) (E1 : Nat → va_E) (H : Heap) (locs : List Loc) (ls : Array Slot), j + nn = 6 → (u = 341 + 3 * j) → (i1 = nI j) → (∀ i, i < 1 → ad1 i = ad i) → (∀ i, i < 0 → E1 i = E i) → (ad1 (0) = a) → (ad1 (1) = q1) → (ad1 (2) = u2) → (ad1 (114) = q5) → (ad1 (223) = q8) → (ad1 (332) = q11) → (ad1 (333) = u333) → (ad1 (337) = q15) → (ad1 (338) = q17) → (E1 (0) = .inr (8, [.ref q1, .ref u2, .ref q5, .ref q8, .ref q11, .ref u333, .ref q15, .ref q17, .int 0])) → (E1 (337) = .inl (cy 11, 6, .inr (.inr (.inr (.inr f))))) → (∀ k, k < j → f k = some (ad1 (341 + 3 * k))) → (∀ k, j ≤ k → f k = none) → (zblk D cy b0 ad1 E1 (1) (337)) → (zblk D cy b0 ad1 E1 (338) u) → va_P D vwCl (zN ad1 u E1) H → va_D (zB b0) (zN ad1 u E1) → va_S (zB b0) s.heap H locs → lv_has ls 2 [(1, .int i1), (0, .ref a)] → W p l e (zrn 5 358 4924 104) s m args below meth c H locs (340 + 3 * j) (4522 + 67 * j) (MQ below (zQn D cy b0 359 (fun u => (∀ i, i < 1 → u.1 i = ad i) ∧ (∀ i, i < 0 → u.2 i = E i) ∧ zblk D cy b0 u.1 u.2 0 359)) args s 358 4924 (zB b0)) (F0 m 92 ls []) := by
    intro nn
    induction nn with
    | zero =>
      intro j u i1 f ad1 E1 H locs ls hj hu hiv hAd hEo hA0 hA1 hA2 hA114 hA223 hA332 hA333 hA337 hA338 hE0 hEa hf1 hf2 hBq hBg hP hD hS hl
      have hj : j = 6 := by omega
      subst hj
      refine lv_iload_n hx hb dX8_init_92 rfl (lv_at hl 0 rfl) ?_
      refine lv_aload_n hx hb dX8_init_93 rfl (lv_at hl 1 rfl) ?_
      refine y_get (j := 6) hx hb hts hi8 hown hK hP (by omega : 0 < u) hA0 hE0 rfl (by decide) (hts (.fieldLink RX8 44 "LeaseOffice" "holders" "[LLeaseOffice$Holder;") (by decide +kernel)) rfl dX8_init_94 ?_
      refine y_alen 1 (v := 6) hx hb hK hP (by omega : 337 < u) hA337 hEa rfl rfl dX8_init_97 ?_
      refine lv_icmp_ge (tgt := 120) hx hb dX8_init_98 (by decide) (fun c => ?_) (fun c => absurd (by rw [hiv]; decide) c)
      have hB0 : zblk D cy b0 ad1 E1 0 (0 + 1) := zblk_one (by rw [hE0, wE_o wkL_0 (by decide)]; simp only [wO, wI0_o wkL_0 (by decide), hA1, hA2, hA114, hA223, hA332, hA333, hA337, hA338])
      have hB337 : zblk D cy b0 ad1 E1 337 (337 + 1) := by
        refine zblk_one ?_
        rw [hEa, wE_11 wkL_337]
        have hfe : f = (fun j => if j < 6 then some (ad1 (337 + 4 + 3 * j)) else none) := by
          funext k
          by_cases h9 : k < 6
          · rw [if_pos h9]; exact hf1 k h9
          · rw [if_neg h9]; exact hf2 k (by omega)
        rw [hfe]
      subst hu
      refine W.widen (k := 358) (n := 4924) (by omega) (by omega) ?_
      exact y_vret ⟨hAd, hEo, zblk_app hB0 (zblk_app hBq (zblk_app hB337 hBg))⟩ hx hb hr hlocks hb0 hK hX hP hD hS dX8_init_120
    | succ nn ih =>
      intro j u i1 f ad1 E1 H locs ls hj hu hiv hAd hEo hA0 hA1 hA2 hA114 hA223 hA332 hA333 hA337 hA338 hE0 hEa hf1 hf2 hBq hBg hP hD hS hl
      have hjN : j < 6 := by omega
      refine lv_iload_n hx hb dX8_init_92 rfl (lv_at hl 0 rfl) ?_
      refine lv_aload_n hx hb dX8_init_93 rfl (lv_at hl 1 rfl) ?_
      refine y_get (j := 6) hx hb hts hi8 hown hK hP (by omega : 0 < u) hA0 hE0 rfl (by decide) (hts (.fieldLink RX8 44 "LeaseOffice" "holders" "[LLeaseOffice$Holder;") (by decide +kernel)) rfl dX8_init_94 ?_
      refine y_alen 1 (v := 6) hx hb hK hP (by omega : 337 < u) hA337 hEa rfl rfl dX8_init_97 ?_
      refine lv_icmp_ge (tgt := 120) hx hb dX8_init_98 (by decide) (fun c => absurd c (by rw [hiv]; exact nI_ge hjN (by decide))) (fun _ => ?_)
      refine lv_aload_n hx hb dX8_init_101 rfl (lv_at hl 1 rfl) ?_
      refine y_get (j := 6) hx hb hts hi8 hown hK hP (by omega : 0 < u) hA0 hE0 rfl (by decide) (hts (.fieldLink RX8 44 "LeaseOffice" "holders" "[LLeaseOffice$Holder;") (by decide +kernel)) rfl dX8_init_102 ?_
      refine lv_iload_n hx hb dX8_init_105 rfl (lv_at hl 0 rfl) ?_
      refine y_new (ci := 1) (fs := [.int 0, .int 0, .null]) hx hb hts hi1 tyX1 tyX1_ok hown (hts (.classLink RX8 42 RX1) (by decide +kernel)) (hts (.instantiable RX1 3) (by decide +kernel)) (hts (.initialized RX1) (by decide +kernel)) hK hP hD hS hb0 rfl (fun j hj => by rcases (show j = 0 ∨ j = 1 ∨ j = 2 by omega) with rfl | rfl | rfl <;> rfl) (by show _ ≤ 358; omega) (by show _ ≤ 4924; omega) dX8_init_106 (fun q ad2 E2 H g1 g2 g3 g4 hP hD hS => ?_)
      refine lv_dup hx hb dX8_init_109 rfl ?_
      have hku : wK u = 1 := by rw [hu]; exact wk_h j hjN
      have hE2u : E2 u = .inr (1, [.int 0, .int 0, .null]) := g4
      refine y_callv (y_runIN (As := []) (rest := [.ref q, .int i1, .ref q15]) ⟨hx, hb, hml, hown, hts⟩ (c_X1_init l D cy b0 ad2 E2 u q hku g2 hE2u) (⟨va_cnB 0 hts gX8_init_X1_init_n48 rfl rfl rfl hX.1 (hts (.initialized RX1) (by decide +kernel)) (by decide +kernel) ⟨Nat.le_of_ble_eq_true rfl, Nat.le_of_ble_eq_true rfl⟩, rfl, (hts (.instanceMethod yX1_init) (by decide +kernel))⟩) hb0 hS hK hX hP hD rfl hl.1 rfl (Nat.le_of_ble_eq_true rfl) dX8_init_110 ⟨by show _ ≤ 358; omega, by show _ ≤ 4924; omega⟩) hS (fun ad3 E3 H locs hpo hP hD hS => ?_)
      obtain ⟨k1, k3, hBn⟩ := hpo
      have k1 : ∀ i, i < u + 1 → ad3 i = ad2 i := k1
      have k3 : ∀ i, i < u → E3 i = E2 i := k3
      have hBn : zblk D cy b0 ad3 E3 u (u + 3) := hBn
      have hP : va_P D vwCl (zN ad3 (u + 3) E3) H := hP
      have hD : va_D (zB b0) (zN ad3 (u + 3) E3) := hD
      have m1 : ∀ i, i < u → ad3 i = ad1 i := fun i hi => (k1 i (by omega)).trans (g1 i hi)
      have m3 : ∀ i, i < u → E3 i = E1 i := fun i hi => (k3 i hi).trans (g3 i hi)
      have hq : ad3 u = q := (k1 u (by omega)).trans g2
      have hEu : E3 u = .inr (1, wO (D, ad3, cy, b0) wI0 zJ0 u 1) := (hBn u (by omega) (by omega)).trans (wE_o hku (by decide))
      have hin : vp_in i1 6 := by rw [hiv]; exact vp_in_nI hjN (by decide)
      refine y_aast (t0 := 1) hx hb hK hP hD hS (by omega : 337 < u + 3) ((m1 (337) (by omega)).trans hA337) ((m3 (337) (by omega)).trans hEa) rfl (by omega : u < u + 3) hq hEu rfl hin rfl dX8_init_113 (fun E4 H locs n3 n4 hP hD hS => ?_)
      refine lv_iinc (v := i1 + 1) (lv' := [(1, .int (i1 + 1)), (0, .ref a)]) hx hb dX8_init_114 hl (k := 0) rfl rfl (by decide) rfl (fun ls hl => ?_)
      refine lv_goto (tgt := 92) hx hb dX8_init_117 (by decide) ?_
      have o3 : ∀ i, i < u → i ≠ 337 → E4 i = E1 i := fun i hi hne => (n3 i hne).trans (m3 i hi)
      have hcl : i1.toNatClampNeg = j := by rw [hiv]; exact nI_clamp (by omega)
      rw [hcl] at n4
      refine W.widen (k := 340 + 3 * (j + 1)) (n := 4522 + 67 * (j + 1)) (by omega) (by omega) ?_
      have hfj : va_up f j (some q) j = some (ad3 (341 + 3 * j)) := (if_pos rfl).trans (by rw [← hu, hq])
      exact ih (j + 1) (u + 3) (i1 + 1) _ ad3 E4 H locs ls (by omega) (by omega) (by rw [hiv]; exact nI_1 j) (fun i hi => (m1 i (by omega)).trans (hAd i hi)) (fun i hi => (o3 i (by omega) (by omega)).trans (hEo i hi)) ((m1 (0) (by omega)).trans hA0) ((m1 (1) (by omega)).trans hA1) ((m1 (2) (by omega)).trans hA2) ((m1 (114) (by omega)).trans hA114) ((m1 (223) (by omega)).trans hA223) ((m1 (332) (by omega)).trans hA332) ((m1 (333) (by omega)).trans hA333) ((m1 (337) (by omega)).trans hA337) ((m1 (338) (by omega)).trans hA338) ((o3 (0) (by omega) (by omega)).trans hE0) n4 (fun k hk9 => (Nat.lt_or_ge k j).elim (fun h9 => (if_neg (by omega)).trans ((hf1 k h9).trans (by rw [m1 (341 + 3 * k) (by omega)]))) (fun h9 => by rw [(show k = j by omega)]; exact hfj)) (fun k hk9 => (if_neg (by omega)).trans (hf2 k (by omega))) (zblk_keep (N := u) hBq (by omega) (fun i h1 h2 => Nat.lt_of_lt_of_le (clX_all i h1 h2) (by omega)) m1 (fun i h1 h2 => o3 i (by omega) (by omega))) (zblk_app (zblk_keep (N := u) hBg (by omega) (fun i h1 h2 => by have hh := cl_8g j (by omega) (i - (338)) (by omega); rw [show 338 + (i - (338)) = i by omega] at hh; omega) m1 (fun i h1 h2 => o3 i (by omega) (by omega))) (zblk_keep (N := u + 3) hBn (by omega) (fun i h1 h2 => by have hh := cl_1u hku (i - (u)) (by omega); rw [show u + (i - (u)) = i by omega] at hh; omega) (fun _ _ => rfl) (fun i h1 h2 => n3 i (by omega)))) hP hD hS hl
  refine lv_iconst (v := 0) hx hb dX8_init_90 (by decide) ?_
  refine lv_istore_n (lv' := [(1, .int 0), (0, .ref a)]) hx hb dX8_init_91 rfl hl (by decide) rfl (fun ls hl => ?_)
  refine W.widen (k := 340 + 3 * 0) (n := 4522 + 67 * 0) (Nat.le_of_ble_eq_true rfl) (Nat.le_of_ble_eq_true rfl) ?_
  exact L92 6 0 341 0 (fun _ => none) ad18 E19 H locs ls rfl rfl nI_0.symm hAd hEo hA0 hA1 hA2 hA114 hA223 hA332 hA333 hA337 hA338 hE0 hE337 (fun k h9 => absurd h9 (Nat.not_lt_zero k)) (fun _ _ => rfl) (zblk_app hB1 (zblk_app hB114 (zblk_app hB223 hB332))) hB338 hP hD hS hl
/-! from the order of making to the base's layout: zRho k is where the cell k of the layout stands in the order of making -/
def zRL : List Nat := [0, 0, 0, 0, 0, 0, 0, 8, 0, 6, 0, 8, 0, 0, 12, 0, 0, 0, 0, 0, 0, 0, 0, 0, 0, 0, 0, 0, 0, 0, 0, 0, 0, 0, 0, 0, 0, 0, 0, 0, 0, 8, 0, 6, 0, 8, 0, 0, 8, 0, 6, 0, 8, 0, 0, 8, 0, 6, 0, 8, 0, 0, 8, 0, 6, 0, 8, 0, 0, 8, 0, 6, 0, 8, 0, 0, 8, 0, 6, 0, 8, 0, 0, 8, 0, 6, 0, 8, 0, 0, 8, 0, 6, 0, 8, 0, 0, 8, 0, 6, 0, 8, 0, 0, 8, 0, 6, 0, 8, 0, 0, 0, 0, 0, 0, 0, 8, 0, 6, 0, 8, 0, 0, 12, 0, 0, 0, 0, 0, 0, 0, 0, 0, 0, 0, 0, 0, 0, 0, 0, 0, 0, 0, 0, 0, 0, 0, 0, 0, 0, 8, 0, 6, 0, 8, 0, 0, 8, 0, 6, 0, 8, 0, 0, 8, 0, 6, 0, 8, 0, 0, 8, 0, 6, 0, 8, 0, 0, 8, 0, 6, 0, 8, 0, 0, 8, 0, 6, 0, 8, 0, 0, 8, 0, 6, 0, 8, 0, 0, 8, 0, 6, 0, 8, 0, 0, 8, 0, 6, 0, 8, 0, 0, 8, 0, 6, 0, 8, 0, 0, 0, 0, 0, 0, 0, 8, 0, 6, 0, 8, 0, 0, 12, 0, 0, 0, 0, 0, 0, 0, 0, 0, 0, 0, 0, 0, 0, 0, 0, 0, 0, 0, 0, 0, 0, 0, 0, 0, 0, 8, 0, 6, 0, 8, 0, 0, 8, 0, 6, 0, 8, 0, 0, 8, 0, 6, 0, 8, 0, 0, 8, 0, 6, 0, 8, 0, 0, 8, 0, 6, 0, 8, 0, 0, 8, 0, 6, 0, 8, 0, 0, 8, 0, 6, 0, 8, 0, 0, 8, 0, 6, 0, 8, 0, 0, 8, 0, 6, 0, 8, 0, 0, 8, 0, 6, 0, 8, 0, 0, 0, 12, 0, 120, 0, 0, 31, 0, 0, 0, 60, 0, 0, 60, 0, 0, 60, 0, 0, 60, 0, 0, 60, 0, 0, 60, 0, 0, 60, 0]
def zWL : List Nat := [0, 0, 0, 0, 0, 0, 0, 3, 0, 4, 0, 4, 0, 0, 1, 0, 0, 0, 0, 0, 0, 0, 0, 0, 0, 0, 0, 0, 0, 0, 0, 0, 0, 0, 0, 0, 0, 0, 0, 0, 0, 3, 0, 4, 0, 4, 0, 0, 3, 0, 4, 0, 4, 0, 0, 3, 0, 4, 0, 4, 0, 0, 3, 0, 4, 0, 4, 0, 0, 3, 0, 4, 0, 4, 0, 0, 3, 0, 4, 0, 4, 0, 0, 3, 0, 4, 0, 4, 0, 0, 3, 0, 4, 0, 4, 0, 0, 3, 0, 4, 0, 4, 0, 0, 3, 0, 4, 0, 4, 0, 0, 0, 0, 0, 0, 0, 3, 0, 4, 0, 4, 0, 0, 1, 0, 0, 0, 0, 0, 0, 0, 0, 0, 0, 0, 0, 0, 0, 0, 0, 0, 0, 0, 0, 0, 0, 0, 0, 0, 0, 3, 0, 4, 0, 4, 0, 0, 3, 0, 4, 0, 4, 0, 0, 3, 0, 4, 0, 4, 0, 0, 3, 0, 4, 0, 4, 0, 0, 3, 0, 4, 0, 4, 0, 0, 3, 0, 4, 0, 4, 0, 0, 3, 0, 4, 0, 4, 0, 0, 3, 0, 4, 0, 4, 0, 0, 3, 0, 4, 0, 4, 0, 0, 3, 0, 4, 0, 4, 0, 0, 0, 0, 0, 0, 0, 3, 0, 4, 0, 4, 0, 0, 1, 0, 0, 0, 0, 0, 0, 0, 0, 0, 0, 0, 0, 0, 0, 0, 0, 0, 0, 0, 0, 0, 0, 0, 0, 0, 0, 3, 0, 4, 0, 4, 0, 0, 3, 0, 4, 0, 4, 0, 0, 3, 0, 4, 0, 4, 0, 0, 3, 0, 4, 0, 4, 0, 0, 3, 0, 4, 0, 4, 0, 0, 3, 0, 4, 0, 4, 0, 0, 3, 0, 4, 0, 4, 0, 0, 3, 0, 4, 0, 4, 0, 0, 3, 0, 4, 0, 4, 0, 0, 3, 0, 4, 0, 4, 0, 0, 0, 1, 0, 1, 0, 0, 5, 0, 0, 0, 1, 0, 0, 1, 0, 0, 1, 0, 0, 1, 0, 0, 1, 0, 0, 1, 0, 0, 1, 0]
def zI0 : zM := fun k j => if zK k = 4 then (if j = 0 then Int32.ofNat (zRL.getD k 0) else if j = 1 then Int32.ofNat (zWL.getD k 0) else 0) else 0
theorem zI0_f {t c : Nat} (h : zK t = c) (hc : c ≠ 4) : zI0 t = fun _ => 0 := funext fun _ => if_neg (by rw [h]; exact hc)
theorem zf_0 {k : Nat} (h : zK k = 0) : zK (k + 1) = 4 ∧ zI0 (k + 1) 0 = 12 ∧ zI0 (k + 1) 1 = 1 ∧ zK (k + 1 + 1) = 10 ∧ zLn (k + 1 + 1) = 12 := zK_all (P := fun k c => c = 0 → zK (k + 1) = 4 ∧ zI0 (k + 1) 0 = 12 ∧ zI0 (k + 1) 1 = 1 ∧ zK (k + 1 + 1) = 10 ∧ zLn (k + 1 + 1) = 12) (by decide +kernel) h (by decide) rfl
theorem zf_1 {k : Nat} (h : zK k = 1) : zK (k + 1) = 4 ∧ zI0 (k + 1) 0 = 60 ∧ zI0 (k + 1) 1 = 1 ∧ zK (k + 1 + 1) = 10 ∧ zLn (k + 1 + 1) = 60 := zK_all (P := fun k c => c = 1 → zK (k + 1) = 4 ∧ zI0 (k + 1) 0 = 60 ∧ zI0 (k + 1) 1 = 1 ∧ zK (k + 1 + 1) = 10 ∧ zLn (k + 1 + 1) = 60) (by decide +kernel) h (by decide) rfl
theorem zf_7a {k : Nat} (h : zK k = 7) : zK (k + 1) = 4 ∧ zI0 (k + 1) 0 = 8 ∧ zI0 (k + 1) 1 = 3 ∧ zK (k + 1 + 1) = 10 ∧ zLn (k + 1 + 1) = 24 := zK_all (P := fun k c => c = 7 → zK (k + 1) = 4 ∧ zI0 (k + 1) 0 = 8 ∧ zI0 (k + 1) 1 = 3 ∧ zK (k + 1 + 1) = 10 ∧ zLn (k + 1 + 1) = 24) (by decide +kernel) h (by decide) rfl
theorem zf_7b {k : Nat} (h : zK k = 7) : zK (k + 3) = 4 ∧ zI0 (k + 3) 0 = 6 ∧ zI0 (k + 3) 1 = 4 ∧ zK (k + 3 + 1) = 10 ∧ zLn (k + 3 + 1) = 24 := zK_all (P := fun k c => c = 7 → zK (k + 3) = 4 ∧ zI0 (k + 3) 0 = 6 ∧ zI0 (k + 3) 1 = 4 ∧ zK (k + 3 + 1) = 10 ∧ zLn (k + 3 + 1) = 24) (by decide +kernel) h (by decide) rfl
theorem zf_7c {k : Nat} (h : zK k = 7) : zK (k + 5) = 4 ∧ zI0 (k + 5) 0 = 8 ∧ zI0 (k + 5) 1 = 4 ∧ zK (k + 5 + 1) = 10 ∧ zLn (k + 5 + 1) = 32 := zK_all (P := fun k c => c = 7 → zK (k + 5) = 4 ∧ zI0 (k + 5) 0 = 8 ∧ zI0 (k + 5) 1 = 4 ∧ zK (k + 5 + 1) = 10 ∧ zLn (k + 5 + 1) = 32) (by decide +kernel) h (by decide) rfl
theorem zf_5 {k : Nat} (h : zK k = 5) : zK (k + 1) = 4 ∧ zI0 (k + 1) 0 = 31 ∧ zI0 (k + 1) 1 = 5 ∧ zK (k + 1 + 1) = 10 ∧ zLn (k + 1 + 1) = 155 := zK_all (P := fun k c => c = 5 → zK (k + 1) = 4 ∧ zI0 (k + 1) 0 = 31 ∧ zI0 (k + 1) 1 = 5 ∧ zK (k + 1 + 1) = 10 ∧ zLn (k + 1 + 1) = 155) (by decide +kernel) h (by decide) rfl
theorem zi_332 : zI0 332 0 = 120 ∧ zI0 332 1 = 1 ∧ zK (332 + 1) = 10 ∧ zLn (332 + 1) = 120 := by decide +kernel
def zRho (k : Nat) : Nat := if k = 0 then 0 else if k < 110 then k + 1 else if k < 328 then k + 4 else if k = 328 then 1 else if k < 332 then k - 218 else if k = 332 then 333 else if k = 333 then 334 else if k = 334 then 332 else k
def zRhi (k : Nat) : Nat := if k = 0 then 0 else if k = 1 then 328 else if k < 111 then k - 1 else if k < 114 then k + 218 else if k < 332 then k - 4 else if k = 332 then 334 else if k = 333 then 332 else if k = 334 then 333 else k
theorem zRho_inv : ∀ k, k < 359 → zRhi (zRho k) = k := by decide +kernel
theorem zRho_lt : ∀ k, k < 359 → zRho k < 359 := by decide +kernel
theorem zRho_inj {i j : Nat} (hi : i < 359) (hj : j < 359) (h : zRho i = zRho j) : i = j := by
  have h1 := zRho_inv i hi
  rw [h, zRho_inv j hj] at h1
  exact h1.symm
theorem zRho_K : ∀ k, k < 359 → wK (zRho k) = zK k := by decide +kernel
theorem zRho_L : ∀ k, k < 359 → wLn (zRho k) = zLn k := by decide +kernel
theorem zRho_R : ∀ k, k < 359 → wRL.getD (zRho k) 0 = zRL.getD k 0 ∧ wWL.getD (zRho k) 0 = zWL.getD k 0 := by decide +kernel
theorem zRho_I {k : Nat} (hk : k < 359) : wI0 (zRho k) = zI0 k := by
  funext j
  unfold wI0 zI0
  rw [zRho_K k hk, (zRho_R k hk).1, (zRho_R k hk).2]
theorem zRho_0 {k : Nat} (h : zK k = 0) : zRho (k + 1) = zRho k + 1 := zK_all (P := fun k c => c = 0 → zRho (k + 1) = zRho k + 1) (by decide +kernel) h (by decide) rfl
theorem zRho_1 {k : Nat} (h : zK k = 1) : zRho (k + 1) = zRho k + 1 := zK_all (P := fun k c => c = 1 → zRho (k + 1) = zRho k + 1) (by decide +kernel) h (by decide) rfl
theorem zRho_2 {k : Nat} (h : zK k = 2) : zRho (k + 1) = zRho k + 1 ∧ zRho (k + 2) = zRho k + 2 ∧ zRho (k + 3) = zRho k + 3 ∧ zRho (k + 5) = zRho k + 5 ∧ zRho (k + 12) = zRho k + 12 := zK_all (P := fun k c => c = 2 → zRho (k + 1) = zRho k + 1 ∧ zRho (k + 2) = zRho k + 2 ∧ zRho (k + 3) = zRho k + 3 ∧ zRho (k + 5) = zRho k + 5 ∧ zRho (k + 12) = zRho k + 12) (by decide +kernel) h (by decide) rfl
theorem zRho_3 {k : Nat} (h : zK k = 3) : zRho (k + 1) = zRho k + 1 := zK_all (P := fun k c => c = 3 → zRho (k + 1) = zRho k + 1) (by decide +kernel) h (by decide) rfl
theorem zRho_4 {k : Nat} (h : zK k = 4) : zRho (k + 1) = zRho k + 1 := zK_all (P := fun k c => c = 4 → zRho (k + 1) = zRho k + 1) (by decide +kernel) h (by decide) rfl
theorem zRho_5 {k : Nat} (h : zK k = 5) : zRho 332 = zRho k + 1 ∧ zRho (k + 1) = zRho k + 3 := zK_all (P := fun k c => c = 5 → zRho 332 = zRho k + 1 ∧ zRho (k + 1) = zRho k + 3) (by decide +kernel) h (by decide) rfl
theorem zRho_6 {k : Nat} (h : zK k = 6) : zRho 1 = zRho k + 1 ∧ zRho (k + 1) = zRho k + 110 := zK_all (P := fun k c => c = 6 → zRho 1 = zRho k + 1 ∧ zRho (k + 1) = zRho k + 110) (by decide +kernel) h (by decide) rfl
theorem zRho_7 {k : Nat} (h : zK k = 7) : zRho (k + 1) = zRho k + 1 ∧ zRho (k + 3) = zRho k + 3 ∧ zRho (k + 5) = zRho k + 5 := zK_all (P := fun k c => c = 7 → zRho (k + 1) = zRho k + 1 ∧ zRho (k + 3) = zRho k + 3 ∧ zRho (k + 5) = zRho k + 5) (by decide +kernel) h (by decide) rfl
theorem zRho_11 {k : Nat} (h : zK k = 11) : ∀ j, j < 6 → zRho (k + 4 + 3 * j) = zRho k + 4 + 3 * j := zK_all (P := fun k c => c = 11 → ∀ j, j < 6 → zRho (k + 4 + 3 * j) = zRho k + 4 + 3 * j) (by decide +kernel) h (by decide) rfl
theorem zRho_12 {k : Nat} (h : zK k = 12) : ∀ j, j < 12 → zRho (k + 14 + 2 * j) = zRho k + 14 + 2 * j := zK_all (P := fun k c => c = 12 → ∀ j, j < 12 → zRho (k + 14 + 2 * j) = zRho k + 14 + 2 * j) (by decide +kernel) h (by decide) rfl
theorem zRho_13 {k : Nat} (h : zK k = 13) : ∀ j, j < 10 → zRho (k + 37 + 7 * j) = zRho k + 37 + 7 * j := zK_all (P := fun k c => c = 13 → ∀ j, j < 10 → zRho (k + 37 + 7 * j) = zRho k + 37 + 7 * j) (by decide +kernel) h (by decide) rfl
theorem zRho_14 {k : Nat} (h : zK k = 14) : ∀ j, j < 6 → zRho (k + 1 + j) = zRho k + 1 + j := zK_all (P := fun k c => c = 14 → ∀ j, j < 6 → zRho (k + 1 + j) = zRho k + 1 + j) (by decide +kernel) h (by decide) rfl
theorem zRho_15 {k : Nat} (h : zK k = 15) : zRho k = k := zK_all (P := fun k c => c = 15 → zRho k = k) (by decide +kernel) h (by decide) rfl
theorem zRho_E {D : va_G} {cy : Nat → ClassId} {b0 : Nat} {ad : Nat → Nat} {k : Nat} (hk : k < 359) : wE (D, ad, cy, b0) wI0 zJ0 (zRho k) = zE (D, fun i => ad (zRho i), cy, b0) zI0 zJ0 k := by
  have hc : zK k < 16 := (show ∀ i, i < 359 → zK i < 16 by decide +kernel) k hk
  have hI := zRho_I hk
  unfold wE zE
  rw [zRho_K k hk, zRho_L k hk]
  generalize hz : zK k = c at hc ⊢
  match c, hc with
  | 0, _ =>
    show Sum.inr (0, wO (D, ad, cy, b0) wI0 zJ0 (zRho k) 0) = Sum.inr (0, zO (D, fun i => ad (zRho i), cy, b0) zI0 zJ0 k 0)
    simp only [wO, zO, hI, zRho_0 hz]
  | 1, _ =>
    show Sum.inr (1, wO (D, ad, cy, b0) wI0 zJ0 (zRho k) 1) = Sum.inr (1, zO (D, fun i => ad (zRho i), cy, b0) zI0 zJ0 k 1)
    simp only [wO, zO, hI, zRho_1 hz]
  | 2, _ =>
    obtain ⟨e1, e2, e3, e5, e12⟩ := zRho_2 hz
    show Sum.inr (2, wO (D, ad, cy, b0) wI0 zJ0 (zRho k) 2) = Sum.inr (2, zO (D, fun i => ad (zRho i), cy, b0) zI0 zJ0 k 2)
    simp only [wO, zO, hI, e1, e2, e3, e5, e12]
  | 3, _ =>
    show Sum.inr (3, wO (D, ad, cy, b0) wI0 zJ0 (zRho k) 3) = Sum.inr (3, zO (D, fun i => ad (zRho i), cy, b0) zI0 zJ0 k 3)
    simp only [wO, zO, hI, zRho_3 hz]
  | 4, _ =>
    show Sum.inr (4, wO (D, ad, cy, b0) wI0 zJ0 (zRho k) 4) = Sum.inr (4, zO (D, fun i => ad (zRho i), cy, b0) zI0 zJ0 k 4)
    simp only [wO, zO, hI, zRho_4 hz]
  | 5, _ =>
    obtain ⟨e1, e2⟩ := zRho_5 hz
    show Sum.inr (5, wO (D, ad, cy, b0) wI0 zJ0 (zRho k) 5) = Sum.inr (5, zO (D, fun i => ad (zRho i), cy, b0) zI0 zJ0 k 5)
    simp only [wO, zO, hI, e1, e2]
  | 6, _ =>
    obtain ⟨e1, e2⟩ := zRho_6 hz
    show Sum.inr (6, wO (D, ad, cy, b0) wI0 zJ0 (zRho k) 6) = Sum.inr (6, zO (D, fun i => ad (zRho i), cy, b0) zI0 zJ0 k 6)
    simp only [wO, zO, e1, e2]
  | 7, _ =>
    obtain ⟨e1, e2, e3⟩ := zRho_7 hz
    show Sum.inr (7, wO (D, ad, cy, b0) wI0 zJ0 (zRho k) 7) = Sum.inr (7, zO (D, fun i => ad (zRho i), cy, b0) zI0 zJ0 k 7)
    simp only [wO, zO, hI, e1, e2, e3]
  | 8, _ =>
    show Sum.inr (8, wO (D, ad, cy, b0) wI0 zJ0 (zRho k) 8) = Sum.inr (8, zO (D, fun i => ad (zRho i), cy, b0) zI0 zJ0 k 8)
    simp only [wO, zO, hI]
    rfl
  | 9, _ =>
    show Sum.inr (9, wO (D, ad, cy, b0) wI0 zJ0 (zRho k) 9) = Sum.inr (9, zO (D, fun i => ad (zRho i), cy, b0) zI0 zJ0 k 9)
    rfl
  | 10, _ =>
    show Sum.inl (cy 10, zLn k, Sum.inl (wI0 (zRho k))) = Sum.inl (cy 10, zLn k, Sum.inl (zI0 k))
    rw [hI]
  | 11, _ =>
    have e : (fun j => if j < 6 then some (ad (zRho k + 4 + 3 * j)) else none) = (fun j => if j < 6 then some (ad (zRho (k + 4 + 3 * j))) else none) := by
      funext j
      by_cases hj : j < 6
      · rw [if_pos hj, if_pos hj, zRho_11 hz j hj]
      · rw [if_neg hj, if_neg hj]
    show Sum.inl (cy 11, 6, Sum.inr (Sum.inr (Sum.inr (Sum.inr (fun j => if j < 6 then some (ad (zRho k + 4 + 3 * j)) else none))))) = Sum.inl (cy 11, 6, Sum.inr (Sum.inr (Sum.inr (Sum.inr (fun j => if j < 6 then some (ad (zRho (k + 4 + 3 * j))) else none)))))
    rw [e]
  | 12, _ =>
    have e : (fun j => if j < 12 then some (ad (zRho k + 14 + 2 * j)) else none) = (fun j => if j < 12 then some (ad (zRho (k + 14 + 2 * j))) else none) := by
      funext j
      by_cases hj : j < 12
      · rw [if_pos hj, if_pos hj, zRho_12 hz j hj]
      · rw [if_neg hj, if_neg hj]
    show Sum.inl (cy 12, 12, Sum.inr (Sum.inr (Sum.inr (Sum.inr (fun j => if j < 12 then some (ad (zRho k + 14 + 2 * j)) else none))))) = Sum.inl (cy 12, 12, Sum.inr (Sum.inr (Sum.inr (Sum.inr (fun j => if j < 12 then some (ad (zRho (k + 14 + 2 * j))) else none)))))
    rw [e]
  | 13, _ =>
    have e : (fun j => if j < 10 then some (ad (zRho k + 37 + 7 * j)) else none) = (fun j => if j < 10 then some (ad (zRho (k + 37 + 7 * j))) else none) := by
      funext j
      by_cases hj : j < 10
      · rw [if_pos hj, if_pos hj, zRho_13 hz j hj]
      · rw [if_neg hj, if_neg hj]
    show Sum.inl (cy 13, 10, Sum.inr (Sum.inr (Sum.inr (Sum.inr (fun j => if j < 10 then some (ad (zRho k + 37 + 7 * j)) else none))))) = Sum.inl (cy 13, 10, Sum.inr (Sum.inr (Sum.inr (Sum.inr (fun j => if j < 10 then some (ad (zRho (k + 37 + 7 * j))) else none)))))
    rw [e]
  | 14, _ =>
    have e : (fun j => if j < 6 then some (ad (zRho k + 1 + j)) else none) = (fun j => if j < 6 then some (ad (zRho (k + 1 + j))) else none) := by
      funext j
      by_cases hj : j < 6
      · rw [if_pos hj, if_pos hj, zRho_14 hz j hj]
      · rw [if_neg hj, if_neg hj]
    show Sum.inl (cy 14, 6, Sum.inr (Sum.inr (Sum.inr (Sum.inr (fun j => if j < 6 then some (ad (zRho k + 1 + j)) else none))))) = Sum.inl (cy 14, 6, Sum.inr (Sum.inr (Sum.inr (Sum.inr (fun j => if j < 6 then some (ad (zRho (k + 1 + j))) else none)))))
    rw [e]
  | 15, _ =>
    show Sum.inl (cy 10, zLn k, Sum.inl (zJ0 (zRho k - 359))) = Sum.inl (cy 10, zLn k, Sum.inl (zJ0 (k - 359)))
    rw [zRho_15 hz]
  | k + 16, h9 => exact absurd h9 (by omega)
theorem zblk_W {D : va_G} {cy : Nat → ClassId} {b0 : Nat} {ad : Nat → Nat} {E : Nat → va_E} (hB : zblk D cy b0 ad E 0 359) {k : Nat} {q : Nat × va_E} (h : (zW (D, fun i => ad (zRho i), cy, b0) zI0 zJ0)[k]? = some q) : (zN ad 359 E)[zRho k]? = some q := by
  obtain ⟨hk, rfl⟩ := zW_at h
  rw [zN_get (zRho_lt k hk), hB (zRho k) (Nat.zero_le _) (zRho_lt k hk), zRho_E hk]
theorem zblk_P {D : va_G} {cy : Nat → ClassId} {b0 : Nat} {ad : Nat → Nat} {E : Nat → va_E} {H : Heap} (hB : zblk D cy b0 ad E 0 359) (hP : va_P D vwCl (zN ad 359 E) H) : va_P D vwCl (zW (D, fun i => ad (zRho i), cy, b0) zI0 zJ0) H := fun k q h => hP (zRho k) q (zblk_W hB h)
theorem zblk_OK {D : va_G} {cy : Nat → ClassId} {b0 : Nat} {ad : Nat → Nat} {E : Nat → va_E} (hD : va_D (zB b0) (zN ad 359 E)) : zOK (D, fun i => ad (zRho i), cy, b0) :=
  ⟨fun i j hi hj he => zRho_inj hi hj (hD.1 _ _ _ _ (zN_get (zRho_lt i hi)) (zN_get (zRho_lt j hj)) he), fun i hi => hD.2 _ _ (zN_get (zRho_lt i hi))⟩

