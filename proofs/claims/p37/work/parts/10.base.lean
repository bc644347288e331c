/-! BASE: the objects of the class and of the reference as one fixed layout of 359 cells; I: the class's numbers, J: the reference's -/
abbrev zM : Type := Nat → Nat → Int32
abbrev zGT : Type := va_G × (Nat → Nat) × (Nat → ClassId) × Nat
def zKL : List Nat := [8, 2, 12, 13, 3, 10, 7, 4, 10, 4, 10, 4, 10, 0, 4, 10, 3, 10, 3, 10, 3, 10, 3, 10, 3, 10, 3, 10, 3, 10, 3, 10, 3, 10, 3, 10, 3, 10, 3, 10, 7, 4, 10, 4, 10, 4, 10, 7, 4, 10, 4, 10, 4, 10, 7, 4, 10, 4, 10, 4, 10, 7, 4, 10, 4, 10, 4, 10, 7, 4, 10, 4, 10, 4, 10, 7, 4, 10, 4, 10, 4, 10, 7, 4, 10, 4, 10, 4, 10, 7, 4, 10, 4, 10, 4, 10, 7, 4, 10, 4, 10, 4, 10, 7, 4, 10, 4, 10, 4, 10, 2, 12, 13, 3, 10, 7, 4, 10, 4, 10, 4, 10, 0, 4, 10, 3, 10, 3, 10, 3, 10, 3, 10, 3, 10, 3, 10, 3, 10, 3, 10, 3, 10, 3, 10, 3, 10, 3, 10, 7, 4, 10, 4, 10, 4, 10, 7, 4, 10, 4, 10, 4, 10, 7, 4, 10, 4, 10, 4, 10, 7, 4, 10, 4, 10, 4, 10, 7, 4, 10, 4, 10, 4, 10, 7, 4, 10, 4, 10, 4, 10, 7, 4, 10, 4, 10, 4, 10, 7, 4, 10, 4, 10, 4, 10, 7, 4, 10, 4, 10, 4, 10, 7, 4, 10, 4, 10, 4, 10, 2, 12, 13, 3, 10, 7, 4, 10, 4, 10, 4, 10, 0, 4, 10, 3, 10, 3, 10, 3, 10, 3, 10, 3, 10, 3, 10, 3, 10, 3, 10, 3, 10, 3, 10, 3, 10, 3, 10, 7, 4, 10, 4, 10, 4, 10, 7, 4, 10, 4, 10, 4, 10, 7, 4, 10, 4, 10, 4, 10, 7, 4, 10, 4, 10, 4, 10, 7, 4, 10, 4, 10, 4, 10, 7, 4, 10, 4, 10, 4, 10, 7, 4, 10, 4, 10, 4, 10, 7, 4, 10, 4, 10, 4, 10, 7, 4, 10, 4, 10, 4, 10, 7, 4, 10, 4, 10, 4, 10, 6, 0, 4, 10, 4, 10, 5, 4, 10, 11, 1, 4, 10, 1, 4, 10, 1, 4, 10, 1, 4, 10, 1, 4, 10, 1, 4, 10, 1, 4, 10]
def zK (k : Nat) : Nat := zKL.getD k 99
def zLL : List Nat := [0, 0, 12, 10, 0, 10, 0, 0, 24, 0, 24, 0, 32, 0, 0, 12, 0, 10, 0, 10, 0, 10, 0, 10, 0, 10, 0, 10, 0, 10, 0, 10, 0, 10, 0, 10, 0, 10, 0, 10, 0, 0, 24, 0, 24, 0, 32, 0, 0, 24, 0, 24, 0, 32, 0, 0, 24, 0, 24, 0, 32, 0, 0, 24, 0, 24, 0, 32, 0, 0, 24, 0, 24, 0, 32, 0, 0, 24, 0, 24, 0, 32, 0, 0, 24, 0, 24, 0, 32, 0, 0, 24, 0, 24, 0, 32, 0, 0, 24, 0, 24, 0, 32, 0, 0, 24, 0, 24, 0, 32, 0, 12, 10, 0, 10, 0, 0, 24, 0, 24, 0, 32, 0, 0, 12, 0, 10, 0, 10, 0, 10, 0, 10, 0, 10, 0, 10, 0, 10, 0, 10, 0, 10, 0, 10, 0, 10, 0, 10, 0, 0, 24, 0, 24, 0, 32, 0, 0, 24, 0, 24, 0, 32, 0, 0, 24, 0, 24, 0, 32, 0, 0, 24, 0, 24, 0, 32, 0, 0, 24, 0, 24, 0, 32, 0, 0, 24, 0, 24, 0, 32, 0, 0, 24, 0, 24, 0, 32, 0, 0, 24, 0, 24, 0, 32, 0, 0, 24, 0, 24, 0, 32, 0, 0, 24, 0, 24, 0, 32, 0, 12, 10, 0, 10, 0, 0, 24, 0, 24, 0, 32, 0, 0, 12, 0, 10, 0, 10, 0, 10, 0, 10, 0, 10, 0, 10, 0, 10, 0, 10, 0, 10, 0, 10, 0, 10, 0, 10, 0, 0, 24, 0, 24, 0, 32, 0, 0, 24, 0, 24, 0, 32, 0, 0, 24, 0, 24, 0, 32, 0, 0, 24, 0, 24, 0, 32, 0, 0, 24, 0, 24, 0, 32, 0, 0, 24, 0, 24, 0, 32, 0, 0, 24, 0, 24, 0, 32, 0, 0, 24, 0, 24, 0, 32, 0, 0, 24, 0, 24, 0, 32, 0, 0, 24, 0, 24, 0, 32, 0, 0, 0, 12, 0, 120, 0, 0, 155, 6, 0, 0, 60, 0, 0, 60, 0, 0, 60, 0, 0, 60, 0, 0, 60, 0, 0, 60, 0, 0, 60]
def zLn (k : Nat) : Nat := zLL.getD k 0
def ms (I : zM) (k j : Nat) (v : Int32) : zM := fun a => if a = k then upd (I k) j v else I a
def zO (G : zGT) (I J : zM) (k : Nat) (c : Nat) : List Value := match c with
  | 0 => [.ref (G.2.1 (k+1)), .int (I k 1)]
  | 1 => [.int (I k 0), .int (I k 1), .ref (G.2.1 (k+1))]
  | 2 => [.ref (G.2.1 (k+1)), .ref (G.2.1 (k+2)), .ref (G.2.1 (k+3)), .ref (G.2.1 (k+5)), .ref (G.2.1 (k+12)), .int (I k 5), .int (I k 6), .int (I k 7), .int (I k 8), .int (I k 9), .int (I k 10)]
  | 3 => [.int (I k 0), .int (I k 1), .int (I k 2), .int (I k 3), .int (I k 4), .ref (G.2.1 (k+1))]
  | 4 => [.int (I k 0), .int (I k 1), .ref (G.2.1 (k+1)), .int (I k 3)]
  | 5 => [.ref (G.2.1 (332)), .ref (G.2.1 (k+1)), .int (I k 2)]
  | 6 => [.ref (G.2.1 (1)), .ref (G.2.1 (k+1))]
  | 7 => [.int (I k 0), .int (I k 1), .int (I k 2), .int (I k 3), .int (I k 4), .int (I k 5), .int (I k 6), .ref (G.2.1 (k+1)), .ref (G.2.1 (k+3)), .ref (G.2.1 (k+5))]
  | 8 => [.ref (G.2.1 (328)), .ref (G.2.1 (1)), .ref (G.2.1 (110)), .ref (G.2.1 (219)), .ref (G.2.1 (334)), .ref (G.2.1 (332)), .ref (G.2.1 (337)), .ref (G.2.1 (338)), .int (I k 8)]
  | 9 => []
  | _ => []
def zE (G : zGT) (I J : zM) (k : Nat) : va_E :=
  if zK k < 10 then .inr (zK k, zO G I J k (zK k))
  else if zK k = 10 then .inl (G.2.2.1 10, zLn k, .inl (I k))
  else if zK k = 15 then .inl (G.2.2.1 10, zLn k, .inl (J (k - 359)))
  else if zK k = 11 then .inl (G.2.2.1 11, 6, .inr (.inr (.inr (.inr (fun j => if j < 6 then some (G.2.1 (k + 4 + 3 * j)) else none)))))
  else if zK k = 12 then .inl (G.2.2.1 12, 12, .inr (.inr (.inr (.inr (fun j => if j < 12 then some (G.2.1 (k + 14 + 2 * j)) else none)))))
  else if zK k = 13 then .inl (G.2.2.1 13, 10, .inr (.inr (.inr (.inr (fun j => if j < 10 then some (G.2.1 (k + 37 + 7 * j)) else none)))))
  else .inl (G.2.2.1 14, 6, .inr (.inr (.inr (.inr (fun j => if j < 6 then some (G.2.1 (k + 1 + j)) else none)))))
def zT (G : zGT) : List (ClassId × FieldType) := [(G.2.2.1 10, .int), (G.2.2.1 11, .object RX1), (G.2.2.1 12, .object RX3), (G.2.2.1 13, .object RX7)]
def zA (G : zGT) : Nat → Prop := fun q => G.2.2.2 ≤ q
def zOK (G : zGT) : Prop := (∀ i j, i < 359 → j < 359 → G.2.1 i = G.2.1 j → i = j) ∧ ∀ i, i < 359 → G.2.2.2 ≤ G.2.1 i
def zW (G : zGT) (I J : zM) : va_W := (List.range 359).map (fun k => (G.2.1 k, zE G I J k))
def zS (G : zGT) (I J : zM) (U : State) : Prop := va_P G.1 vwCl (zW G I J) U.heap ∧ va_K G.1 vwCl (zT G) U
def zrm (f l : Nat) : Room := { frames := f, cells := 0, slots := 0, locals := l }
def zQi (G : zGT) (r : Int32) (I J : zM) : Array Value → State → Outcome → State → Prop := va_Qi (fun (a : Int32) (_ : Unit) => a = r) (fun _ t => zS G I J t) (zA G)
def zQv (G : zGT) (I J : zM) : Array Value → State → Outcome → State → Prop := va_Qv (fun (_ : Unit) => True) (fun _ t => zS G I J t) (zA G)
def zQr (G : zGT) (r : Nat) (I J : zM) : Array Value → State → Outcome → State → Prop := va_Qr (fun (_ : Unit) => True) (fun _ a t => a = G.2.1 r ∧ zS G I J t) (zA G)
/-! the words of the functions -/
def zck {α : Type} (b : Bool) (k : Option α) : Option α := if b = true then k else none
def zb {α β : Type} (o : Option β) (k : β → Option α) : Option α := match o with
  | none => none
  | some q => k q
def zlet {α β : Type} (v : β) (k : β → Option α) : Option α := k v
def zin (x : Int32) (n : Nat) : Bool := !(decide (x < 0) || decide (n ≤ x.toNatClampNeg))
def zne (x : Int32) : Bool := decide (¬ x = 0)
def zbo (x : Int32) : Bool := decide (x &&& 1 = x)
theorem zck_e {α : Type} {b : Bool} {k : Option α} {r : α} (h : zck b k = some r) : b = true ∧ k = some r := by
  unfold zck at h
  split at h
  next q => exact ⟨q, h⟩
  next => cases h
theorem zb_e {α β : Type} {o : Option β} {k : β → Option α} {r : α} (h : zb o k = some r) : ∃ q, o = some q ∧ k q = some r := by
  cases o with
  | none => cases h
  | some q => exact ⟨q, rfl, h⟩
theorem zlet_e {α β : Type} {v : β} {k : β → Option α} {r : α} (h : zlet v k = some r) : ∃ w, w = v ∧ k w = some r := ⟨v, rfl, h⟩
theorem zif_t {α : Type} {c : Prop} {d : Decidable c} {a b : Option α} {r : α} (hc : c) (h : (if c then a else b) = some r) : a = some r := by rwa [if_pos hc] at h
theorem zif_f {α : Type} {c : Prop} {d : Decidable c} {a b : Option α} {r : α} (hc : ¬ c) (h : (if c then a else b) = some r) : b = some r := by rwa [if_neg hc] at h
theorem zin_e {x : Int32} {n : Nat} (h : zin x n = true) : vp_in x n := by
  unfold zin at h
  unfold vp_in
  simpa using h
theorem zin_lt {x : Int32} {n : Nat} (h : zin x n = true) : x.toNatClampNeg < n := Nat.not_le.mp fun q => zin_e h (Or.inr q)
def zFu : Nat := 2000
/-- a value is outside a table, or one of its places -/
theorem z_sw (x : Int32) (lo hi : Int) (n : Nat) (hn : hi = lo + n - 1) : (x.toInt < lo ∨ hi < x.toInt) ∨ ∃ k : Nat, k < n ∧ x = Int32.ofInt (lo + k) := by
  by_cases h1 : x.toInt < lo
  · exact Or.inl (Or.inl h1)
  · by_cases h2 : hi < x.toInt
    · exact Or.inl (Or.inr h2)
    · refine Or.inr ⟨(x.toInt - lo).toNat, by omega, ?_⟩
      rw [show lo + ((x.toInt - lo).toNat : Int) = x.toInt by omega]
      exact (Int32.ofInt_toInt x).symm
theorem zne_e {x : Int32} (h : zne x = true) : ¬ x = 0 := of_decide_eq_true h
theorem zbo_e {x : Int32} (h : zbo x = true) : narrow .boolean (.int x) = .int x := by
  have h2 : x &&& 1 = x := of_decide_eq_true h
  show Value.int (x &&& 1) = _
  rw [h2]
/-! the memory -/
theorem ms_s (I : zM) (k j : Nat) (v : Int32) : ms I k j v k = upd (I k) j v := if_pos rfl
theorem ms_n {I : zM} {k j a : Nat} {v : Int32} (h : a ≠ k) : ms I k j v a = I a := if_neg h
theorem ms_ss (I : zM) (k j : Nat) (v : Int32) : ms I k j v k j = v := by rw [ms_s]; exact if_pos rfl
theorem ms_sn {I : zM} {k j i : Nat} {v : Int32} (h : i ≠ j) : ms I k j v k i = I k i := by rw [ms_s]; exact if_neg h
theorem zK_lt {k c : Nat} (h : zK k = c) (hc : c < 20) : k < 359 := by
  rcases Nat.lt_or_ge k 359 with q | q
  · exact q
  · have hl : zKL.length = 359 := by decide +kernel
    have e : zKL.getD k 99 = 99 := by
      rw [List.getD_eq_getElem?_getD, List.getElem?_eq_none (by omega)]
      rfl
    have h : zKL.getD k 99 = c := h
    omega
theorem zK_all {P : Nat → Nat → Prop} (h : ∀ k, k < 359 → P k (zK k)) {k c : Nat} (hk : zK k = c) (hc : c < 20) : P k c := by
  have := h k (zK_lt hk hc)
  rwa [hk] at this
theorem zE_o {G : zGT} {I J : zM} {k c : Nat} (h : zK k = c) (hc : c < 10) : zE G I J k = .inr (c, zO G I J k c) := by
  unfold zE
  rw [h, if_pos hc]
theorem zE_10 {G : zGT} {I J : zM} {k n : Nat} (h : zK k = 10) (hn : zLn k = n) : zE G I J k = .inl (G.2.2.1 10, n, .inl (I k)) := by
  unfold zE
  rw [h, hn, if_neg (by decide), if_pos rfl]
theorem zE_15 {G : zGT} {I J : zM} {k j n : Nat} (h : zK k = 15) (hn : zLn k = n) (hj : k = 359 + j) : zE G I J k = .inl (G.2.2.1 10, n, .inl (J j)) := by
  unfold zE
  rw [h, hn, if_neg (by decide), if_neg (by decide), if_pos rfl, show k - 359 = j by omega]
theorem zE_11 {G : zGT} {I J : zM} {k : Nat} (h : zK k = 11) : zE G I J k = .inl (G.2.2.1 11, 6, .inr (.inr (.inr (.inr (fun j => if j < 6 then some (G.2.1 (k + 4 + 3 * j)) else none))))) := by
  unfold zE
  rw [h, if_neg (by decide), if_neg (by decide), if_neg (by decide), if_pos rfl]
theorem zE_12 {G : zGT} {I J : zM} {k : Nat} (h : zK k = 12) : zE G I J k = .inl (G.2.2.1 12, 12, .inr (.inr (.inr (.inr (fun j => if j < 12 then some (G.2.1 (k + 14 + 2 * j)) else none))))) := by
  unfold zE
  rw [h, if_neg (by decide), if_neg (by decide), if_neg (by decide), if_neg (by decide), if_pos rfl]
theorem zE_13 {G : zGT} {I J : zM} {k : Nat} (h : zK k = 13) : zE G I J k = .inl (G.2.2.1 13, 10, .inr (.inr (.inr (.inr (fun j => if j < 10 then some (G.2.1 (k + 37 + 7 * j)) else none))))) := by
  unfold zE
  rw [h, if_neg (by decide), if_neg (by decide), if_neg (by decide), if_neg (by decide), if_neg (by decide), if_pos rfl]
theorem zE_14 {G : zGT} {I J : zM} {k : Nat} (h : zK k = 14) : zE G I J k = .inl (G.2.2.1 14, 6, .inr (.inr (.inr (.inr (fun j => if j < 6 then some (G.2.1 (k + 1 + j)) else none))))) := by
  unfold zE
  rw [h, if_neg (by decide), if_neg (by decide), if_neg (by decide), if_neg (by decide), if_neg (by decide), if_neg (by decide)]
theorem zE_congr {G : zGT} {I J I2 J2 : zM} {k : Nat} (h1 : k < 359 → I2 k = I k) (h2 : 359 ≤ k → J2 (k - 359) = J (k - 359)) (hk : k < 359) : zE G I2 J2 k = zE G I J k := by
  rcases Nat.lt_or_ge k 359 with q | q
  · have e := h1 q
    have n9 : zK k ≠ 9 ∧ zK k ≠ 15 := by
      have : ∀ k, k < 359 → zK k ≠ 9 ∧ zK k ≠ 15 := by decide +kernel
      exact this k q
    unfold zE
    rw [e, if_neg n9.2, if_neg n9.2]
    have eo : zO G I2 J2 k (zK k) = zO G I J k (zK k) := by
      generalize zK k = c at n9
      match c with
      | 9 => exact absurd rfl n9.1
      | 0 | 1 | 2 | 3 | 4 | 5 | 6 | 7 | 8 | _ + 10 => simp only [zO, e]
    rw [eo]
  · exact absurd hk (by omega)
theorem zW_get {G : zGT} {I J : zM} {k : Nat} (hk : k < 359) : (zW G I J)[k]? = some (G.2.1 k, zE G I J k) := by
  unfold zW
  rw [List.getElem?_map, List.getElem?_range hk]
  rfl
theorem zW_at {G : zGT} {I J : zM} {k : Nat} {q : Nat × va_E} (h : (zW G I J)[k]? = some q) : k < 359 ∧ q = (G.2.1 k, zE G I J k) := by
  have hl := (List.getElem?_eq_some_iff.mp h).1
  have hk : k < 359 := by
    unfold zW at hl
    simpa using hl
  rw [zW_get hk] at h
  exact ⟨hk, (Option.some.inj h).symm⟩
theorem zW_D {G : zGT} (hG : zOK G) (I J : zM) : va_D (zA G) (zW G I J) := by
  refine ⟨fun i j p q hi hj e => ?_, fun k q hk => ?_⟩
  · obtain ⟨h1, rfl⟩ := zW_at hi
    obtain ⟨h2, rfl⟩ := zW_at hj
    exact hG.1 i j h1 h2 e
  · obtain ⟨h1, rfl⟩ := zW_at hk
    exact hG.2 k h1
theorem zW_set {G : zGT} {I J I2 J2 : zM} {k : Nat} {e : va_E} (he : e = zE G I2 J2 k) (ho : ∀ a, a < 359 → a ≠ k → zE G I2 J2 a = zE G I J a) : (zW G I J).set k (G.2.1 k, e) = zW G I2 J2 := by
  apply List.ext_getElem?
  intro a
  by_cases ha : a < 359
  · rw [zW_get ha]
    by_cases hak : k = a
    · subst hak
      rw [List.getElem?_set_self (by unfold zW; simpa using ha), he]
    · rw [List.getElem?_set_ne hak, zW_get ha, ho a ha (fun q => hak q.symm)]
  · have h1 : ((zW G I J).set k (G.2.1 k, e)).length ≤ a := by
      unfold zW
      simpa using ha
    have h2 : (zW G I2 J2).length ≤ a := by
      unfold zW
      simpa using ha
    rw [List.getElem?_eq_none h1, List.getElem?_eq_none h2]
theorem zo_C {G : zGT} {I J : zM} {k j : Nat} {v : Int32} : ∀ a, a < 359 → a ≠ k → zE G (ms I k j v) J a = zE G I J a :=
  fun a ha hk => zE_congr (fun _ => ms_n hk) (fun _ => rfl) ha
theorem zo_M {G : zGT} {I J : zM} {k j : Nat} {v : Int32} : ∀ a, a < 359 → a ≠ 359 + k → zE G I (ms J k j v) a = zE G I J a :=
  fun a ha hk => zE_congr (fun _ => rfl) (fun q => ms_n (by omega)) ha
theorem zs_0_1 {G : zGT} {I J : zM} {k : Nat} (v : Int32) : (zO G I J k 0).set 1 (.int v) = zO G (ms I k 1 v) J k 0 := by simp [zO, ms, upd]
theorem zs_1_0 {G : zGT} {I J : zM} {k : Nat} (v : Int32) : (zO G I J k 1).set 0 (.int v) = zO G (ms I k 0 v) J k 1 := by simp [zO, ms, upd]
theorem zs_1_1 {G : zGT} {I J : zM} {k : Nat} (v : Int32) : (zO G I J k 1).set 1 (.int v) = zO G (ms I k 1 v) J k 1 := by simp [zO, ms, upd]
theorem zs_2_5 {G : zGT} {I J : zM} {k : Nat} (v : Int32) : (zO G I J k 2).set 5 (.int v) = zO G (ms I k 5 v) J k 2 := by simp [zO, ms, upd]
theorem zs_2_6 {G : zGT} {I J : zM} {k : Nat} (v : Int32) : (zO G I J k 2).set 6 (.int v) = zO G (ms I k 6 v) J k 2 := by simp [zO, ms, upd]
theorem zs_2_7 {G : zGT} {I J : zM} {k : Nat} (v : Int32) : (zO G I J k 2).set 7 (.int v) = zO G (ms I k 7 v) J k 2 := by simp [zO, ms, upd]
theorem zs_2_8 {G : zGT} {I J : zM} {k : Nat} (v : Int32) : (zO G I J k 2).set 8 (.int v) = zO G (ms I k 8 v) J k 2 := by simp [zO, ms, upd]
theorem zs_2_9 {G : zGT} {I J : zM} {k : Nat} (v : Int32) : (zO G I J k 2).set 9 (.int v) = zO G (ms I k 9 v) J k 2 := by simp [zO, ms, upd]
theorem zs_2_10 {G : zGT} {I J : zM} {k : Nat} (v : Int32) : (zO G I J k 2).set 10 (.int v) = zO G (ms I k 10 v) J k 2 := by simp [zO, ms, upd]
theorem zs_3_0 {G : zGT} {I J : zM} {k : Nat} (v : Int32) : (zO G I J k 3).set 0 (.int v) = zO G (ms I k 0 v) J k 3 := by simp [zO, ms, upd]
theorem zs_3_1 {G : zGT} {I J : zM} {k : Nat} (v : Int32) : (zO G I J k 3).set 1 (.int v) = zO G (ms I k 1 v) J k 3 := by simp [zO, ms, upd]
theorem zs_3_2 {G : zGT} {I J : zM} {k : Nat} (v : Int32) : (zO G I J k 3).set 2 (.int v) = zO G (ms I k 2 v) J k 3 := by simp [zO, ms, upd]
theorem zs_3_3 {G : zGT} {I J : zM} {k : Nat} (v : Int32) : (zO G I J k 3).set 3 (.int v) = zO G (ms I k 3 v) J k 3 := by simp [zO, ms, upd]
theorem zs_3_4 {G : zGT} {I J : zM} {k : Nat} (v : Int32) : (zO G I J k 3).set 4 (.int v) = zO G (ms I k 4 v) J k 3 := by simp [zO, ms, upd]
theorem zs_4_0 {G : zGT} {I J : zM} {k : Nat} (v : Int32) : (zO G I J k 4).set 0 (.int v) = zO G (ms I k 0 v) J k 4 := by simp [zO, ms, upd]
theorem zs_4_1 {G : zGT} {I J : zM} {k : Nat} (v : Int32) : (zO G I J k 4).set 1 (.int v) = zO G (ms I k 1 v) J k 4 := by simp [zO, ms, upd]
theorem zs_4_3 {G : zGT} {I J : zM} {k : Nat} (v : Int32) : (zO G I J k 4).set 3 (.int v) = zO G (ms I k 3 v) J k 4 := by simp [zO, ms, upd]
theorem zs_5_2 {G : zGT} {I J : zM} {k : Nat} (v : Int32) : (zO G I J k 5).set 2 (.int v) = zO G (ms I k 2 v) J k 5 := by simp [zO, ms, upd]
theorem zs_7_0 {G : zGT} {I J : zM} {k : Nat} (v : Int32) : (zO G I J k 7).set 0 (.int v) = zO G (ms I k 0 v) J k 7 := by simp [zO, ms, upd]
theorem zs_7_1 {G : zGT} {I J : zM} {k : Nat} (v : Int32) : (zO G I J k 7).set 1 (.int v) = zO G (ms I k 1 v) J k 7 := by simp [zO, ms, upd]
theorem zs_7_2 {G : zGT} {I J : zM} {k : Nat} (v : Int32) : (zO G I J k 7).set 2 (.int v) = zO G (ms I k 2 v) J k 7 := by simp [zO, ms, upd]
theorem zs_7_3 {G : zGT} {I J : zM} {k : Nat} (v : Int32) : (zO G I J k 7).set 3 (.int v) = zO G (ms I k 3 v) J k 7 := by simp [zO, ms, upd]
theorem zs_7_4 {G : zGT} {I J : zM} {k : Nat} (v : Int32) : (zO G I J k 7).set 4 (.int v) = zO G (ms I k 4 v) J k 7 := by simp [zO, ms, upd]
theorem zs_7_5 {G : zGT} {I J : zM} {k : Nat} (v : Int32) : (zO G I J k 7).set 5 (.int v) = zO G (ms I k 5 v) J k 7 := by simp [zO, ms, upd]
theorem zs_7_6 {G : zGT} {I J : zM} {k : Nat} (v : Int32) : (zO G I J k 7).set 6 (.int v) = zO G (ms I k 6 v) J k 7 := by simp [zO, ms, upd]
theorem zs_8_8 {G : zGT} {I J : zM} {k : Nat} (v : Int32) : (zO G I J k 8).set 8 (.int v) = zO G (ms I k 8 v) J k 8 := by simp [zO, ms, upd]
/-! what is reached from an object of a kind -/
theorem zk_0_0 {k : Nat} (h : zK k = 0) : zK (k + 1) = 4 := zK_all (P := fun k c => c = 0 → zK (k + 1) = 4) (by decide +kernel) h (by decide) rfl
theorem zk_1_2 {k : Nat} (h : zK k = 1) : zK (k + 1) = 4 := zK_all (P := fun k c => c = 1 → zK (k + 1) = 4) (by decide +kernel) h (by decide) rfl
theorem zk_2_0 {k : Nat} (h : zK k = 2) : zK (k + 1) = 12 := zK_all (P := fun k c => c = 2 → zK (k + 1) = 12) (by decide +kernel) h (by decide) rfl
theorem zk_2_1 {k : Nat} (h : zK k = 2) : zK (k + 2) = 13 := zK_all (P := fun k c => c = 2 → zK (k + 2) = 13) (by decide +kernel) h (by decide) rfl
theorem zk_2_2 {k : Nat} (h : zK k = 2) : zK (k + 3) = 3 := zK_all (P := fun k c => c = 2 → zK (k + 3) = 3) (by decide +kernel) h (by decide) rfl
theorem zk_2_3 {k : Nat} (h : zK k = 2) : zK (k + 5) = 7 := zK_all (P := fun k c => c = 2 → zK (k + 5) = 7) (by decide +kernel) h (by decide) rfl
theorem zk_2_4 {k : Nat} (h : zK k = 2) : zK (k + 12) = 0 := zK_all (P := fun k c => c = 2 → zK (k + 12) = 0) (by decide +kernel) h (by decide) rfl
theorem zk_2_p {k : Nat} (h : zK k = 2) : ∀ i, i < 12 → zK (k + 15 + 2 * i) = 3 := zK_all (P := fun k c => c = 2 → ∀ i, i < 12 → zK (k + 15 + 2 * i) = 3) (by decide +kernel) h (by decide) rfl
theorem zk_2_t {k : Nat} (h : zK k = 2) : ∀ i, i < 10 → zK (k + 39 + 7 * i) = 7 := zK_all (P := fun k c => c = 2 → ∀ i, i < 10 → zK (k + 39 + 7 * i) = 7) (by decide +kernel) h (by decide) rfl
theorem zk_3_5 {k : Nat} (h : zK k = 3) : zK (k + 1) = 10 := zK_all (P := fun k c => c = 3 → zK (k + 1) = 10) (by decide +kernel) h (by decide) rfl
theorem zl_3_5 {k : Nat} (h : zK k = 3) : zLn (k + 1) = 10 := zK_all (P := fun k c => c = 3 → zLn (k + 1) = 10) (by decide +kernel) h (by decide) rfl
theorem zk_4_2 {k : Nat} (h : zK k = 4) : zK (k + 1) = 10 := zK_all (P := fun k c => c = 4 → zK (k + 1) = 10) (by decide +kernel) h (by decide) rfl
theorem zk_7_7 {k : Nat} (h : zK k = 7) : zK (k + 1) = 4 := zK_all (P := fun k c => c = 7 → zK (k + 1) = 4) (by decide +kernel) h (by decide) rfl
theorem zk_7_8 {k : Nat} (h : zK k = 7) : zK (k + 3) = 4 := zK_all (P := fun k c => c = 7 → zK (k + 3) = 4) (by decide +kernel) h (by decide) rfl
theorem zk_7_9 {k : Nat} (h : zK k = 7) : zK (k + 5) = 4 := zK_all (P := fun k c => c = 7 → zK (k + 5) = 4) (by decide +kernel) h (by decide) rfl
theorem zk_h (i : Nat) (h : i < 6) : zK (341 + 3 * i) = 1 := (show ∀ i, i < 6 → zK (341 + 3 * i) = 1 by decide +kernel) i h
theorem zkL_0 : zK 0 = 8 := by decide +kernel
theorem zkL_1 : zK 1 = 2 := by decide +kernel
theorem zkL_110 : zK 110 = 2 := by decide +kernel
theorem zkL_219 : zK 219 = 2 := by decide +kernel
theorem zkL_328 : zK 328 = 6 := by decide +kernel
theorem zkL_329 : zK 329 = 0 := by decide +kernel
theorem zkL_332 : zK 332 = 4 := by decide +kernel
theorem zkL_334 : zK 334 = 5 := by decide +kernel
theorem zkL_335 : zK 335 = 4 := by decide +kernel
theorem zkL_337 : zK 337 = 11 := by decide +kernel
theorem zkL_338 : zK 338 = 1 := by decide +kernel
/-! THE ROWS: what each instruction of the heap does, over the layout -/
def zF (p : Program) (s : State) (m : MethodId) (args : Array Value) (meth : Method) (c : Code) (cc : ByteArray) (n : Nat) (ret : Option FieldType) (ws : List Cond) (own : String) : Prop :=
  p.tables.exec = Jvm.exec ∧ c.code = cc ∧ meth.sig.returnType = ret ∧ c.maxLocals = n ∧ (∀ w ∈ ws, w.before args s = true) ∧ s.vm.findClass own = some m.cls ∧ meth.locks = false
theorem zMet {l : Launch} {y : MethodName} {ws ws' : List Cond} {rm : Room} {cc : ByteArray} {n : Nat} {ret : Option FieldType} {G : zGT} {I J : zM} {vs : List Value} {Qc : Array Value → State → Outcome → State → Prop}
    (hy : plainName y.cls = true) (hw : ws = Cond.code y cc n ret :: ws') (hn : (lg_sl vs).length ≤ n)
    (body : ∀ p e s m args below meth c H locs ls, zF p s m args meth c cc n ret ws y.cls → va_K G.1 vwCl (zT G) s → va_P G.1 vwCl (zW G I J) H → va_S (zA G) s.heap H locs → lv_has ls n (lv_args 0 vs) →
      W p l e rm s m args below meth c H locs 0 0 (MQ below Qc args s 0 0 (zA G)) (F0 m 0 ls [])) : Met l y ws rm (va_Pc vs (zS G I J)) Qc 0 0 (zA G) := by
  refine Met.ofW (cc := cc) (maxL := n) (ret := ret) hy hw ?_
  intro p e s m args below meth c s₁ B hml hv
  obtain ⟨rfl, hP, hK⟩ := hv
  have hl := lv_entry vs (n := n) hn
  rw [lg_entry_eq]
  exact body p e s m _ below meth c s.heap [] _ ⟨B.exec, B.bytes, B.returns, hml, atoms_spec (ws := ws) B.pre, findClass_of_methodNamed B.named, B.notSynchronized⟩ hK hP va_S.rf hl
section ZR
variable {p : Program} {l : Launch} {e : Env} {R : Room} {s : State} {m : MethodId} {args : Array Value} {below : List Frame} {meth : Method} {c : Code} {H H0 : Heap} {locs : List Loc} {cells slots : Nat} {Q : State → Prop}
variable {cc : ByteArray} {pc : Nat} {ls : Array Slot} {rest : List Value} {G : zGT} {I J I2 J2 : zM} {Ts : List Cond} {own C : String} {T : u_T} {N index : Nat}
theorem z_topi {x y : Int32} (h : y = x) (k : W p l e R s m args below meth c H locs cells slots Q (F0 m pc ls (.int y :: rest))) : W p l e R s m args below meth c H locs cells slots Q (F0 m pc ls (.int x :: rest)) := h ▸ k
theorem x_get {k ci j : Nat} {v : Value} (hx : p.tables.exec = Jvm.exec) (hb : c.code = cc) (hts : ∀ w ∈ Ts, w.before args s = true) (hin : ∀ w ∈ u_ws C T N, w ∈ Ts) (hown : s.vm.findClass own = some m.cls) (hK : va_K G.1 vwCl (zT G) s) (hP : va_P G.1 vwCl (zW G I J) H)
    (hk : zK k = ci) (hc : vwCl[ci]? = some (C, T, N)) (hj : j < N) (hlink : (Cond.fieldLink own index (T j).1 (T j).2.1 (T j).2.2.1).before args s = true) (hv : (zO G I J k ci)[j]? = some v) (hci : ci < 10) (hdg : decode cc pc = .ok (.getfield index, 3))
    (kk : W p l e R s m args below meth c H locs cells slots Q (F0 m (pc + 3) ls (v :: rest))) : W p l e R s m args below meth c H locs cells slots Q (F0 m pc ls (.ref (G.2.1 k) :: rest)) :=
  va_get (D := G.1) (ci := ci) (ref := (T j).1) hx hb hts hin hown hK hP k (by rw [zW_get (zK_lt hk (by omega)), zE_o hk hci]) hc j hj hlink (fun _ h => h) hv hdg kk
theorem x_put {k ci j : Nat} {v : Value} {ty0 : Nat → FieldType} {ty : FieldType} (hx : p.tables.exec = Jvm.exec) (hb : c.code = cc) (hts : ∀ w ∈ Ts, w.before args s = true) (hin : ∀ w ∈ u_ws C T N, w ∈ Ts) (hown : s.vm.findClass own = some m.cls) (hG : zOK G) (hK : va_K G.1 vwCl (zT G) s) (hP : va_P G.1 vwCl (zW G I J) H) (hS : va_S (zA G) H0 H locs)
    (hk : zK k = ci) (hc : vwCl[ci]? = some (C, T, N)) (hty : ∀ k, k < N → parseFieldDescriptor (T k).2.2.1 = some (ty0 k)) (hnm : ∀ a, a < N → ∀ b, b < N → a ≠ b → (T a).2.1 ≠ (T b).2.1) (hj : j < N) (hlink : (Cond.fieldLink own index (T j).1 (T j).2.1 (T j).2.2.1).before args s = true) (hfin : (T j).2.2.2 = false) (hd : parseFieldDescriptor (T j).2.2.1 = some ty) (hn : narrow ty v = v) (hfit : fits ty v = true)
    (hl : j < (zO G I J k ci).length) (hs : (zO G I J k ci).set j v = zO G I2 J2 k ci) (ho : ∀ a, a < 359 → a ≠ k → zE G I2 J2 a = zE G I J a) (hci : ci < 10) (hdg : decode cc pc = .ok (.putfield index, 3))
    (kk : ∀ (H1 : Heap) (locs1 : List Loc), va_P G.1 vwCl (zW G I2 J2) H1 → va_S (zA G) H0 H1 locs1 → W p l e R s m args below meth c H1 locs1 cells slots Q (F0 m (pc + 3) ls rest)) : W p l e R s m args below meth c H locs cells slots Q (F0 m pc ls (v :: .ref (G.2.1 k) :: rest)) := by
  have hlt := zK_lt hk (by omega)
  refine va_put (D := G.1) (A := zA G) (ci := ci) (ref := (T j).1) (ty := ty) hx hb hts hin ty0 hty hnm hown hK hP (zW_D hG I J) hS k (fs := zO G I J k ci) (by rw [zW_get hlt, zE_o hk hci]) hc j hj hlink (fun _ h => h) hfin hd hn hfit hl hdg (fun H1 locs1 hP1 _ hS1 => ?_)
  rw [hs, zW_set (I2 := I2) (J2 := J2) (zE_o hk hci).symm ho] at hP1
  exact kk H1 locs1 hP1 hS1
theorem x_iald {k n : Nat} {f : Nat → Int32} {i : Int32} (hx : p.tables.exec = Jvm.exec) (hb : c.code = cc) (hK : va_K G.1 vwCl (zT G) s) (hP : va_P G.1 vwCl (zW G I J) H) (hk : k < 359) (he : zE G I J k = .inl (G.2.2.1 10, n, .inl f)) (hin : vp_in i n) (hdg : decode cc pc = .ok (.iaload, 1))
    (kk : W p l e R s m args below meth c H locs cells slots Q (F0 m (pc + 1) ls (.int (f i.toNatClampNeg) :: rest))) : W p l e R s m args below meth c H locs cells slots Q (F0 m pc ls (.int i :: .ref (G.2.1 k) :: rest)) :=
  va_iald (D := G.1) hx hb hK hP k 0 (by rw [zW_get hk, he]) rfl hin hdg kk
theorem x_ialdL {k n j : Nat} {f : Nat → Int32} {i : Int32} (hx : p.tables.exec = Jvm.exec) (hb : c.code = cc) (hK : va_K G.1 vwCl (zT G) s) (hP : va_P G.1 vwCl (zW G I J) H) (hk : k < 359) (he : zE G I J k = .inl (G.2.2.1 10, n, .inl f)) (hin : zin i n = true) (hj : i.toNatClampNeg = j) (hdg : decode cc pc = .ok (.iaload, 1))
    (kk : W p l e R s m args below meth c H locs cells slots Q (F0 m (pc + 1) ls (.int (f j) :: rest))) : W p l e R s m args below meth c H locs cells slots Q (F0 m pc ls (.int i :: .ref (G.2.1 k) :: rest)) := by
  subst hj
  exact x_iald hx hb hK hP hk he (zin_e hin) hdg kk
theorem x_iast {k n : Nat} {f : Nat → Int32} {i x : Int32} (hx : p.tables.exec = Jvm.exec) (hb : c.code = cc) (hG : zOK G) (hK : va_K G.1 vwCl (zT G) s) (hP : va_P G.1 vwCl (zW G I J) H) (hS : va_S (zA G) H0 H locs) (hk : k < 359) (he : zE G I J k = .inl (G.2.2.1 10, n, .inl f)) (he2 : zE G I2 J2 k = .inl (G.2.2.1 10, n, .inl (upd f i.toNatClampNeg x))) (ho : ∀ a, a < 359 → a ≠ k → zE G I2 J2 a = zE G I J a) (hin : vp_in i n) (hdg : decode cc pc = .ok (.iastore, 1))
    (kk : ∀ (H1 : Heap) (locs1 : List Loc), va_P G.1 vwCl (zW G I2 J2) H1 → va_S (zA G) H0 H1 locs1 → W p l e R s m args below meth c H1 locs1 cells slots Q (F0 m (pc + 1) ls rest)) : W p l e R s m args below meth c H locs cells slots Q (F0 m pc ls (.int x :: .int i :: .ref (G.2.1 k) :: rest)) := by
  refine va_iast (D := G.1) (A := zA G) hx hb hK hP (zW_D hG I J) hS k 0 (by rw [zW_get hk, he]) rfl hin hdg (fun H1 locs1 hP1 _ hS1 => ?_)
  rw [zW_set (I2 := I2) (J2 := J2) he2.symm ho] at hP1
  exact kk H1 locs1 hP1 hS1
theorem x_iastC {k n : Nat} {i x : Int32} (he0 : I2 = ms I k i.toNatClampNeg x) (hx : p.tables.exec = Jvm.exec) (hb : c.code = cc) (hG : zOK G) (hK : va_K G.1 vwCl (zT G) s) (hP : va_P G.1 vwCl (zW G I J) H) (hS : va_S (zA G) H0 H locs) (hk : zK k = 10) (hn : zLn k = n) (hin : vp_in i n) (hdg : decode cc pc = .ok (.iastore, 1))
    (kk : ∀ (H1 : Heap) (locs1 : List Loc), va_P G.1 vwCl (zW G I2 J) H1 → va_S (zA G) H0 H1 locs1 → W p l e R s m args below meth c H1 locs1 cells slots Q (F0 m (pc + 1) ls rest)) : W p l e R s m args below meth c H locs cells slots Q (F0 m pc ls (.int x :: .int i :: .ref (G.2.1 k) :: rest)) := by
  subst he0
  exact x_iast hx hb hG hK hP hS (zK_lt hk (by decide)) (zE_10 hk hn) (by rw [zE_10 hk hn, ms_s]) zo_C hin hdg kk
theorem x_alen {k : Nat} {cA : ClassId} {x : vp_A} {v : Int32} (t0 : Nat) {ty : FieldType} (hx : p.tables.exec = Jvm.exec) (hb : c.code = cc) (hK : va_K G.1 vwCl (zT G) s) (hP : va_P G.1 vwCl (zW G I J) H) (hk : k < 359) (he : zE G I J k = .inl (cA, x)) (ht : (zT G)[t0]? = some (cA, ty)) (hv : Int32.ofNat x.1 = v) (hdg : decode cc pc = .ok (.arraylength, 1))
    (kk : W p l e R s m args below meth c H locs cells slots Q (F0 m (pc + 1) ls (.int v :: rest))) : W p l e R s m args below meth c H locs cells slots Q (F0 m pc ls (.ref (G.2.1 k) :: rest)) :=
  va_alen (D := G.1) hx hb hK hP k t0 (by rw [zW_get hk, he]) ht hv hdg kk
theorem x_aald {k n t0 : Nat} {cA : ClassId} {C0 : String} {h : Nat → Nat} {i : Int32} (hx : p.tables.exec = Jvm.exec) (hb : c.code = cc) (hK : va_K G.1 vwCl (zT G) s) (hP : va_P G.1 vwCl (zW G I J) H) (hk : k < 359) (he : zE G I J k = .inl (cA, n, .inr (.inr (.inr (.inr (fun j => if j < n then some (G.2.1 (h j)) else none)))))) (ht : (zT G)[t0]? = some (cA, .object C0)) (hin : vp_in i n) (hdg : decode cc pc = .ok (.aaload, 1))
    (kk : W p l e R s m args below meth c H locs cells slots Q (F0 m (pc + 1) ls (.ref (G.2.1 (h i.toNatClampNeg)) :: rest))) : W p l e R s m args below meth c H locs cells slots Q (F0 m pc ls (.int i :: .ref (G.2.1 k) :: rest)) :=
  va_aldq (D := G.1) (f := fun j => if j < n then some (G.2.1 (h j)) else none) hx hb hK hP k t0 (by rw [zW_get hk, he]) ht hin hdg (by
    have hlt : i.toNatClampNeg < n := Nat.not_le.mp fun q => hin (Or.inr q)
    show W p l e R s m args below meth c H locs cells slots Q (F0 m (pc + 1) ls (va_rf (if i.toNatClampNeg < n then some (G.2.1 (h i.toNatClampNeg)) else none) :: rest))
    rw [if_pos hlt]
    exact kk)
theorem x_aald11 {i : Int32} (hx : p.tables.exec = Jvm.exec) (hb : c.code = cc) (hK : va_K G.1 vwCl (zT G) s) (hP : va_P G.1 vwCl (zW G I J) H) (hin : vp_in i 6) (hdg : decode cc pc = .ok (.aaload, 1))
    (kk : W p l e R s m args below meth c H locs cells slots Q (F0 m (pc + 1) ls (.ref (G.2.1 (341 + 3 * i.toNatClampNeg)) :: rest))) : W p l e R s m args below meth c H locs cells slots Q (F0 m pc ls (.int i :: .ref (G.2.1 337) :: rest)) :=
  x_aald (t0 := 1) (h := fun j => 337 + 4 + 3 * j) hx hb hK hP (by decide) (zE_11 zkL_337) rfl hin hdg kk
theorem x_aald12 {o : Nat} {i : Int32} (ho : zK o = 2) (hx : p.tables.exec = Jvm.exec) (hb : c.code = cc) (hK : va_K G.1 vwCl (zT G) s) (hP : va_P G.1 vwCl (zW G I J) H) (hin : vp_in i 12) (hdg : decode cc pc = .ok (.aaload, 1))
    (kk : W p l e R s m args below meth c H locs cells slots Q (F0 m (pc + 1) ls (.ref (G.2.1 (o + 15 + 2 * i.toNatClampNeg)) :: rest))) : W p l e R s m args below meth c H locs cells slots Q (F0 m pc ls (.int i :: .ref (G.2.1 (o + 1)) :: rest)) :=
  x_aald (t0 := 2) (h := fun j => o + 1 + 14 + 2 * j) hx hb hK hP (zK_lt (zk_2_0 ho) (by decide)) (zE_12 (zk_2_0 ho)) rfl hin hdg kk
theorem x_aald13 {o : Nat} {i : Int32} (ho : zK o = 2) (hx : p.tables.exec = Jvm.exec) (hb : c.code = cc) (hK : va_K G.1 vwCl (zT G) s) (hP : va_P G.1 vwCl (zW G I J) H) (hin : vp_in i 10) (hdg : decode cc pc = .ok (.aaload, 1))
    (kk : W p l e R s m args below meth c H locs cells slots Q (F0 m (pc + 1) ls (.ref (G.2.1 (o + 39 + 7 * i.toNatClampNeg)) :: rest))) : W p l e R s m args below meth c H locs cells slots Q (F0 m pc ls (.int i :: .ref (G.2.1 (o + 2)) :: rest)) :=
  x_aald (t0 := 3) (h := fun j => o + 2 + 37 + 7 * j) hx hb hK hP (zK_lt (zk_2_1 ho) (by decide)) (zE_13 (zk_2_1 ho)) rfl hin hdg kk
/-! ends -/
theorem x_iret {v : Int32} (hx : p.tables.exec = Jvm.exec) (hb : c.code = cc) (hr : meth.sig.returnType = some .int) (hlocks : meth.locks = false) (hK : va_K G.1 vwCl (zT G) s) (hP : va_P G.1 vwCl (zW G I J) H) (hS : va_S (zA G) s.heap H locs) (hdg : decode cc pc = .ok (.ireturn, 1)) :
    W p l e R s m args below meth c H locs 0 0 (MQ below (zQi G v I J) args s 0 0 (zA G)) (F0 m pc ls [.int v]) :=
  W.iret (v := v) hx hb hr (fun t ht hW => ⟨⟨v, (), rfl, rfl, by rw [ht]; exact hP, va_K.moved hW.alike hK⟩, hS.F ht⟩) hS.2.2 hdg hlocks
theorem x_zret {v : Int32} (hn : narrow .boolean (.int v) = .int v) (hx : p.tables.exec = Jvm.exec) (hb : c.code = cc) (hr : meth.sig.returnType = some .boolean) (hlocks : meth.locks = false) (hK : va_K G.1 vwCl (zT G) s) (hP : va_P G.1 vwCl (zW G I J) H) (hS : va_S (zA G) s.heap H locs) (hdg : decode cc pc = .ok (.ireturn, 1)) :
    W p l e R s m args below meth c H locs 0 0 (MQ below (zQi G v I J) args s 0 0 (zA G)) (F0 m pc ls [.int v]) :=
  W.zret (v := v) hx hb hr hn (fun t ht hW => ⟨⟨v, (), rfl, rfl, by rw [ht]; exact hP, va_K.moved hW.alike hK⟩, hS.F ht⟩) hS.2.2 hdg hlocks
theorem x_vret (hx : p.tables.exec = Jvm.exec) (hb : c.code = cc) (hr : meth.sig.returnType = none) (hlocks : meth.locks = false) (hK : va_K G.1 vwCl (zT G) s) (hP : va_P G.1 vwCl (zW G I J) H) (hS : va_S (zA G) s.heap H locs) (hdg : decode cc pc = .ok (.return_, 1)) :
    W p l e R s m args below meth c H locs 0 0 (MQ below (zQv G I J) args s 0 0 (zA G)) (F0 m pc ls []) :=
  W.vret hx hb hr (fun t ht hW => ⟨⟨(), rfl, trivial, by rw [ht]; exact hP, va_K.moved hW.alike hK⟩, hS.F ht⟩) hS.2.2 hdg hlocks
theorem x_aret {k : Nat} {rt : FieldType} (hrt : (∃ n, rt = .object n) ∨ ∃ t, rt = .array t) (hx : p.tables.exec = Jvm.exec) (hb : c.code = cc) (hr : meth.sig.returnType = some rt) (hlocks : meth.locks = false) (hK : va_K G.1 vwCl (zT G) s) (hP : va_P G.1 vwCl (zW G I J) H) (hS : va_S (zA G) s.heap H locs) (hdg : decode cc pc = .ok (.areturn, 1)) :
    W p l e R s m args below meth c H locs 0 0 (MQ below (zQr G k I J) args s 0 0 (zA G)) (F0 m pc ls [.ref (G.2.1 k)]) :=
  W.aret (v := .ref (G.2.1 k)) hx hb hr hrt (Or.inr ⟨_, rfl⟩) (fun t ht hW => ⟨⟨(), G.2.1 k, rfl, trivial, rfl, by rw [ht]; exact hP, va_K.moved hW.alike hK⟩, hS.F ht⟩) hS.2.2 hdg hlocks
/-! calls -/
theorem z_pre {vs : List Value} (hK : va_K G.1 vwCl (zT G) s) (hP : va_P G.1 vwCl (zW G I J) H) : ∀ U : State, U.heap = H → s.WarmedH U.vm → va_Pc vs (zS G I J) vs.toArray U := fun U hU hW => ⟨rfl, by rw [hU]; exact hP, va_K.moved hW.alike hK⟩
theorem z_blind (vs : List Value) : FrameBlind (va_Pc vs (zS G I J)) := fun _ U g mk q => ⟨q.1, q.2.1, va_K.moved (u := U) (U := U.calling g mk _) (Vm.Alike.refl U.vm) q.2.2⟩
theorem x_runV {y : MethodName} {bytes : ByteArray} {maxL nL n k ci : Nat} {ret : Option FieldType} {ws : List Cond} {rm : Room} {Qc : Array Value → State → Outcome → State → Prop} {As st0 : List Value} (S : CallFix p m c cc nL s args Ts own) (hM : Met l y ws rm (va_Pc (.ref (G.2.1 k) :: As) (zS G I J)) Qc 0 0 (zA G)) (cw : CallW R s args own C index y bytes maxL ret ws rm 0 0 n)
    (hK : va_K G.1 vwCl (zT G) s) (hP : va_P G.1 vwCl (zW G I J) H) (hk : zK k = ci) (hci : ci < 10) (hc : vwCl[ci]? = some (C, T, N)) (hn : As.length = n) (hsize : ls.size = nL) (hst : st0 = As.reverse ++ .ref (G.2.1 k) :: rest) (hW : (rest.map fun v => v.category).sum ≤ 8) (hdg : decode cc pc = .ok (.invokevirtual index, 3)) (hcs : cells ≤ R.cells ∧ slots ≤ R.slots) :
    va_Run p l e R s m args below meth c H locs cells slots 0 0 (F0 m pc ls st0) rest (Qc (Value.ref (G.2.1 k) :: As).toArray) (zA G) :=
  va_runV S hM cw ⟨z_blind _, va_recv (ci := ci) (q0 := k) (fs := zO G I J k ci) hK hP hc (by rw [zW_get (zK_lt hk (by omega)), zE_o hk hci]), z_pre hK hP⟩ rfl hn hsize hst (lv_room hW) hdg hcs
theorem x_runS {y : MethodName} {bytes : ByteArray} {maxL nL n : Nat} {ret : Option FieldType} {ws : List Cond} {rm : Room} {Qc : Array Value → State → Outcome → State → Prop} {As st0 : List Value} (S : CallFix p m c cc nL s args Ts own) (hM : Met l y ws rm (va_Pc As (zS G I J)) Qc 0 0 (zA G)) (cw : CallB R s args own index y bytes maxL ret ws rm 0 0 n ∧ (Cond.static y).before args s = true)
    (hK : va_K G.1 vwCl (zT G) s) (hP : va_P G.1 vwCl (zW G I J) H) (hn : As.length = n) (hsize : ls.size = nL) (hst : st0 = As.reverse ++ rest) (hW : (rest.map fun v => v.category).sum ≤ 8) (hdg : decode cc pc = .ok (.invokestatic index, 3)) (hcs : cells ≤ R.cells ∧ slots ≤ R.slots) :
    va_Run p l e R s m args below meth c H locs cells slots 0 0 (F0 m pc ls st0) rest (Qc As.toArray) (zA G) :=
  va_runS S hM cw ⟨z_blind _, z_pre hK hP⟩ rfl hn hsize hst (lv_room hW) hdg hcs
theorem x_calli {r : Int32} {a : Array Value} {st0 : List Value} (hr : va_Run p l e R s m args below meth c H locs cells slots 0 0 (F0 m pc ls st0) rest (zQi G r I2 J2 a) (zA G)) (hS : va_S (zA G) H0 H locs)
    (kk : ∀ (H1 : Heap) (locs1 : List Loc), va_P G.1 vwCl (zW G I2 J2) H1 → va_S (zA G) H0 H1 locs1 → W p l e R s m args below meth c H1 locs1 cells slots Q (F0 m (pc + 3) ls (.int r :: rest))) : W p l e R s m args below meth c H locs cells slots Q (F0 m pc ls st0) :=
  va_calli hr hS (fun _ _ h => h) (fun _ h => h) (fun r' _ t H1 locs1 ht _ hp hB _ _ hS1 => by
    subst hp
    have hP1 := hB.1
    rw [ht] at hP1
    exact kk H1 locs1 hP1 hS1)
theorem x_callv {a : Array Value} {st0 : List Value} (hr : va_Run p l e R s m args below meth c H locs cells slots 0 0 (F0 m pc ls st0) rest (zQv G I2 J2 a) (zA G)) (hS : va_S (zA G) H0 H locs)
    (kk : ∀ (H1 : Heap) (locs1 : List Loc), va_P G.1 vwCl (zW G I2 J2) H1 → va_S (zA G) H0 H1 locs1 → W p l e R s m args below meth c H1 locs1 cells slots Q (F0 m (pc + 3) ls rest)) : W p l e R s m args below meth c H locs cells slots Q (F0 m pc ls st0) :=
  va_callv hr hS (fun _ _ h => h) (fun _ h => h) (fun _ t H1 locs1 ht _ _ hB _ _ hS1 => by
    have hP1 := hB.1
    rw [ht] at hP1
    exact kk H1 locs1 hP1 hS1)
theorem x_callr {r : Nat} {a : Array Value} {st0 : List Value} (hr : va_Run p l e R s m args below meth c H locs cells slots 0 0 (F0 m pc ls st0) rest (zQr G r I2 J2 a) (zA G)) (hS : va_S (zA G) H0 H locs)
    (kk : ∀ (H1 : Heap) (locs1 : List Loc), va_P G.1 vwCl (zW G I2 J2) H1 → va_S (zA G) H0 H1 locs1 → W p l e R s m args below meth c H1 locs1 cells slots Q (F0 m (pc + 3) ls (.ref (G.2.1 r) :: rest))) : W p l e R s m args below meth c H locs cells slots Q (F0 m pc ls st0) :=
  va_callr hr hS (fun _ _ h => h) (fun _ h => h) (fun _ a' t H1 locs1 ht _ _ hB _ _ hS1 => by
    obtain ⟨rfl, hP1, -⟩ := hB
    rw [ht] at hP1
    exact kk H1 locs1 hP1 hS1)
/-! the script beside the world -/
def zX_s (b L : Nat) (xs : Nat → Int32) (U : State) : Prop := va_X b L xs U U.heap ∧ b < U.heap.size
def zSX (G : zGT) (b L : Nat) (xs : Nat → Int32) (I J : zM) (U : State) : Prop := zS G I J U ∧ zX_s b L xs U
theorem zMetX {l : Launch} {y : MethodName} {ws ws' : List Cond} {rm : Room} {cc : ByteArray} {n b L : Nat} {xs : Nat → Int32} {ret : Option FieldType} {G : zGT} {I J : zM} {vs : List Value} {Qc : Array Value → State → Outcome → State → Prop}
    (hy : plainName y.cls = true) (hw : ws = Cond.code y cc n ret :: ws') (hn : (lg_sl vs).length ≤ n)
    (body : ∀ p e s m args below meth c H locs ls, zF p s m args meth c cc n ret ws y.cls → va_X b L xs s s.heap → b < s.heap.size → va_K G.1 vwCl (zT G) s → va_P G.1 vwCl (zW G I J) H → va_S (zA G) s.heap H locs → lv_has ls n (lv_args 0 vs) →
      W p l e rm s m args below meth c H locs 0 0 (MQ below Qc args s 0 0 (zA G)) (F0 m 0 ls [])) : Met l y ws rm (va_Pc vs (zSX G b L xs I J)) Qc 0 0 (zA G) := by
  refine Met.ofW (cc := cc) (maxL := n) (ret := ret) hy hw ?_
  intro p e s m args below meth c s₁ B hml hv
  obtain ⟨rfl, ⟨hP, hK⟩, hX, hbl⟩ := hv
  have hl := lv_entry vs (n := n) hn
  rw [lg_entry_eq]
  exact body p e s m _ below meth c s.heap [] _ ⟨B.exec, B.bytes, B.returns, hml, atoms_spec (ws := ws) B.pre, findClass_of_methodNamed B.named, B.notSynchronized⟩ hX hbl hK hP va_S.rf hl
theorem z_preX {vs : List Value} {b L : Nat} {xs : Nat → Int32} (hX : va_X b L xs s s.heap) (hbl : b < s.heap.size) (hbA : b < G.2.2.2) (hK : va_K G.1 vwCl (zT G) s) (hP : va_P G.1 vwCl (zW G I J) H) (hS : va_S (zA G) s.heap H locs) : ∀ U : State, U.heap = H → s.WarmedH U.vm → va_Pc vs (zSX G b L xs I J) vs.toArray U := fun U hU hW =>
  ⟨rfl, ⟨by rw [hU]; exact hP, va_K.moved hW.alike hK⟩, by rw [hU]; exact va_X.moved hW.alike (va_X.kept hX (hS.2.1 b hbl (fun q => absurd hbA (Nat.not_lt.mpr q)))), by rw [hU]; exact Nat.lt_of_lt_of_le hbl hS.1⟩
theorem z_blindX (vs : List Value) (b L : Nat) (xs : Nat → Int32) : FrameBlind (va_Pc vs (zSX G b L xs I J)) := fun _ U g mk q => ⟨q.1, ⟨q.2.1.1, va_K.moved (u := U) (U := U.calling g mk _) (Vm.Alike.refl U.vm) q.2.1.2⟩, va_X.moved (u := U) (U := U.calling g mk _) (Vm.Alike.refl U.vm) q.2.2.1, q.2.2.2⟩
theorem x_runSX {y : MethodName} {bytes : ByteArray} {maxL nL n b L : Nat} {xs : Nat → Int32} {ret : Option FieldType} {ws : List Cond} {rm : Room} {Qc : Array Value → State → Outcome → State → Prop} {As st0 : List Value} (S : CallFix p m c cc nL s args Ts own) (hM : Met l y ws rm (va_Pc As (zSX G b L xs I J)) Qc 0 0 (zA G)) (cw : CallB R s args own index y bytes maxL ret ws rm 0 0 n ∧ (Cond.static y).before args s = true)
    (hX : va_X b L xs s s.heap) (hbl : b < s.heap.size) (hbA : b < G.2.2.2) (hK : va_K G.1 vwCl (zT G) s) (hP : va_P G.1 vwCl (zW G I J) H) (hS : va_S (zA G) s.heap H locs) (hn : As.length = n) (hsize : ls.size = nL) (hst : st0 = As.reverse ++ rest) (hW : (rest.map fun v => v.category).sum ≤ 8) (hdg : decode cc pc = .ok (.invokestatic index, 3)) (hcs : cells ≤ R.cells ∧ slots ≤ R.slots) :
    va_Run p l e R s m args below meth c H locs cells slots 0 0 (F0 m pc ls st0) rest (Qc As.toArray) (zA G) :=
  va_runS S hM cw ⟨z_blindX _ _ _ _, z_preX hX hbl hbA hK hP hS⟩ rfl hn hsize hst (lv_room hW) hdg hcs
theorem z_nA {b : Nat} (hbA : b < G.2.2.2) : ¬ zA G b := fun q => absurd hbA (Nat.not_lt.mpr q)
end ZR

