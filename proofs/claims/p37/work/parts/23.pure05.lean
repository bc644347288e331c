/-! PURE 5: both sides written alike -/
theorem upd_at (A : Nat → Int32) (j : Nat) (v : Int32) (k : Nat) : upd A j v k = if k = j then v else A k := rfl
theorem upd_c (A : Nat → Int32) {a b : Nat} (v w : Int32) (h : a ≠ b) : upd (upd A a v) b w = upd (upd A b w) a v := by
  funext k
  rw [upd_at, upd_at, upd_at, upd_at]
  by_cases c1 : k = a
  · rw [if_pos c1, if_neg (by omega), if_pos c1]
  · rw [if_neg c1, if_neg c1]
theorem RP_set {I : zM} {o nt q f : Nat} {A : Nat → Int32} {v : Int32} (h : RP I o A nt q) (hf : f < 5) (hf2 : f ≠ 2) : RP (ms I (o + 15 + 2 * q) f v) o (upd A (q * 15 + f) v) nt q := by
  obtain ⟨h1, h2, h3, k, hk, h4⟩ := h
  refine ⟨fun g hg => ?_, fun j hj => ?_, fun j hj => ?_, k, hk, ?_⟩
  · rw [ms_at, upd_at, h1 g hg]
    by_cases c : g = f
    · rw [if_pos c, if_pos (by omega)]
    · rw [if_neg c, if_neg (by omega)]
  · rw [ms_n (by omega), upd_at, if_neg (by omega)]
    exact h2 j hj
  · rw [upd_at, if_neg (by omega)]
    exact h3 j hj
  · rw [upd_at, if_neg (by omega)]
    exact h4
theorem RP_trust {I : zM} {o nt q m : Nat} {A : Nat → Int32} (h : RP I o A nt q) (hm : m ≤ 99) : RP (ms I (o + 15 + 2 * q) 2 (nI m)) o (upd A (q * 15 + 2) (nI m)) nt q := by
  obtain ⟨h1, h2, h3, k, hk, h4⟩ := h
  refine ⟨fun g hg => ?_, fun j hj => ?_, fun j hj => ?_, m, hm, ?_⟩
  · rw [ms_at, upd_at, h1 g hg]
    by_cases c : g = 2
    · rw [if_pos c, if_pos (by omega)]
    · rw [if_neg c, if_neg (by omega)]
  · rw [ms_n (by omega), upd_at, if_neg (by omega)]
    exact h2 j hj
  · rw [upd_at, if_neg (by omega)]
    exact h3 j hj
  · rw [upd_at, if_pos rfl]
theorem RP_wish {I : zM} {o nt q t : Nat} {A : Nat → Int32} {v : Int32} (h : RP I o A nt q) (ht : t < nt) (ht2 : t < 10) (hv : ∃ w, w ≤ 9 ∧ v = nI w) : RP (ms I (o + 15 + 2 * q + 1) t v) o (upd A (q * 15 + (5 + t)) v) nt q := by
  obtain ⟨h1, h2, h3, k, hk, h4⟩ := h
  refine ⟨fun g hg => ?_, fun j hj => ?_, fun j hj => ?_, k, hk, ?_⟩
  · rw [ms_n (by omega), upd_at, if_neg (by omega)]
    exact h1 g hg
  · rw [ms_at, upd_at, h2 j hj]
    by_cases c : j = t
    · rw [if_pos c, if_pos (by omega)]
    · rw [if_neg c, if_neg (by omega)]
  · by_cases c : j = t
    · subst c
      obtain ⟨w, w1, w2⟩ := hv
      exact ⟨w, w1, fun h => absurd h (by omega), by rw [upd_at, if_pos rfl]; exact w2⟩
    · rw [upd_at, if_neg (by omega)]
      exact h3 j hj
  · rw [upd_at, if_neg (by omega)]
    exact h4
theorem sI_ms {I : zM} {k j lo hi : Nat} {v : Int32} (h : k < lo ∨ hi ≤ k) : sameI I (ms I k j v) lo hi := fun i a b => ms_n (by omega)
theorem sA_upd {A : Nat → Int32} {j lo hi : Nat} {v : Int32} (h : j < lo ∨ hi ≤ j) : sameA A (upd A j v) lo hi := fun i a b => by
  rw [upd_at, if_neg (by omega)]
theorem RO_setP {I : zM} {o np nt B q f : Nat} {A : Nat → Int32} {v : Int32} (h : RO I o A np nt B) (hq : q < np) (hf : f < 5) (hf2 : f ≠ 2) : RO (ms I (o + 15 + 2 * q) f v) o (upd A (q * 15 + f) v) np nt B := by
  have h12 := h.1.1
  exact RO_p h (sI_ms (by omega)) (sI_ms (by omega)) (sA_upd (by omega)) (sA_upd (by omega)) hq (RP_set (h.2.1 q hq) hf hf2)
theorem RO_trust {I : zM} {o np nt B q m : Nat} {A : Nat → Int32} (h : RO I o A np nt B) (hq : q < np) (hm : m ≤ 99) : RO (ms I (o + 15 + 2 * q) 2 (nI m)) o (upd A (q * 15 + 2) (nI m)) np nt B := by
  have h12 := h.1.1
  exact RO_p h (sI_ms (by omega)) (sI_ms (by omega)) (sA_upd (by omega)) (sA_upd (by omega)) hq (RP_trust (h.2.1 q hq) hm)
theorem RO_wish {I : zM} {o np nt B q t : Nat} {A : Nat → Int32} {v : Int32} (h : RO I o A np nt B) (hq : q < np) (ht : t < nt) (hv : ∃ w, w ≤ 9 ∧ v = nI w) : RO (ms I (o + 15 + 2 * q + 1) t v) o (upd A (q * 15 + (5 + t)) v) np nt B := by
  have h12 := h.1.1
  have h10 := h.1.2.1
  exact RO_p h (sI_ms (by omega)) (sI_ms (by omega)) (sA_upd (by omega)) (sA_upd (by omega)) hq (RP_wish (h.2.1 q hq) ht (by omega) hv)
theorem RO_till {I : zM} {o np nt B : Nat} {A : Nat → Int32} {v : Int32} (h : RO I o A np nt B) : RO (ms I o 8 v) o (upd A 1083 v) np nt B := by
  refine RO_o h (sI_ms (by omega)) (sA_upd (by omega)) ?_
  obtain ⟨c1, c2, c3, c4, c5, c6, c7, c8, c9⟩ := h.1
  unfold RC RW
  simp (disch := omega) only [ms_sn, ms_ss, upd_at, if_neg, if_pos]
  exact ⟨c1, c2, c3, c4, c5, c6, c7, (if_pos trivial).symm, c9⟩
theorem RO_day {I : zM} {o np nt B B2 d : Nat} {A : Nat → Int32} (h : RO I o A np nt B) (hB : B ≤ B2) (hd : d ≤ 99 * B2) : RO (ms I o 7 (nI d)) o (upd A 1082 (nI d)) np nt B2 := by
  have h := RO_m h hB
  refine RO_o h (sI_ms (by omega)) (sA_upd (by omega)) ?_
  obtain ⟨c1, c2, c3, c4, c5, c6, c7, c8, c9⟩ := h.1
  unfold RC RW
  simp (disch := omega) only [ms_sn, ms_ss, upd_at, if_neg, if_pos]
  exact ⟨c1, c2, c3, c4, c5, c6, ⟨d, hd, rfl, rfl⟩, c8, c9⟩
theorem RO_why {I : zM} {o np nt B : Nat} {A : Nat → Int32} {w x y : Int32} (h : RO I o A np nt B) (hx : x ≠ 0) (hw : (w = nI 1 ∧ y = 0) ∨ (w = nI 2 ∧ y ≠ 0)) : RO (ms (ms I o 9 x) o 10 y) o (upd (upd (upd A 1084 w) 1085 x) 1086 y) np nt B := by
  refine RO_o h (fun k a b => by rw [ms_n (by omega), ms_n (by omega)]) (fun k a b => by rw [upd_at, if_neg (by omega), upd_at, if_neg (by omega), upd_at, if_neg (by omega)]) ?_
  obtain ⟨c1, c2, c3, c4, c5, c6, c7, c8, c9⟩ := h.1
  unfold RC RW
  simp (disch := omega) only [ms_sn, ms_ss, upd_at, if_neg, if_pos]
  refine ⟨c1, c2, c3, c4, c5, c6, c7, c8, ?_⟩
  rcases hw with ⟨h1, h2⟩ | ⟨h1, h2⟩
  · exact Or.inr (Or.inl ⟨h1, (if_pos trivial).symm, hx, h2⟩)
  · exact Or.inr (Or.inr ⟨h1, (if_pos trivial).symm, hx, (if_pos trivial).symm, h2⟩)
theorem TM_ms {I : zM} {h R w k j : Nat} {v : Int32} (hT : TM I h R w) (hk : h ≠ k ∨ 2 ≤ j) : TM (ms I k j v) h R w := by
  obtain ⟨h0, h1, hr⟩ := hT
  by_cases c : h = k
  · subst c
    refine ⟨?_, ?_, hr⟩
    · rw [ms_sn (by omega)]
      exact h0
    · rw [ms_sn (by omega)]
      exact h1
  · refine ⟨?_, ?_, hr⟩
    · rw [ms_n c]
      exact h0
    · rw [ms_n c]
      exact h1
theorem MT_ms {I : zM} {o k j : Nat} {v : Int32} (hM : MT I o) (hk : 2 ≤ j ∨ ((∀ t, t < 10 → k ≠ o + 39 + 7 * t + 1 ∧ k ≠ o + 39 + 7 * t + 3 ∧ k ≠ o + 39 + 7 * t + 5) ∧ k ≠ o + 13)) : MT (ms I k j v) o := by
  refine ⟨fun t ht => ⟨TM_ms (hM.1 t ht).1 ?_, TM_ms (hM.1 t ht).2.1 ?_, TM_ms (hM.1 t ht).2.2 ?_⟩, TM_ms hM.2 ?_⟩
  · rcases hk with hk | hk
    · exact Or.inr hk
    · exact Or.inl (fun e => (hk.1 t ht).1 e.symm)
  · rcases hk with hk | hk
    · exact Or.inr hk
    · exact Or.inl (fun e => (hk.1 t ht).2.1 e.symm)
  · rcases hk with hk | hk
    · exact Or.inr hk
    · exact Or.inl (fun e => (hk.1 t ht).2.2 e.symm)
  · rcases hk with hk | hk
    · exact Or.inr hk
    · exact Or.inl (fun e => hk.2 e.symm)
theorem MT_p {I : zM} {o q j : Nat} {v : Int32} (hM : MT I o) (hq : q < 12) : MT (ms I (o + 15 + 2 * q) j v) o := MT_ms hM (Or.inr ⟨fun t ht => by omega, by omega⟩)
theorem MT_w {I : zM} {o q j : Nat} {v : Int32} (hM : MT I o) (hq : q < 12) : MT (ms I (o + 15 + 2 * q + 1) j v) o := MT_ms hM (Or.inr ⟨fun t ht => by omega, by omega⟩)
theorem MT_o {I : zM} {o j : Nat} {v : Int32} (hM : MT I o) : MT (ms I o j v) o := MT_ms hM (Or.inr ⟨fun t ht => by omega, by omega⟩)
theorem MT_t {I : zM} {o t j : Nat} {v : Int32} (hM : MT I o) (ht : t < 10) : MT (ms I (o + 39 + 7 * t) j v) o := MT_ms hM (Or.inr ⟨fun u hu => by omega, by omega⟩)
-- what a call of the reference leaves as it was
def FJ (J J2 : zM) : Prop := (∀ a, a ≠ 0 → a ≠ 1 → a ≠ 2 → a ≠ 5 → J2 a = J a) ∧ ∀ s, s ≠ 6 → J2 0 s = J 0 s
theorem FJ_r {J : zM} : FJ J J := ⟨fun _ _ _ _ _ => rfl, fun _ _ => rfl⟩
theorem FJ_t {J J2 J3 : zM} (h : FJ J J2) (h2 : FJ J2 J3) : FJ J J3 := ⟨fun a c1 c2 c3 c4 => (h2.1 a c1 c2 c3 c4).trans (h.1 a c1 c2 c3 c4), fun s hs => (h2.2 s hs).trans (h.2 s hs)⟩
theorem FJ_g {J J2 : zM} {k : Nat} {v : Int32} (h : FJ J J2) : FJ J (ms J2 1 k v) := FJ_t h ⟨fun a c1 c2 c3 c4 => ms_n c2, fun s hs => by rw [ms_n (by decide)]⟩
def Deed (I J : zM) (o B : Nat) (fI fJ : Option (Int32 × zM)) : Prop := ∀ np nt, MT I o → RO I o (J 1) np nt B → ∃ r I2 J2 np2 nt2, fI = some (r, I2) ∧ fJ = some (r, J2) ∧ np ≤ np2 ∧ nt ≤ nt2 ∧ MT I2 o ∧ RO I2 o (J2 1) np2 nt2 (B + 1) ∧ FJ J J2
theorem dd_same {I J : zM} {o B np nt : Nat} {fI fJ : Option (Int32 × zM)} (hM : MT I o) (hR : RO I o (J 1) np nt B) (r : Int32) (h1 : fI = some (r, I)) (h2 : fJ = some (r, J)) : ∃ r I2 J2 np2 nt2, fI = some (r, I2) ∧ fJ = some (r, J2) ∧ np ≤ np2 ∧ nt ≤ nt2 ∧ MT I2 o ∧ RO I2 o (J2 1) np2 nt2 (B + 1) ∧ FJ J J2 := ⟨r, I, J, np, nt, h1, h2, Nat.le_refl _, Nat.le_refl _, hM, RO_m hR (Nat.le_succ B), FJ_r⟩
theorem m1_lt {k : Nat} (hk : k < 2 ^ 31) : (-1 : Int32) < nI k := by
  rw [Int32.lt_iff_toInt_lt, nI_toInt hk]
  have : (-1 : Int32).toInt = -1 := by decide
  omega
theorem in_e (J : zM) (x a b : Int32) : f_X9_in J x a b = if x < a then some 0 else if x ≤ b then some 1 else some 0 := by
  unfold f_X9_in
  by_cases c : x < a
  · rw [if_pos c, if_pos c]
  · rw [if_neg c, if_neg c]
    by_cases c2 : x ≤ b
    · rw [if_pos c2, if_neg (Int32.not_lt.mpr c2)]
    · rw [if_neg c2, if_pos (Int32.not_le.mp c2)]
theorem pr_isN {x n : Int32} {k : Nat} {α : Type} (hn : n = nI k) (hk : k ≤ 12) (u v : α) : (((if x < 0 then u else if n ≤ x then u else v) = u ∧ (if x < 0 then u else if x ≤ n - 1 then v else u) = u) ∧ True) ∨ ∃ q, q < k ∧ x = nI q ∧ (if x < 0 then u else if n ≤ x then u else v) = v ∧ (if x < 0 then u else if x ≤ n - 1 then v else u) = v := by
  subst hn
  by_cases c : x < 0
  · exact Or.inl ⟨⟨if_pos c, if_pos c⟩, trivial⟩
  · obtain ⟨q, hq, rfl⟩ := nI_of c
    rw [if_neg c, if_neg c]
    by_cases c2 : q < k
    · obtain ⟨z, rfl⟩ : ∃ z, k = z + 1 := ⟨k - 1, by omega⟩
      refine Or.inr ⟨q, c2, rfl, if_neg (nI_ge c2 (by omega)), ?_⟩
      rw [nI_pred]
      exact if_pos (nI_le (by omega) (by omega))
    · refine Or.inl ⟨⟨if_pos (nI_le (by omega) hq), ?_⟩, trivial⟩
      rcases Nat.eq_zero_or_pos k with h0 | h0
      · subst h0
        rw [show (nI 0 - 1 : Int32) = -1 from by decide +kernel]
        exact if_neg (Int32.not_le.mpr (m1_lt hq))
      · obtain ⟨z, rfl⟩ : ∃ z, k = z + 1 := ⟨k - 1, by omega⟩
        rw [nI_pred]
        exact if_neg (nI_ge (by omega) hq)
theorem pr_isPerson {I J : zM} {o np : Nat} (h5 : I o 5 = nI np) (hA : J 1 1080 = nI np) (hnp : np ≤ 12) (x : Int32) : (f_X2_isPerson I o x = some 0 ∧ f_X9_isPerson J x = some 0) ∨ ∃ q, q < np ∧ x = nI q ∧ f_X2_isPerson I o x = some 1 ∧ f_X9_isPerson J x = some 1 := by
  unfold f_X2_isPerson f_X9_isPerson
  rw [in_e, hA, h5]
  rcases pr_isN (x := x) (k := np) rfl hnp (some (0 : Int32)) (some 1) with ⟨⟨e1, e2⟩, -⟩ | ⟨q, hq, ex, e1, e2⟩
  · rw [e1, e2]
    exact Or.inl ⟨rfl, rfl⟩
  · rw [e1, e2]
    exact Or.inr ⟨q, hq, ex, rfl, rfl⟩
theorem pr_isTool {I J : zM} {o nt : Nat} (h5 : I o 6 = nI nt) (hA : J 1 1081 = nI nt) (hnt : nt ≤ 10) (x : Int32) : (f_X2_isTool I o x = some 0 ∧ f_X9_isTool J x = some 0) ∨ ∃ q, q < nt ∧ x = nI q ∧ f_X2_isTool I o x = some 1 ∧ f_X9_isTool J x = some 1 := by
  unfold f_X2_isTool f_X9_isTool
  rw [in_e, hA, h5]
  rcases pr_isN (x := x) (k := nt) rfl (by omega) (some (0 : Int32)) (some 1) with ⟨⟨e1, e2⟩, -⟩ | ⟨q, hq, ex, e1, e2⟩
  · rw [e1, e2]
    exact Or.inl ⟨rfl, rfl⟩
  · rw [e1, e2]
    exact Or.inr ⟨q, hq, ex, rfl, rfl⟩
theorem one0 : ¬ ((1 : Int32) = 0) := by decide
