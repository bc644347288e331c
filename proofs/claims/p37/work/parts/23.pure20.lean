/-! PURE 20: the claims, read -/
theorem clGo_e (a b : zCl) : clGo a b = true ↔ (b.2.1 < a.2.1 ∨ (a.2.1 = b.2.1 ∧ (a.2.2.2 < b.2.2.2 ∨ (a.2.2.2 = b.2.2.2 ∧ a.1 < b.1)))) := by
  unfold clGo
  simp only [Bool.or_eq_true, Bool.and_eq_true, decide_eq_true_eq]
theorem clGo_i (a : zCl) : ¬ clGo a a = true := by
  rw [clGo_e]
  omega
theorem clGo_a {a b : zCl} (h : clGo a b = true) : ¬ clGo b a = true := by
  rw [clGo_e] at *
  omega
theorem clGo_t {a b c : zCl} (h : clGo a b = true) (h2 : clGo b c = true) : clGo a c = true := by
  rw [clGo_e] at *
  omega
theorem clGo_o {a b : zCl} (hp : a.1 ≠ b.1) (h : ¬ clGo a b = true) : clGo b a = true := by
  rw [clGo_e] at *
  omega
-- in an ordered list the one at place k has k before it
theorem cl_place : ∀ {L : List zCl} {k : Nat} {c : zCl}, L.Pairwise (fun a b => clGo a b = true) → L[k]? = some c → L.countP (fun a => clGo a c) = k := by
  intro L
  induction L with
  | nil =>
    intro k c _ h
    simp at h
  | cons a l ih =>
    intro k c hp h
    have hp2 := List.pairwise_cons.mp hp
    cases k with
    | zero =>
      have hac : a = c := by simpa using h
      subst hac
      rw [List.countP_cons_of_neg (p := fun x => clGo x a) (clGo_i a)]
      refine List.countP_eq_zero.mpr (fun x hx => clGo_a (hp2.1 x hx))
    | succ k =>
      have h2 : l[k]? = some c := by simpa using h
      have hc : c ∈ l := List.mem_of_getElem? h2
      rw [List.countP_cons_of_pos (p := fun x => clGo x c) (hp2.1 c hc), ih hp2.2 h2]
theorem cl_placeS {L S : List zCl} {c : zCl} (hP : L.Perm S) : S.countP (fun a => clGo a c) = L.countP (fun a => clGo a c) := (hP.countP_eq _).symm
-- the class's cells
theorem sp_clC {I : zM} {T b np B : Nat} {A : Nat → Int32} {L S : List zCl} (h : RTc I T A b np B L S) {i : Nat} {c : zCl} (hi : L[i]? = some c) : f_X4_cell I (T + 5) (nI i) 0 = some (nI c.1) ∧ f_X4_cell I (T + 5) (nI i) 1 = some (nI c.2.1) ∧ f_X4_cell I (T + 5) (nI i) 2 = some (nI c.2.2.1) ∧ f_X4_cell I (T + 5) (nI i) 3 = some (nI c.2.2.2) := by
  obtain ⟨h1, h2, h3, h4, h5, h6, h7, h8⟩ := h
  obtain ⟨e0, e1, e2, e3⟩ := h3 i c hi
  have hl : i < L.length := (List.getElem?_eq_some_iff.mp hi).1
  refine ⟨?_, ?_, ?_, ?_⟩
  · rw [← e0]
    exact sp_cell h1 (i := i) (j := 0) hl (by decide)
  · rw [← e1]
    exact sp_cell h1 (i := i) (j := 1) hl (by decide)
  · rw [← e2]
    exact sp_cell h1 (i := i) (j := 2) hl (by decide)
  · rw [← e3]
    exact sp_cell h1 (i := i) (j := 3) hl (by decide)
theorem sp_clR {I J : zM} {T t np B : Nat} {L S : List zCl} (ht : t < 10) (h : RTc I T (J 1) (180 + t * 90) np B L S) {i : Nat} {c : zCl} (hi : S[i]? = some c) : f_X9_c J (nI t) (nI i) 0 = some (nI c.1) ∧ f_X9_c J (nI t) (nI i) 1 = some (nI c.2.1) ∧ f_X9_c J (nI t) (nI i) 2 = some (nI c.2.2.1) ∧ f_X9_c J (nI t) (nI i) 3 = some (nI c.2.2.2) := by
  obtain ⟨h1, h2, h3, h4, h5, h6, h7, h8⟩ := h
  obtain ⟨e0, e1, e2, e3⟩ := h4 i c hi
  have hl : i < S.length := (List.getElem?_eq_some_iff.mp hi).1
  have hpl := h5.length_eq
  have h8 : L.length ≤ 8 := h1.2.2.2.1
  have key : ∀ j, j < 4 → f_X9_c J (nI t) (nI i) (nI j) = some (J 1 (180 + t * 90 + (58 + 4 * i + j))) := fun j hj => by
    unfold f_X9_c
    rw [show (58 : Int32) + 4 * nI i + nI j = nI (58 + 4 * i + j) from by rw [show (4 : Int32) = nI 4 from rfl, show (58 : Int32) = nI 58 from rfl, pk_mul, nI_add, nI_add], sp_t J (by omega), zb_s]
  refine ⟨?_, ?_, ?_, ?_⟩
  · rw [← e0]
    exact key 0 (by decide)
  · rw [← e1]
    exact key 1 (by decide)
  · rw [← e2]
    exact key 2 (by decide)
  · rw [← e3]
    exact key 3 (by decide)
theorem sp_57 {I J : zM} {T t np B : Nat} {L S : List zCl} (ht : t < 10) (h : RTc I T (J 1) (180 + t * 90) np B L S) : f_X9_t J (nI t) 57 = some (nI S.length) := by
  rw [← h.2.2.2.2.1.length_eq, ← h.2.1]
  exact sp_t J (t := t) (f := 57) (by omega)
-- where a person's claim stands
theorem l_placeC {I : zM} {T b np B : Nat} {A : Nat → Int32} {L S : List zCl} (h : RTc I T A b np B L S) (hnp : np ≤ 12) {q : Nat} (hq : q < 12) : ∀ (d y fuel : Nat), L.length = y + d → d < fuel → (∃ i c, y ≤ i ∧ L[i]? = some c ∧ c.1 = q ∧ f_X7_placeOfClaim_l2 I T (nI q) fuel (nI y) = some (nI i)) ∨ ((∀ i c, y ≤ i → L[i]? = some c → c.1 ≠ q) ∧ f_X7_placeOfClaim_l2 I T (nI q) fuel (nI y) = some (-1)) := by
  have h8 : L.length ≤ 8 := h.1.2.2.2.1
  intro d
  induction d with
  | zero =>
    intro y fuel hd hf
    obtain ⟨m, rfl⟩ : ∃ m, fuel = m + 1 := ⟨fuel - 1, by omega⟩
    rw [f_X7_placeOfClaim_l2, sp_size h.1, zb_s, if_pos (nI_le (by omega) (by omega))]
    refine Or.inr ⟨fun i c hi hc => ?_, rfl⟩
    have := (List.getElem?_eq_some_iff.mp hc).1
    omega
  | succ d ih =>
    intro y fuel hd hf
    obtain ⟨m, rfl⟩ : ∃ m, fuel = m + 1 := ⟨fuel - 1, by omega⟩
    have hy : y < L.length := by omega
    have hc := List.getElem?_eq_getElem hy
    generalize hcc : L[y] = c at hc
    have hc12 : c.1 < np := (h.2.2.2.2.2.2.1 c (List.mem_of_getElem? hc)).1
    rw [f_X7_placeOfClaim_l2, sp_size h.1, zb_s, if_neg (nI_ge (by omega) (by omega)), (sp_clC h hc).1, zb_s]
    by_cases e : c.1 = q
    · rw [if_pos (by rw [e])]
      exact Or.inl ⟨y, c, Nat.le_refl _, hc, e, rfl⟩
    · rw [if_neg (fun z => e ((nI_eq (by omega) (by omega)).mp z)), nI_1]
      rcases ih (y + 1) m (by omega) (by omega) with ⟨i, c', h1, h2, h3, h4⟩ | ⟨h1, h2⟩
      · exact Or.inl ⟨i, c', by omega, h2, h3, h4⟩
      · refine Or.inr ⟨fun i c' hi hc' => ?_, h2⟩
        by_cases ei : i = y
        · subst ei
          rw [hc] at hc'
          cases hc'
          exact e
        · exact h1 i c' (by omega) hc'
theorem l_claimOn {I J : zM} {T t np B : Nat} {L S : List zCl} (ht : t < 10) (h : RTc I T (J 1) (180 + t * 90) np B L S) (hnp : np ≤ 12) {q : Nat} (hq : q < 12) : ∀ (d y fuel : Nat), S.length = y + d → d < fuel → (∃ i c, y ≤ i ∧ S[i]? = some c ∧ c.1 = q ∧ f_X9_claimOn_l2 J (nI t) (nI q) fuel (nI y) = some (nI i)) ∨ ((∀ i c, y ≤ i → S[i]? = some c → c.1 ≠ q) ∧ f_X9_claimOn_l2 J (nI t) (nI q) fuel (nI y) = some (-2)) := by
  have hpl := h.2.2.2.2.1.length_eq
  have h8 : L.length ≤ 8 := h.1.2.2.2.1
  intro d
  induction d with
  | zero =>
    intro y fuel hd hf
    obtain ⟨m, rfl⟩ : ∃ m, fuel = m + 1 := ⟨fuel - 1, by omega⟩
    rw [f_X9_claimOn_l2, sp_57 ht h, zb_s, if_pos (nI_le (by omega) (by omega))]
    refine Or.inr ⟨fun i c hi hc => ?_, rfl⟩
    have := (List.getElem?_eq_some_iff.mp hc).1
    omega
  | succ d ih =>
    intro y fuel hd hf
    obtain ⟨m, rfl⟩ : ∃ m, fuel = m + 1 := ⟨fuel - 1, by omega⟩
    have hy : y < S.length := by omega
    have hc := List.getElem?_eq_getElem hy
    generalize hcc : S[y] = c at hc
    have hc12 : c.1 < np := (h.2.2.2.2.2.2.1 c (h.2.2.2.2.1.mem_iff.mpr (List.mem_of_getElem? hc))).1
    have hr : f_X9_t J (nI t) (58 + 4 * nI y) = some (nI c.1) := by
      rw [← (h.2.2.2.1 y c hc).1, show (58 : Int32) + 4 * nI y = nI (58 + 4 * y + 0) from by rw [show (4 : Int32) = nI 4 from rfl, show (58 : Int32) = nI 58 from rfl, pk_mul, nI_add, Nat.add_zero]]
      exact sp_t J (by omega)
    rw [f_X9_claimOn_l2, sp_57 ht h, zb_s, if_neg (nI_ge (by omega) (by omega)), hr, zb_s]
    by_cases e : c.1 = q
    · rw [if_pos (by rw [e])]
      exact Or.inl ⟨y, c, Nat.le_refl _, hc, e, rfl⟩
    · rw [if_neg (fun z => e ((nI_eq (by omega) (by omega)).mp z)), nI_1]
      rcases ih (y + 1) m (by omega) (by omega) with ⟨i, c', h1, h2, h3, h4⟩ | ⟨h1, h2⟩
      · exact Or.inl ⟨i, c', by omega, h2, h3, h4⟩
      · refine Or.inr ⟨fun i c' hi hc' => ?_, h2⟩
        by_cases ei : i = y
        · subst ei
          rw [hc] at hc'
          cases hc'
          exact e
        · exact h1 i c' (by omega) hc'
-- both look for a person's claim
theorem pr_claimOn {I J : zM} {T t np B : Nat} {L S : List zCl} (ht : t < 10) (h : RTc I T (J 1) (180 + t * 90) np B L S) (hnp : np ≤ 12) {q : Nat} (hq : q < 12) : (∃ i j c, L[i]? = some c ∧ S[j]? = some c ∧ c.1 = q ∧ f_X7_placeOfClaim I T (nI q) = some (nI i) ∧ f_X9_claimOn J (nI t) (nI q) = some (nI j)) ∨ ((∀ c, c ∈ L → c.1 ≠ q) ∧ f_X7_placeOfClaim I T (nI q) = some (-1) ∧ f_X9_claimOn J (nI t) (nI q) = some (-2)) := by
  have hz := zFu_big
  have hpl := h.2.2.2.2.1.length_eq
  have h8 : L.length ≤ 8 := h.1.2.2.2.1
  have hnd := h.2.2.2.2.2.2.2
  unfold f_X7_placeOfClaim f_X9_claimOn
  rcases l_placeC h hnp hq L.length 0 zFu (by omega) (by omega) with ⟨i, c, -, h1, h2, h3⟩ | ⟨h1, h2⟩
  · rcases l_claimOn ht h hnp hq S.length 0 zFu (by omega) (by omega) with ⟨j, c', -, k1, k2, k3⟩ | ⟨k1, k2⟩
    · have hm : c' ∈ L := h.2.2.2.2.1.mem_iff.mpr (List.mem_of_getElem? k1)
      obtain ⟨i', hi'⟩ := List.mem_iff_getElem?.mp hm
      have e1 : (L.map (·.1))[i]? = some q := by rw [List.getElem?_map, h1, Option.map_some, h2]
      have e2 : (L.map (·.1))[i']? = some q := by rw [List.getElem?_map, hi', Option.map_some, k2]
      have l1 := (List.getElem?_eq_some_iff.mp e1)
      have l2 := (List.getElem?_eq_some_iff.mp e2)
      have hii := nd_get hnd l1.1 l2.1 (l1.2.trans l2.2.symm)
      subst hii
      rw [h1] at hi'
      cases hi'
      exact Or.inl ⟨i, j, c, h1, k1, h2, h3, k3⟩
    · have hm : c ∈ S := h.2.2.2.2.1.mem_iff.mp (List.mem_of_getElem? h1)
      obtain ⟨j, hj⟩ := List.mem_iff_getElem?.mp hm
      exact absurd h2 (k1 j c (Nat.zero_le _) hj)
  · have hno : ∀ c, c ∈ L → c.1 ≠ q := fun c hc => by
      obtain ⟨i, hi⟩ := List.mem_iff_getElem?.mp hc
      exact h1 i c (Nat.zero_le _) hi
    rcases l_claimOn ht h hnp hq S.length 0 zFu (by omega) (by omega) with ⟨j, c', -, k1, k2, k3⟩ | ⟨k1, k2⟩
    · exact absurd k2 (hno c' (h.2.2.2.2.1.mem_iff.mpr (List.mem_of_getElem? k1)))
    · exact Or.inr ⟨hno, h2, k2⟩
-- the reference counts those before
theorem sp_goes {I J : zM} {T t np B : Nat} {L S : List zCl} (ht : t < 10) (h : RTc I T (J 1) (180 + t * 90) np B L S) (hB : B ≤ 2 ^ 20) (hnp : np ≤ 12) {i j : Nat} {a b : zCl} (hi : S[i]? = some a) (hj : S[j]? = some b) : f_X9_goesAhead J (nI t) (nI i) (nI j) = some (if clGo a b then 1 else 0) := by
  have oka := h.2.2.2.2.2.2.1 a (h.2.2.2.2.1.mem_iff.mpr (List.mem_of_getElem? hi))
  have okb := h.2.2.2.2.2.2.1 b (h.2.2.2.2.1.mem_iff.mpr (List.mem_of_getElem? hj))
  obtain ⟨a1, a2, a3, a4, a5⟩ := oka
  obtain ⟨b1, b2, b3, b4, b5⟩ := okb
  obtain ⟨r0, r1, -, r3⟩ := sp_clR ht h hi
  obtain ⟨s0, s1, -, s3⟩ := sp_clR ht h hj
  unfold f_X9_goesAhead
  simp only [r0, r1, r3, s0, s1, s3, zb_s]
  simp (disch := omega) only [zeq, zle]
  have hg := clGo_e a b
  by_cases c1 : a.2.1 = b.2.1
  · rw [if_pos c1]
    by_cases c2 : a.2.2.2 = b.2.2.2
    · rw [if_pos c2]
      by_cases c3 : b.1 ≤ a.1
      · rw [if_pos c3, if_neg (by rw [hg]; omega)]
      · rw [if_neg c3, if_pos (by rw [hg]; omega)]
    · rw [if_neg c2]
      by_cases c3 : b.2.2.2 ≤ a.2.2.2
      · rw [if_pos c3, if_neg (by rw [hg]; omega)]
      · rw [if_neg c3, if_pos (by rw [hg]; omega)]
  · rw [if_neg c1]
    by_cases c3 : a.2.1 ≤ b.2.1
    · rw [if_pos c3, if_neg (by rw [hg]; omega)]
    · rw [if_neg c3, if_pos (by rw [hg]; omega)]
theorem l_placeOn {I J : zM} {T t np B : Nat} {L S : List zCl} (ht : t < 10) (h : RTc I T (J 1) (180 + t * 90) np B L S) (hB : B ≤ 2 ^ 20) (hnp : np ≤ 12) {i : Nat} {c : zCl} (hi : S[i]? = some c) : ∀ (d y fuel : Nat), S.length = y + d → d < fuel → f_X9_placeOn_l5 J (nI t) (nI i) fuel (nI ((S.take y).countP (fun a => clGo a c))) (nI y) = some (nI (S.countP (fun a => clGo a c))) := by
  have hpl := h.2.2.2.2.1.length_eq
  have h8 : L.length ≤ 8 := h.1.2.2.2.1
  have hil := (List.getElem?_eq_some_iff.mp hi).1
  intro d
  induction d with
  | zero =>
    intro y fuel hd hf
    obtain ⟨m, rfl⟩ : ∃ m, fuel = m + 1 := ⟨fuel - 1, by omega⟩
    rw [f_X9_placeOn_l5, sp_57 ht h, zb_s, if_pos (nI_le (by omega) (by omega)), List.take_of_length_le (by omega)]
  | succ d ih =>
    intro y fuel hd hf
    obtain ⟨m, rfl⟩ : ∃ m, fuel = m + 1 := ⟨fuel - 1, by omega⟩
    have hy : y < S.length := by omega
    have hc := List.getElem?_eq_getElem hy
    have ih := ih (y + 1) m (by omega) (by omega)
    rw [show S.take (y + 1) = S.take y ++ [S[y]] from (List.take_append_getElem hy).symm, List.countP_append, List.countP_singleton] at ih
    generalize hcc : S[y] = a at hc ih
    rw [f_X9_placeOn_l5, sp_57 ht h, zb_s, if_neg (nI_ge (by omega) (by omega)), nI_1]
    by_cases e : y = i
    · subst e
      rw [hi] at hc
      cases hc
      rw [if_neg (clGo_i c)] at ih
      rw [if_pos rfl, zlet_s, show ∀ z, nI z + 0 = nI (z + 0) from fun z => nI_add z 0]
      exact ih
    · rw [if_neg (fun z => e ((nI_eq (by omega) (by omega)).mp z)), sp_goes ht h hB hnp hc hi, zb_s]
      by_cases g : clGo a c = true
      · rw [if_pos g] at ih
        rw [if_pos g, if_neg one0, zlet_s, nI_1]
        exact ih
      · rw [if_neg g] at ih
        rw [if_neg g, if_pos rfl, zlet_s, show ∀ z, nI z + 0 = nI (z + 0) from fun z => nI_add z 0]
        exact ih
theorem sp_placeOn {I J : zM} {T t np B : Nat} {L S : List zCl} (ht : t < 10) (h : RTc I T (J 1) (180 + t * 90) np B L S) (hB : B ≤ 2 ^ 20) (hnp : np ≤ 12) {i : Nat} {c : zCl} (hi : S[i]? = some c) : f_X9_placeOn J (nI t) (nI i) = some (nI (L.countP (fun a => clGo a c))) := by
  have hz := zFu_big
  have hpl := h.2.2.2.2.1.length_eq
  have h8 : L.length ≤ 8 := h.1.2.2.2.1
  rw [← cl_placeS h.2.2.2.2.1]
  exact l_placeOn ht h hB hnp hi S.length 0 zFu (by omega) (by omega)
theorem l_claimAt {I J : zM} {T t np B : Nat} {L S : List zCl} (ht : t < 10) (h : RTc I T (J 1) (180 + t * 90) np B L S) (hB : B ≤ 2 ^ 20) (hnp : np ≤ 12) {k : Nat} (hk : k < 2 ^ 31) : ∀ (d y fuel : Nat), S.length = y + d → d < fuel → (∃ i c, S[i]? = some c ∧ L[k]? = some c ∧ f_X9_claimAt_l2 J (nI t) (nI k) fuel (nI y) = some (nI i)) ∨ ((∀ i c, y ≤ i → S[i]? = some c → L[k]? ≠ some c) ∧ f_X9_claimAt_l2 J (nI t) (nI k) fuel (nI y) = some (-2)) := by
  have hpl := h.2.2.2.2.1.length_eq
  have h8 : L.length ≤ 8 := h.1.2.2.2.1
  intro d
  induction d with
  | zero =>
    intro y fuel hd hf
    obtain ⟨m, rfl⟩ : ∃ m, fuel = m + 1 := ⟨fuel - 1, by omega⟩
    rw [f_X9_claimAt_l2, sp_57 ht h, zb_s, if_pos (nI_le (by omega) (by omega))]
    refine Or.inr ⟨fun i c hi hc => ?_, rfl⟩
    have := (List.getElem?_eq_some_iff.mp hc).1
    omega
  | succ d ih =>
    intro y fuel hd hf
    obtain ⟨m, rfl⟩ : ∃ m, fuel = m + 1 := ⟨fuel - 1, by omega⟩
    have hy : y < S.length := by omega
    have hc := List.getElem?_eq_getElem hy
    generalize hcc : S[y] = a at hc
    have hm : a ∈ L := h.2.2.2.2.1.mem_iff.mpr (List.mem_of_getElem? hc)
    obtain ⟨k', hk'⟩ := List.mem_iff_getElem?.mp hm
    have hcp := cl_place h.2.2.2.2.2.1 hk'
    have hkl := (List.getElem?_eq_some_iff.mp hk').1
    rw [f_X9_claimAt_l2, sp_57 ht h, zb_s, if_neg (nI_ge (by omega) (by omega)), sp_placeOn ht h hB hnp hc, zb_s, hcp, nI_1]
    by_cases e : k' = k
    · subst e
      rw [if_pos rfl]
      exact Or.inl ⟨y, a, hc, hk', rfl⟩
    · rw [if_neg (fun z => e ((nI_eq (by omega) (by omega)).mp z))]
      rcases ih (y + 1) m (by omega) (by omega) with h1 | ⟨h1, h2⟩
      · exact Or.inl h1
      · refine Or.inr ⟨fun i c' hi hc' => ?_, h2⟩
        by_cases ei : i = y
        · subst ei
          rw [hc] at hc'
          cases hc'
          intro hk2
          have := cl_place h.2.2.2.2.2.1 hk2
          omega
        · exact h1 i c' (by omega) hc'
theorem pr_claimAt {I J : zM} {T t np B : Nat} {L S : List zCl} (ht : t < 10) (h : RTc I T (J 1) (180 + t * 90) np B L S) (hB : B ≤ 2 ^ 20) (hnp : np ≤ 12) {k : Nat} (hk : k < 2 ^ 31) : (∃ i c, S[i]? = some c ∧ L[k]? = some c ∧ f_X9_claimAt J (nI t) (nI k) = some (nI i)) ∨ (L.length ≤ k ∧ f_X9_claimAt J (nI t) (nI k) = some (-2)) := by
  have hz := zFu_big
  have hpl := h.2.2.2.2.1.length_eq
  have h8 : L.length ≤ 8 := h.1.2.2.2.1
  unfold f_X9_claimAt
  rcases l_claimAt ht h hB hnp hk S.length 0 zFu (by omega) (by omega) with h1 | ⟨h1, h2⟩
  · exact Or.inl h1
  · refine Or.inr ⟨?_, h2⟩
    rcases Nat.lt_or_ge k L.length with c | c
    · have hc := List.getElem?_eq_getElem c
      have hm : L[k] ∈ S := h.2.2.2.2.1.mem_iff.mp (List.getElem_mem c)
      obtain ⟨i, hi⟩ := List.mem_iff_getElem?.mp hm
      exact absurd hc (h1 i _ (Nat.zero_le _) hi)
    · exact c
