/-! PURE 22: a claim comes -/
theorem sp_ahead {I : zM} {T b np B : Nat} {A : Nat → Int32} {L S : List zCl} (h : RTc I T A b np B L S) (hB : B ≤ 2 ^ 20) (hnp : np ≤ 12) {y : Nat} {a c : zCl} (hy : L[y]? = some a) (hc : clOk np B c) : f_X7_claimGoesAhead I T (nI y) (nI c.2.1) (nI c.2.2.2) (nI c.1) = some (if clGo a c then 1 else 0) := by
  obtain ⟨a1, a2, a3, a4, a5⟩ := h.2.2.2.2.2.2.1 a (List.mem_of_getElem? hy)
  obtain ⟨b1, b2, b3, b4, b5⟩ := hc
  obtain ⟨r0, r1, -, r3⟩ := sp_clC h hy
  unfold f_X7_claimGoesAhead
  simp only [r0, r1, r3, zb_s]
  simp (disch := omega) only [zeq, zle]
  have hg := clGo_e a c
  by_cases c1 : a.2.1 = c.2.1
  · rw [if_pos c1]
    by_cases c2 : a.2.2.2 = c.2.2.2
    · rw [if_pos c2]
      by_cases c3 : c.1 ≤ a.1
      · rw [if_pos c3, if_neg (by rw [hg]; omega)]
      · rw [if_neg c3, if_pos (by rw [hg]; omega)]
    · rw [if_neg c2]
      by_cases c3 : c.2.2.2 ≤ a.2.2.2
      · rw [if_pos c3, if_neg (by rw [hg]; omega)]
      · rw [if_neg c3, if_pos (by rw [hg]; omega)]
  · rw [if_neg c1]
    by_cases c3 : a.2.1 ≤ c.2.1
    · rw [if_pos c3, if_neg (by rw [hg]; omega)]
    · rw [if_neg c3, if_pos (by rw [hg]; omega)]
theorem l_add {I : zM} {T b np B : Nat} {A : Nat → Int32} {L S : List zCl} (h : RTc I T A b np B L S) (hB : B ≤ 2 ^ 20) (hnp : np ≤ 12) {c : zCl} (hc : clOk np B c) (K : Int32 → Option (Int32 × zM)) : ∀ (d y fuel : Nat), L.length = y + d → d < fuel → (∀ i a, i < y → L[i]? = some a → clGo a c = true) → ∃ p, p ≤ L.length ∧ f_X7_addClaim_l3 I T (nI c.1) (nI c.2.1) (nI c.2.2.1) (nI c.2.2.2) K fuel (nI y) = K (nI p) ∧ (∀ i a, i < p → L[i]? = some a → clGo a c = true) ∧ ∀ a, L[p]? = some a → ¬ clGo a c = true := by
  have h8 : L.length ≤ 8 := h.1.2.2.2.1
  intro d
  induction d with
  | zero =>
    intro y fuel hd hf ha
    obtain ⟨m, rfl⟩ : ∃ m, fuel = m + 1 := ⟨fuel - 1, by omega⟩
    rw [f_X7_addClaim_l3, sp_size h.1, zb_s, if_pos (nI_le (by omega) (by omega))]
    refine ⟨y, by omega, rfl, ha, fun a hy => ?_⟩
    have := (List.getElem?_eq_some_iff.mp hy).1
    omega
  | succ d ih =>
    intro y fuel hd hf ha
    obtain ⟨m, rfl⟩ : ∃ m, fuel = m + 1 := ⟨fuel - 1, by omega⟩
    have hy : y < L.length := by omega
    have hyc := List.getElem?_eq_getElem hy
    generalize hcc : L[y] = a at hyc
    rw [f_X7_addClaim_l3, sp_size h.1, zb_s, if_neg (nI_ge (by omega) (by omega)), sp_ahead h hB hnp hyc hc, zb_s]
    by_cases g : clGo a c = true
    · rw [if_pos g, if_neg one0, nI_1]
      refine ih (y + 1) m (by omega) (by omega) (fun i a' hi hia => ?_)
      by_cases ei : i = y
      · subst ei
        rw [hyc] at hia
        cases hia
        exact g
      · exact ha i a' (by omega) hia
    · rw [if_neg g, if_pos rfl]
      refine ⟨y, by omega, rfl, ha, fun a' hy' => ?_⟩
      rw [hyc] at hy'
      cases hy'
      exact g
theorem ins_get {α : Type} (L : List α) (c : α) {p : Nat} (hp : p ≤ L.length) (r : Nat) : (L.take p ++ c :: L.drop p)[r]? = if r < p then L[r]? else if r = p then some c else L[r - 1]? := by
  have hl : (L.take p).length = p := by rw [List.length_take]; omega
  by_cases c1 : r < p
  · rw [if_pos c1, List.getElem?_append_left (by omega), List.getElem?_take, if_pos c1]
  · rw [if_neg c1, List.getElem?_append_right (by omega), hl]
    by_cases c2 : r = p
    · subst c2
      rw [if_pos rfl, Nat.sub_self]
      rfl
    · obtain ⟨z, rfl⟩ : ∃ z, r = p + z + 1 := ⟨r - p - 1, by omega⟩
      rw [if_neg c2, show p + z + 1 - p = z + 1 by omega, List.getElem?_cons_succ, List.getElem?_drop, show p + z + 1 - 1 = p + z by omega]
theorem cl_sort {L : List zCl} {c : zCl} {p : Nat} (hs : L.Pairwise (fun a b => clGo a b = true)) (h1 : ∀ i a, i < p → L[i]? = some a → clGo a c = true) (h2 : ∀ a, L[p]? = some a → ¬ clGo a c = true) (hq : ∀ a, a ∈ L → a.1 ≠ c.1) : (L.take p ++ c :: L.drop p).Pairwise (fun a b => clGo a b = true) := by
  have hs2 : (L.take p ++ L.drop p).Pairwise (fun a b => clGo a b = true) := by rw [List.take_append_drop]; exact hs
  obtain ⟨s1, s2, s3⟩ := List.pairwise_append.mp hs2
  have hd : ∀ b, b ∈ L.drop p → clGo c b = true := by
    cases hdd : L.drop p with
    | nil =>
      intro b hb
      exact absurd hb List.not_mem_nil
    | cons a l =>
      have hpl : L[p]? = some a := by
        have : (L.drop p)[0]? = some a := by rw [hdd]; rfl
        rw [List.getElem?_drop, Nat.add_zero] at this
        exact this
      have hac : clGo c a = true := clGo_o (hq a (List.mem_of_getElem? hpl)) (h2 a hpl)
      intro b hb
      rcases List.mem_cons.mp hb with e | hb
      · rw [e]
        exact hac
      · rw [hdd] at s2
        exact clGo_t hac ((List.pairwise_cons.mp s2).1 b hb)
  refine List.pairwise_append.mpr ⟨s1, List.pairwise_cons.mpr ⟨hd, s2⟩, fun a ha b hb => ?_⟩
  rcases List.mem_cons.mp hb with e | hb
  · rw [e]
    obtain ⟨i, hi⟩ := List.mem_iff_getElem?.mp ha
    rw [List.getElem?_take] at hi
    by_cases ci : i < p
    · rw [if_pos ci] at hi
      exact h1 i a ci hi
    · rw [if_neg ci] at hi
      cases hi
  · exact s3 a ha b hb
theorem d_claimN {I J : zM} {o B : Nat} (hB : B ≤ 2 ^ 20) (x t : Int32) {ur dd : Nat} (hur : ur ≤ 9) (hd1 : 1 ≤ dd) (hd2 : dd ≤ 30) : Deed I J o B (f_X2_enterClaim I o x t (nI ur) (nI dd)) (f_X9_claim J x t (nI (100 * ur + dd))) := by
  intro np nt hM hR
  have hz := zFu_big
  obtain ⟨c1, c2, c3, c4, c5, c6, ⟨day, hday, day1, day2⟩, -⟩ := hR.1
  unfold f_X2_enterClaim f_X9_claim
  rcases pr_isPerson c3 c4 c1 x with ⟨e1, e2⟩ | ⟨q, hq, rfl, e1, e2⟩
  · rw [e1, e2]
    exact dd_same hM hR (-1) rfl rfl
  · rw [e1, e2, zb_s, zb_s, if_neg one0, if_neg one0]
    rcases pr_isTool c5 c6 c2 t with ⟨e1, e2⟩ | ⟨u, hu, rfl, e1, e2⟩
    · rw [e1, e2]
      exact dd_same hM hR (-1) rfl rfl
    · have ediv : nI (100 * ur + dd) / 100 = nI ur := by
        rw [show nI (100 * ur + dd) / 100 = nI ((100 * ur + dd) / 100) from pk_div (by omega) (d := 100) (by decide) (by decide), show (100 * ur + dd) / 100 = ur by omega]
      have erem : nI (100 * ur + dd) - nI ur * 100 = nI dd := by
        rw [show nI ur * 100 = nI (ur * 100) from pk_mul ur 100, pk_sub (by omega), show 100 * ur + dd - ur * 100 = dd by omega]
      rw [e1, e2, zb_s, zb_s, if_neg one0, if_neg one0, in_e, if_neg (nI_pos (by omega)), if_pos (show nI (100 * ur + dd) ≤ 999 from nI_le (b := 999) (by omega) (by decide)), zb_s, if_neg one0, ediv, erem, in_e, if_neg (show ¬ nI dd < 1 from nI_nlt (b := 1) hd1 (by omega)), if_pos (show nI dd ≤ 30 from nI_le (b := 30) hd2 (by decide)), zb_s, if_neg one0]
      unfold f_X2_enterClaim_j21
      rw [if_neg one0, if_neg (nI_pos (by omega)), if_neg (show ¬ (9 : Int32) < nI ur from nI_nlt (a := 9) hur (by decide)), if_neg (show ¬ nI dd < 1 from nI_nlt (b := 1) hd1 (by omega)), if_pos (show nI dd ≤ 30 from nI_le (b := 30) hd2 (by decide)), sp_toolAt I o (by omega), zb_s]
      obtain ⟨e, n, m, L, S, ha, hl, hk, hc⟩ := hR.2.2 u hu
      have hL8 : L.length ≤ 8 := hc.1.2.2.2.1
      have hpl := hc.2.2.2.2.1.length_eq
      rcases pr_claimOn (by omega) hc c1 (show q < 12 by omega) with ⟨i, j, c, h1, h2, h3, h4, h5⟩ | ⟨h1, h2, h3⟩
      · have hil := (List.getElem?_eq_some_iff.mp h1).1
        have hjl := (List.getElem?_eq_some_iff.mp h2).1
        rw [h4, h5, zb_s, zb_s, if_pos (nI_pos' (by omega)), if_pos (nI_pos' (by omega))]
        exact dd_same hM hR (-5) rfl rfl
      · rw [h2, h3, zb_s, zb_s, if_neg (show ¬ (0 : Int32) ≤ -1 by decide), if_neg (show ¬ (0 : Int32) ≤ -2 by decide)]
        have q2 : f_X9_t J (nI u) 2 = some (J 1 (180 + u * 90 + 2)) := sp_t J (t := u) (f := 2) (by omega)
        have hsame : (I (o + 39 + 7 * u) 2 = nI q ∧ J 1 (180 + u * 90 + 2) = nI q) ∨ (¬ I (o + 39 + 7 * u) 2 = nI q ∧ ¬ J 1 (180 + u * 90 + 2) = nI q) := by
          rcases RO_out hR hu with ⟨b1, b2, -⟩ | ⟨p, d, b0, -, b1, b2, -⟩
          · exact Or.inr ⟨fun h => absurd (show nI q < 0 by rw [← h, b1]; decide) (nI_pos (by omega)), fun h => absurd (show nI q < 0 by rw [← h, b2]; decide) (nI_pos (by omega))⟩
          · rw [b1, b2]
            by_cases h : nI p = nI q
            · exact Or.inl ⟨h, h⟩
            · exact Or.inr ⟨h, h⟩
        rw [q2, zb_s]
        rcases hsame with ⟨y1, y2⟩ | ⟨y1, y2⟩
        · rw [if_pos y1, if_pos y2]
          exact dd_same hM hR (-5) rfl rfl
        · rw [if_neg y1, if_neg y2, sp_size hc.1, zb_s, sp_57 (show u < 10 by omega) hc, zb_s]
          by_cases c8 : L.length < 8
          · rw [if_pos (show nI L.length < 8 from nI_lt (b := 8) c8 (by decide)), if_neg (show ¬ nI S.length = 8 from fun h => absurd ((nI_eq (by omega) (by decide)).mp (show nI S.length = nI 8 from h)) (by omega)), zb_s]
            have hok : clOk np B (q, ur, dd, day) := ⟨hq, hur, hd1, hd2, hday⟩
            -- the class
            unfold f_X7_addClaim
            obtain ⟨p, hp, p1, p2, p3⟩ := l_add (c := (q, ur, dd, day)) hc hB c1 hok (fun z5 => f_X7_addClaim_j34 I (o + 39 + 7 * u) (nI q) (nI ur) (nI dd) (I o 7) z5) L.length 0 zFu (by omega) (by omega) (fun i a hi => absurd hi (Nat.not_lt_zero i))
            rw [day1] at p1 ⊢
            have p1 : f_X7_addClaim_l3 I (o + 39 + 7 * u) (nI q) (nI ur) (nI dd) (nI day) _ zFu 0 = _ := p1
            rw [p1]
            unfold f_X7_addClaim_j34
            have hins := sp_insert hc.1 c8 hp
            generalize hM1 : shR (zer (ms I (o + 39 + 7 * u + 5) 3 (nI (L.length + 1))) (o + 39 + 7 * u + 5 + 1) (L.length * 4) ((L.length + 1) * 4)) (o + 39 + 7 * u + 5 + 1) (p * 4 + 4) (8 * 4) 4 = M1 at hins
            have hT1 : TB M1 (o + 39 + 7 * u + 5) 8 4 (L.length + 1) := by
              have t0 := hc.1.m
              refine TM.b ⟨?_, ?_, t0.2.2⟩ ?_ (by omega)
              · rw [← hM1, shR_n (by omega), zer_n (by omega), ms_sn (by decide)]
                exact t0.1
              · rw [← hM1, shR_n (by omega), zer_n (by omega), ms_sn (by decide)]
                exact t0.2.1
              · rw [← hM1, shR_n (by omega), zer_n (by omega), ms_ss]
            have kM1 : ∀ k, k ≠ o + 39 + 7 * u + 5 → k ≠ o + 39 + 7 * u + 5 + 1 → M1 k = I k := fun k k1 k2 => by rw [← hM1, shR_n k2, zer_n k2, ms_n k1]
            have rlt : ∀ r j, r < p → j < 4 → M1 (o + 39 + 7 * u + 5 + 1) (r * 4 + j) = I (o + 39 + 7 * u + 5 + 1) (r * 4 + j) := fun r j h1 h2 => by
              rw [← hM1, shR_s, if_neg (by omega), zer_s, if_neg (by omega), ms_n (by omega)]
            have rgt : ∀ r j, p < r → r ≤ L.length → j < 4 → M1 (o + 39 + 7 * u + 5 + 1) (r * 4 + j) = I (o + 39 + 7 * u + 5 + 1) ((r - 1) * 4 + j) := fun r j h1 h2 h3 => by
              rw [← hM1, shR_s, if_pos (by omega), zer_s, if_neg (by omega), ms_n (by omega), show r * 4 + j - 4 = (r - 1) * 4 + j by omega]
            have s0 := sp_setCell hT1 (i := p) (j := 0) (by omega) (by decide) (nI q)
            have hT2 : TB (ms M1 (o + 39 + 7 * u + 5 + 1) (p * 4 + 0) (nI q)) (o + 39 + 7 * u + 5) 8 4 (L.length + 1) := TB_c hT1 (ms_n (by omega))
            have s1 := sp_setCell hT2 (i := p) (j := 1) (by omega) (by decide) (nI ur)
            have hT3 := TB_c (I2 := ms (ms M1 (o + 39 + 7 * u + 5 + 1) (p * 4 + 0) (nI q)) (o + 39 + 7 * u + 5 + 1) (p * 4 + 1) (nI ur)) hT2 (ms_n (by omega))
            have s2 := sp_setCell hT3 (i := p) (j := 2) (by omega) (by decide) (nI dd)
            have hT4 := TB_c (I2 := ms (ms (ms M1 (o + 39 + 7 * u + 5 + 1) (p * 4 + 0) (nI q)) (o + 39 + 7 * u + 5 + 1) (p * 4 + 1) (nI ur)) (o + 39 + 7 * u + 5 + 1) (p * 4 + 2) (nI dd)) hT3 (ms_n (by omega))
            have s3 := sp_setCell hT4 (i := p) (j := 3) (by omega) (by decide) (nI day)
            have s0 : f_X4_setCell M1 (o + 39 + 7 * u + 5) (nI p) 0 (nI q) = _ := s0
            have s1 : f_X4_setCell _ (o + 39 + 7 * u + 5) (nI p) 1 (nI ur) = _ := s1
            have s2 : f_X4_setCell _ (o + 39 + 7 * u + 5) (nI p) 2 (nI dd) = _ := s2
            have s3 : f_X4_setCell _ (o + 39 + 7 * u + 5) (nI p) 3 (nI day) = _ := s3
            rw [hins, zb_s, s0, zb_s, s1, zb_s, s2, zb_s, s3, zb_s]
            have hT5 := TB_c (I2 := ms (ms (ms (ms M1 (o + 39 + 7 * u + 5 + 1) (p * 4 + 0) (nI q)) (o + 39 + 7 * u + 5 + 1) (p * 4 + 1) (nI ur)) (o + 39 + 7 * u + 5 + 1) (p * 4 + 2) (nI dd)) (o + 39 + 7 * u + 5 + 1) (p * 4 + 3) (nI day)) hT4 (ms_n (by omega))
            generalize hM5 : ms (ms (ms (ms M1 (o + 39 + 7 * u + 5 + 1) (p * 4 + 0) (nI q)) (o + 39 + 7 * u + 5 + 1) (p * 4 + 1) (nI ur)) (o + 39 + 7 * u + 5 + 1) (p * 4 + 2) (nI dd)) (o + 39 + 7 * u + 5 + 1) (p * 4 + 3) (nI day) = M5 at hT5
            have kM5 : ∀ k, k ≠ o + 39 + 7 * u + 5 → k ≠ o + 39 + 7 * u + 5 + 1 → M5 k = I k := fun k k1 k2 => by rw [← hM5, ms_n k2, ms_n k2, ms_n k2, ms_n k2, kM1 k k1 k2]
            have row5 : ∀ r j, r ≠ p → j < 4 → M5 (o + 39 + 7 * u + 5 + 1) (r * 4 + j) = M1 (o + 39 + 7 * u + 5 + 1) (r * 4 + j) := fun r j h1 h2 => by
              rw [← hM5, ms_sn (by omega), ms_sn (by omega), ms_sn (by omega), ms_sn (by omega)]
            have rowp : M5 (o + 39 + 7 * u + 5 + 1) (p * 4 + 0) = nI q ∧ M5 (o + 39 + 7 * u + 5 + 1) (p * 4 + 1) = nI ur ∧ M5 (o + 39 + 7 * u + 5 + 1) (p * 4 + 2) = nI dd ∧ M5 (o + 39 + 7 * u + 5 + 1) (p * 4 + 3) = nI day := by
              rw [← hM5]
              refine ⟨?_, ?_, ?_, ?_⟩ <;> simp (disch := omega) only [ms_sn, ms_ss]
            -- the reference
            have e58 : (58 : Int32) + 4 * nI S.length = nI (58 + 4 * S.length) := by rw [show (4 : Int32) = nI 4 from rfl, show (58 : Int32) = nI 58 from rfl, pk_mul, nI_add]
            have f1 : nI (58 + 4 * S.length) + 1 = nI (58 + 4 * S.length + 1) := nI_add _ 1
            have f2 : nI (58 + 4 * S.length) + 2 = nI (58 + 4 * S.length + 2) := nI_add _ 2
            have f3 : nI (58 + 4 * S.length) + 3 = nI (58 + 4 * S.length + 3) := nI_add _ 3
            have w0 : ∀ N : zM, ∀ v, f_X9_setT N (nI u) (nI (58 + 4 * S.length)) v = some (ms N 1 (180 + u * 90 + (58 + 4 * S.length)) v) := fun N v => sp_setT N (by omega) v
            have w1 : ∀ N : zM, ∀ v, f_X9_setT N (nI u) (nI (58 + 4 * S.length + 1)) v = some (ms N 1 (180 + u * 90 + (58 + 4 * S.length + 1)) v) := fun N v => sp_setT N (by omega) v
            have w2 : ∀ N : zM, ∀ v, f_X9_setT N (nI u) (nI (58 + 4 * S.length + 2)) v = some (ms N 1 (180 + u * 90 + (58 + 4 * S.length + 2)) v) := fun N v => sp_setT N (by omega) v
            have w3 : ∀ N : zM, ∀ v, f_X9_setT N (nI u) (nI (58 + 4 * S.length + 3)) v = some (ms N 1 (180 + u * 90 + (58 + 4 * S.length + 3)) v) := fun N v => sp_setT N (by omega) v
            have w4 : ∀ N : zM, ∀ v, f_X9_setT N (nI u) 57 v = some (ms N 1 (180 + u * 90 + 57) v) := fun N v => sp_setT N (t := u) (f := 57) (by omega) v
            have w82 : ∀ a b c, ms (ms (ms J 1 (180 + u * 90 + (58 + 4 * S.length)) a) 1 (180 + u * 90 + (58 + 4 * S.length + 1)) b) 1 (180 + u * 90 + (58 + 4 * S.length + 2)) c 1 1082 = nI day := fun a b c => by rw [ms_sn (by omega), ms_sn (by omega), ms_sn (by omega), day2]
            rw [zb_s, e58, f1, f2, f3, w0, zb_s, w1, zb_s, w2, zb_s, w3, zb_s, w82, w4, zb_s, nI_1]
            generalize hN : ms (ms (ms (ms (ms J 1 (180 + u * 90 + (58 + 4 * S.length)) (nI q)) 1 (180 + u * 90 + (58 + 4 * S.length + 1)) (nI ur)) 1 (180 + u * 90 + (58 + 4 * S.length + 2)) (nI dd)) 1 (180 + u * 90 + (58 + 4 * S.length + 3)) (nI day)) 1 (180 + u * 90 + 57) (nI (S.length + 1)) = N
            have kN : ∀ k, k ≠ 180 + u * 90 + 57 → (k < 180 + u * 90 + (58 + 4 * S.length) ∨ 180 + u * 90 + (58 + 4 * S.length + 4) ≤ k) → N 1 k = J 1 k := fun k k1 k2 => by
              rw [← hN, ms_sn k1, ms_sn (by omega), ms_sn (by omega), ms_sn (by omega), ms_sn (by omega)]
            have hN57 : N 1 (180 + u * 90 + 57) = nI (S.length + 1) := by rw [← hN, ms_ss]
            have rowN : N 1 (180 + u * 90 + (58 + 4 * S.length + 0)) = nI q ∧ N 1 (180 + u * 90 + (58 + 4 * S.length + 1)) = nI ur ∧ N 1 (180 + u * 90 + (58 + 4 * S.length + 2)) = nI dd ∧ N 1 (180 + u * 90 + (58 + 4 * S.length + 3)) = nI day := by
              rw [← hN]
              refine ⟨?_, ?_, ?_, ?_⟩ <;> simp (disch := omega) only [ms_sn, ms_ss, ms_se]
            have kNa : ∀ a, a ≠ 1 → N a = J a := fun a ha => by rw [← hN, ms_n ha, ms_n ha, ms_n ha, ms_n ha, ms_n ha]
            obtain ⟨g1, g2, g3, g4, g5, g6, g7, g8⟩ := hc
            have hper : (L.take p ++ (q, ur, dd, day) :: L.drop p).Perm (S ++ [(q, ur, dd, day)]) := by
              refine List.perm_middle.trans ?_
              rw [List.take_append_drop]
              exact (List.Perm.cons _ g5).trans (List.perm_append_singleton _ _).symm
            have hlen : (L.take p ++ (q, ur, dd, day) :: L.drop p).length = L.length + 1 := by
              rw [hper.length_eq, List.length_append, List.length_singleton]
              omega
            have hall : ∀ c, c ∈ L.take p ++ (q, ur, dd, day) :: L.drop p → clOk np B c := fun c hcm => by
              rcases List.mem_append.mp (hper.mem_iff.mp hcm) with h | h
              · exact g7 c (g5.mem_iff.mpr h)
              · rw [List.mem_singleton.mp h]
                exact hok
            have hRTc : RTc M5 (o + 39 + 7 * u) (N 1) (180 + u * 90) np B (L.take p ++ (q, ur, dd, day) :: L.drop p) (S ++ [(q, ur, dd, day)]) := by
              refine ⟨by rw [hlen]; exact hT5, by rw [hlen, hN57, hpl], fun r a hr => ?_, fun r a hr => ?_, hper, cl_sort g6 p2 p3 h1, hall, ?_⟩
              · have hrl := (List.getElem?_eq_some_iff.mp hr).1
                rw [hlen] at hrl
                rw [ins_get L _ hp] at hr
                by_cases cr : r < p
                · rw [if_pos cr] at hr
                  refine clAt_c (g3 r a hr) (fun j hj => ?_)
                  show M5 (o + 39 + 7 * u + 5 + 1) (r * 4 + j) = _
                  rw [row5 r j (by omega) hj, rlt r j cr hj]
                · rw [if_neg cr] at hr
                  by_cases cr2 : r = p
                  · rw [if_pos cr2] at hr
                    have hxa : (q, ur, dd, day) = a := by simpa using hr
                    subst hxa
                    rw [cr2]
                    exact rowp
                  · rw [if_neg cr2] at hr
                    refine clAt_c (g3 (r - 1) a hr) (fun j hj => ?_)
                    show M5 (o + 39 + 7 * u + 5 + 1) (r * 4 + j) = _
                    rw [row5 r j cr2 hj, rgt r j (by omega) (by omega) hj]
              · have hrl := (List.getElem?_eq_some_iff.mp hr).1
                rw [List.length_append, List.length_singleton] at hrl
                by_cases cr : r < S.length
                · rw [List.getElem?_append_left cr] at hr
                  refine clAt_c (g4 r a hr) (fun j hj => ?_)
                  exact kN _ (by omega) (by omega)
                · have hrs : r = S.length := by omega
                  subst hrs
                  rw [List.getElem?_append_right (Nat.le_refl _), Nat.sub_self] at hr
                  have hxa : (q, ur, dd, day) = a := by simpa using hr
                  subst hxa
                  exact rowN
              · rw [((List.perm_middle (a := ((q, ur, dd, day) : zCl)) (l₁ := L.take p) (l₂ := L.drop p)).map (fun x : zCl => x.1)).nodup_iff, List.map_cons, List.take_append_drop]
                refine List.nodup_cons.mpr ⟨fun hm => ?_, g8⟩
                obtain ⟨c, hc1, hc2⟩ := List.mem_map.mp hm
                exact h1 c hc1 hc2
            have hpo := sp_placeOn (show u < 10 by omega) hRTc hB c1 (i := S.length) (c := (q, ur, dd, day)) (by rw [List.getElem?_append_right (Nat.le_refl _), Nat.sub_self]; rfl)
            rw [cl_place hRTc.2.2.2.2.2.1 (k := p) (by rw [ins_get L _ hp, if_neg (Nat.lt_irrefl p), if_pos rfl])] at hpo
            rw [hpo, zb_s]
            refine ⟨nI p, M5, N, np, nt, rfl, rfl, Nat.le_refl _, Nat.le_refl _, ?_, ?_, FJ_1 kNa⟩
            · exact MT_tool hM (t := u) (by omega) (fun k hk => kM5 k (by omega) (by omega)) (TM_c (hM.1 u (by omega)).1 (kM5 _ (by omega) (by omega))) (TM_c (hM.1 u (by omega)).2.1 (kM5 _ (by omega) (by omega))) hT5.m
            · refine RO_m (RO_t (t := u) hR (fun k a b => kM5 k (by omega) (by omega)) (fun k a b => kM5 k (by omega) (by omega)) (fun k a b => kN k (by omega) (by omega)) (fun k a b => kN k (by omega) (by omega)) hu ?_) (Nat.le_succ B)
              exact ⟨e, n, m, _, _, RTa_c ha (kM5 _ (by omega) (by omega)) (fun k a b => kN k (by omega) (by omega)), RTl_c hl (kM5 _ (by omega) (by omega)) (kM5 _ (by omega) (by omega)) (kN _ (by omega) (by omega)) (fun k a b => kN k (by omega) (by omega)), RTk_c hk (kM5 _ (by omega) (by omega)) (kM5 _ (by omega) (by omega)) (fun k a b => kN k (by omega) (by omega)), hRTc⟩
          · have h8 : L.length = 8 := by omega
            rw [h8, if_neg (by decide), if_pos (show nI S.length = 8 by rw [← hpl, h8]; rfl)]
            exact dd_same hM hR (-3) rfl rfl
