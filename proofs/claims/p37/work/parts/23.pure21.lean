/-! PURE 21: a claim goes -/
theorem swap_rem {α : Type} {S : List α} {j : Nat} {c x : α} (hj : S[j]? = some c) (hx : S.getLast? = some x) : S.Perm (c :: (S.set j x).dropLast) := by
  obtain ⟨A, rfl⟩ := List.getLast?_eq_some_iff.mp hx
  have hl := (List.getElem?_eq_some_iff.mp hj).1
  rw [List.length_append, List.length_singleton] at hl
  rw [List.set_append]
  by_cases h : j < A.length
  · rw [if_pos h, List.dropLast_concat]
    rw [List.getElem?_append_left h] at hj
    have hc := (List.getElem?_eq_some_iff.mp hj).2
    have e1 : A = A.take j ++ c :: A.drop (j + 1) := by
      rw [← hc, ← List.drop_eq_getElem_cons h, List.take_append_drop]
    have e2 : A.set j x = A.take j ++ x :: A.drop (j + 1) := by
      rw [List.set_eq_take_append_cons_drop, if_pos h]
    rw [e2]
    refine (List.perm_append_singleton x A).trans ?_
    refine (List.Perm.cons x ((List.Perm.of_eq e1).trans List.perm_middle)).trans ?_
    exact (List.Perm.swap c x _).trans (List.Perm.cons c List.perm_middle.symm)
  · have hjl : j = A.length := by omega
    subst hjl
    rw [List.getElem?_append_right (Nat.le_refl _), Nat.sub_self] at hj
    have hcx : x = c := by simpa using hj
    subst hcx
    rw [if_neg h, Nat.sub_self, show ([x] : List α).set 0 x = [x] from rfl, List.dropLast_concat]
    exact List.perm_append_singleton x A
theorem era_perm {α : Type} {L : List α} {i : Nat} {c : α} (hi : L[i]? = some c) : L.Perm (c :: L.eraseIdx i) := by
  have hc := (List.getElem?_eq_some_iff.mp hi)
  have hl := hc.1
  have e1 : L = L.take i ++ c :: L.drop (i + 1) := by
    rw [← hc.2, ← List.drop_eq_getElem_cons hl, List.take_append_drop]
  rw [List.eraseIdx_eq_take_drop_succ]
  exact (List.Perm.of_eq e1).trans List.perm_middle
theorem l_goes {t j z : Nat} (ht : t < 10) (hj : j ≤ z) (hz8 : z < 8) (K : zM → Option zM) : ∀ (d y fuel : Nat) (M : zM), 4 = y + d → d < fuel → f_X9_claimGoes_l13 (nI t) (nI j) (nI z) K fuel M (nI y) = K (shL M 1 (180 + t * 90 + (58 + 4 * j + y)) (180 + t * 90 + (58 + 4 * j + 4)) (4 * (z - j))) := by
  intro d
  induction d with
  | zero =>
    intro y fuel M hd hf
    obtain ⟨m, rfl⟩ : ∃ m, fuel = m + 1 := ⟨fuel - 1, by omega⟩
    rw [f_X9_claimGoes_l13]
    simp (disch := omega) only [zlit, zofN, zneg, zle, zlt, zeq, pk_mul, pk_sub, nI_add, nI_clamp, zb_s, zlet_s, if_false, if_true, if_pos, if_neg, zck_1, zin_t]
    refine congrArg K (zM_ext1 1 (fun b hb => (shL_n hb).symm) (fun k => ?_))
    rw [shL_s, if_neg (by omega)]
  | succ d ih =>
    intro y fuel M hd hf
    obtain ⟨m, rfl⟩ : ∃ m, fuel = m + 1 := ⟨fuel - 1, by omega⟩
    rw [f_X9_claimGoes_l13]
    unfold f_X9_c
    simp (disch := omega) only [sp_t, sp_setT, zlit, zofN, zneg, zle, zlt, zeq, pk_mul, pk_sub, nI_add, nI_clamp, zb_s, zlet_s, if_false, if_true, if_pos, if_neg, zck_1, zin_t]
    rw [ih (y + 1) m _ (by omega) (by omega)]
    refine congrArg K (zM_ext1 1 (fun b hb => by rw [shL_n hb, shL_n hb, ms_n hb]) (fun k => ?_))
    rw [shL_s, shL_s, ms_at, ms_at]
    by_cases c1 : k = 180 + t * 90 + (58 + 4 * j + y)
    · subst c1
      rw [if_neg (by omega), if_pos rfl, if_pos (by omega), show 180 + t * 90 + (58 + 4 * z + y) = 180 + t * 90 + (58 + 4 * j + y) + 4 * (z - j) by omega]
    · by_cases c2 : 180 + t * 90 + (58 + 4 * j + y) ≤ k ∧ k < 180 + t * 90 + (58 + 4 * j + 4)
      · rw [if_pos (by omega), if_pos c2, if_neg (by omega)]
      · rw [if_neg (by omega), if_neg c2, if_neg c1]
theorem sp_claimGoes {J : zM} {t j z : Nat} (ht : t < 10) (hj : j ≤ z) (hz8 : z < 8) (h57 : J 1 (180 + t * 90 + 57) = nI (z + 1)) : f_X9_claimGoes J (nI t) (nI j) = some (ms (shL J 1 (180 + t * 90 + (58 + 4 * j + 0)) (180 + t * 90 + (58 + 4 * j + 4)) (4 * (z - j))) 1 (180 + t * 90 + 57) (nI z)) := by
  have hz := zFu_big
  have q57 : f_X9_t J (nI t) 57 = some (nI (z + 1)) := by rw [← h57]; exact sp_t J (t := t) (f := 57) (by omega)
  have hl := fun K => l_goes ht hj hz8 K 4 0 zFu J (by omega) (by omega)
  have hl : ∀ K, f_X9_claimGoes_l13 (nI t) (nI j) (nI z) K zFu J 0 = _ := hl
  unfold f_X9_claimGoes
  rw [q57, zb_s, zlet_s, nI_pred, hl]
  have s : ∀ M : zM, f_X9_setT M (nI t) 57 (nI z) = some (ms M 1 (180 + t * 90 + 57) (nI z)) := fun M => sp_setT M (t := t) (f := 57) (by omega) _
  rw [s, zb_s]
theorem pr_goes {I J : zM} {T t np B i j : Nat} {L S : List zCl} {c : zCl} (ht : t < 10) (h : RTc I T (J 1) (180 + t * 90) np B L S) (hi : L[i]? = some c) (hj : S[j]? = some c) : ∃ M N S2, f_X4_remove I (T + 5) (nI i) = some M ∧ f_X9_claimGoes J (nI t) (nI j) = some N ∧ RTc M T (N 1) (180 + t * 90) np B (L.eraseIdx i) S2 ∧ (∀ k, k ≠ T + 5 → k ≠ T + 5 + 1 → M k = I k) ∧ (∀ a, a ≠ 1 → N a = J a) ∧ (∀ k, (k < 180 + t * 90 + 57 ∨ 180 + t * 90 + 90 ≤ k) → N 1 k = J 1 k) ∧ (L.eraseIdx i).length + 1 = L.length := by
  obtain ⟨h1, h2, h3, h4, h5, h6, h7, h8⟩ := h
  have hL8 : L.length ≤ 8 := h1.2.2.2.1
  have hil := (List.getElem?_eq_some_iff.mp hi).1
  have hjl := (List.getElem?_eq_some_iff.mp hj).1
  have hpl := h5.length_eq
  obtain ⟨z, hz⟩ : ∃ z, S.length = z + 1 := ⟨S.length - 1, by omega⟩
  have hzl : L.length = z + 1 := by omega
  obtain ⟨x, hx⟩ : ∃ x, S[z]? = some x := ⟨S[z], List.getElem?_eq_getElem (by omega)⟩
  have hlast : S.getLast? = some x := by rw [List.getLast?_eq_getElem?, hz, Nat.add_sub_cancel, hx]
  have hr := sp_remove h1 hil
  rw [hzl] at h2
  have hg := sp_claimGoes (J := J) (t := t) (j := j) (z := z) ht (by omega) (by omega) h2
  have hlen : (L.eraseIdx i).length = z := by rw [List.length_eraseIdx, if_pos hil]; omega
  have hlenS : ((S.set j x).dropLast).length = z := by rw [List.length_dropLast, List.length_set]; omega
  refine ⟨_, _, (S.set j x).dropLast, hr, hg, ⟨?_, ?_, fun r a hr => ?_, fun r a hr => ?_, ?_, h6.sublist (List.eraseIdx_sublist _ _), fun a ha => h7 a ((List.eraseIdx_sublist _ _).subset ha), h8.sublist ((List.eraseIdx_sublist _ _).map _)⟩, fun k k1 k2 => ?_, fun a ha => ?_, fun k hk => ?_, by omega⟩
  · rw [hlen]
    have t0 := h1.m
    refine TM.b ⟨?_, ?_, t0.2.2⟩ ?_ (by omega)
    · rw [ms_sn (by decide), shL_n (by omega)]
      exact t0.1
    · rw [ms_sn (by decide), shL_n (by omega)]
      exact t0.2.1
    · rw [ms_ss, hzl, Nat.add_sub_cancel]
  · rw [ms_ss, hlen]
  · have hrl := (List.getElem?_eq_some_iff.mp hr).1
    rw [hlen] at hrl
    rw [List.getElem?_eraseIdx] at hr
    by_cases cr : r < i
    · rw [if_pos cr] at hr
      refine clAt_c (h3 r a hr) (fun j' hj' => ?_)
      show ms (shL I (T + 5 + 1) (i * 4) ((8 - 1) * 4) 4) (T + 5) 3 (nI (L.length - 1)) (T + 5 + 1) (r * 4 + j') = _
      rw [ms_n (by omega), shL_s, if_neg (by omega)]
    · rw [if_neg cr] at hr
      refine clAt_c (h3 (r + 1) a hr) (fun j' hj' => ?_)
      show ms (shL I (T + 5 + 1) (i * 4) ((8 - 1) * 4) 4) (T + 5) 3 (nI (L.length - 1)) (T + 5 + 1) (r * 4 + j') = _
      rw [ms_n (by omega), shL_s, if_pos (by omega), show r * 4 + j' + 4 = (r + 1) * 4 + j' by omega]
  · have hrl := (List.getElem?_eq_some_iff.mp hr).1
    rw [hlenS] at hrl
    rw [List.getElem?_dropLast, List.length_set, hz, Nat.add_sub_cancel, if_pos hrl, List.getElem?_set] at hr
    by_cases cr : j = r
    · subst cr
      rw [if_pos rfl, if_pos hjl] at hr
      have hxa : x = a := by simpa using hr
      subst hxa
      refine clAt_c (h4 z x hx) (fun j' hj' => ?_)
      rw [ms_sn (by omega), shL_s, if_pos (by omega), show 180 + t * 90 + (58 + 4 * j + j') + 4 * (z - j) = 180 + t * 90 + (58 + 4 * z + j') by omega]
    · rw [if_neg cr] at hr
      refine clAt_c (h4 r a hr) (fun j' hj' => ?_)
      rw [ms_sn (by omega), shL_s, if_neg (by omega)]
  · exact ((era_perm hi).symm.trans (h5.trans (swap_rem hj hlast))).cons_inv
  · rw [ms_n k1, shL_n k2]
  · rw [ms_n ha, shL_n ha]
  · rw [ms_sn (by omega), shL_s, if_neg (by omega)]
-- at the office's height
theorem RO_goes {I J : zM} {o np nt B t : Nat} (hM : MT I o) (hR : RO I o (J 1) np nt B) (ht : t < nt) {L S : List zCl} (hc : RTc I (o + 39 + 7 * t) (J 1) (180 + t * 90) np B L S) {i j : Nat} {c : zCl} (hi : L[i]? = some c) (hj : S[j]? = some c) : ∃ M N L2 S2, f_X4_remove I (o + 39 + 7 * t + 5) (nI i) = some M ∧ f_X9_claimGoes J (nI t) (nI j) = some N ∧ MT M o ∧ RO M o (N 1) np nt B ∧ (∀ a, a ≠ 1 → N a = J a) ∧ RTc M (o + 39 + 7 * t) (N 1) (180 + t * 90) np B L2 S2 ∧ M (o + 39 + 7 * t) = I (o + 39 + 7 * t) ∧ L2.length + 1 = L.length := by
  have hnt := hR.1.2.1
  obtain ⟨M, N, S2, r1, r2, r3, r4, r5, r6, r7⟩ := pr_goes (t := t) (by omega) hc hi hj
  refine ⟨M, N, L.eraseIdx i, S2, r1, r2, ?_, ?_, r5, r3, r4 _ (by omega) (by omega), r7⟩
  · exact MT_tool hM (t := t) (by omega) (fun k hk => r4 k (by omega) (by omega)) (TM_c (hM.1 t (by omega)).1 (r4 _ (by omega) (by omega))) (TM_c (hM.1 t (by omega)).2.1 (r4 _ (by omega) (by omega))) r3.1.m
  · refine RO_t (t := t) hR (fun k a b => r4 k (by omega) (by omega)) (fun k a b => r4 k (by omega) (by omega)) (fun k a b => r6 k (by omega)) (fun k a b => r6 k (by omega)) ht ?_
    obtain ⟨e, n, m, L0, S0, a1, a2, a3, a4⟩ := hR.2.2 t ht
    exact ⟨e, n, m, L.eraseIdx i, S2, RTa_c a1 (r4 _ (by omega) (by omega)) (fun k a b => r6 k (by omega)), RTl_c a2 (r4 _ (by omega) (by omega)) (r4 _ (by omega) (by omega)) (r6 _ (by omega)) (fun k a b => r6 k (by omega)), RTk_c a3 (r4 _ (by omega) (by omega)) (r4 _ (by omega) (by omega)) (fun k a b => r6 k (by omega)), r3⟩
theorem d_waive {I J : zM} {o B : Nat} (x t : Int32) : Deed I J o B (f_X2_dropClaim I o x t) (f_X9_waive J x t) := by
  intro np nt hM hR
  obtain ⟨c1, c2, c3, c4, c5, c6, -⟩ := hR.1
  unfold f_X2_dropClaim f_X9_waive
  rcases pr_isPerson c3 c4 c1 x with ⟨e1, e2⟩ | ⟨q, hq, rfl, e1, e2⟩
  · rw [e1, e2]
    exact dd_same hM hR (-1) rfl rfl
  · rw [e1, e2, zb_s, zb_s, if_neg one0, if_neg one0]
    rcases pr_isTool c5 c6 c2 t with ⟨e1, e2⟩ | ⟨u, hu, rfl, e1, e2⟩
    · rw [e1, e2]
      exact dd_same hM hR (-1) rfl rfl
    · rw [e1, e2, zb_s, zb_s, if_neg one0, if_neg one0, sp_toolAt I o (by omega), zb_s]
      obtain ⟨e, n, m, L, S, -, -, -, hc⟩ := hR.2.2 u hu
      rcases pr_claimOn (by omega) hc c1 (show q < 12 by omega) with ⟨i, j, c, h1, h2, h3, h4, h5⟩ | ⟨h1, h2, h3⟩
      · have hL8 : L.length ≤ 8 := hc.1.2.2.2.1
        have hil := (List.getElem?_eq_some_iff.mp h1).1
        have hjl := (List.getElem?_eq_some_iff.mp h2).1
        have hpl := hc.2.2.2.2.1.length_eq
        obtain ⟨M, N, L2, S2, r1, r2, r3, r4, r5, r6, -, r7⟩ := RO_goes hM hR hu hc h1 h2
        have q57 := sp_57 (show u < 10 by omega) r6
        rw [h4, h5, zb_s, zb_s, if_pos (nI_pos' (by omega)), if_pos (nI_pos' (by omega)), r1, r2, zb_s, zb_s, sp_size r6.1, q57, zb_s, zb_s, r6.2.2.2.2.1.length_eq]
        exact ⟨_, M, N, np, nt, rfl, rfl, Nat.le_refl _, Nat.le_refl _, r3, RO_m r4 (Nat.le_succ B), FJ_1 r5⟩
      · rw [h2, h3, zb_s, zb_s, if_neg (by decide), if_neg (by decide)]
        exact dd_same hM hR (-2) rfl rfl
