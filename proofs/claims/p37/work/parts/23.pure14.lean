/-! PURE 14: a person comes in, a tool comes in -/
theorem l_isName (I J : zM) : ∀ (m fuel k : Nat), k < 27 ^ m → m < fuel → k < 2 ^ 31 → ∃ r, f_X2_isName_l16 I fuel (nI k) = some r ∧ f_X9_isName_l15 J fuel (nI k) = some r := by
  intro m
  induction m with
  | zero =>
    intro fuel k hk hf h31
    obtain ⟨n, rfl⟩ : ∃ n, fuel = n + 1 := ⟨fuel - 1, by omega⟩
    have h0 : k = 0 := by simpa using hk
    subst h0
    rw [f_X2_isName_l16, f_X9_isName_l15, if_pos (by decide), if_pos (by decide)]
    exact ⟨_, rfl, rfl⟩
  | succ m ih =>
    intro fuel k hk hf h31
    obtain ⟨n, rfl⟩ : ∃ n, fuel = n + 1 := ⟨fuel - 1, by omega⟩
    rw [f_X2_isName_l16, f_X9_isName_l15]
    by_cases c : nI k ≤ 0
    · rw [if_pos c, if_pos c]
      exact ⟨_, rfl, rfl⟩
    · rw [if_neg c, if_neg c]
      by_cases c2 : nI k - nI k / 27 * 27 = 0
      · rw [if_pos c2, if_pos c2]
        exact ⟨_, rfl, rfl⟩
      · rw [if_neg c2, if_neg c2, zlet_s, zlet_s, show nI k / 27 = nI (k / 27) from pk_div h31 (d := 27) (by decide) (by decide)]
        refine ih n (k / 27) ?_ (by omega) (by omega)
        rw [Nat.pow_succ] at hk
        omega
theorem pr_isName (I J : zM) (x : Int32) : ∃ r, f_X2_isName I x = some r ∧ f_X9_isName J x = some r := by
  have hz := zFu_big
  unfold f_X2_isName f_X9_isName
  rw [in_e]
  by_cases c1 : x < 1
  · rw [if_pos c1, if_pos c1, zb_s, if_pos rfl]
    exact ⟨0, rfl, rfl⟩
  · rw [if_neg c1, if_neg c1]
    have e0 : ¬ x < 0 := fun h => c1 (Int32.lt_of_lt_of_le h (by decide))
    obtain ⟨k, hk, rfl⟩ := nI_of e0
    by_cases c2 : k < 19683
    · rw [if_pos (show nI k < 19683 from nI_lt c2 (by decide)), if_pos (show nI k ≤ 19682 from nI_le (b := 19682) (by omega) (by decide)), zb_s, if_neg one0]
      exact l_isName I J 3 zFu k (by omega) (by omega) hk
    · rw [if_neg (show ¬ nI k < 19683 from nI_nlt (b := 19683) (by omega) hk), if_neg (show ¬ nI k ≤ 19682 from nI_ge (a := 19682) (by omega) hk), zb_s, if_pos rfl]
      exact ⟨0, rfl, rfl⟩
theorem l_find {I J : zM} {o np : Nat} (hc : I o 5 = nI np) (hA : J 1 1080 = nI np) (hnp : np ≤ 12) (hq : ∀ q, q < np → I (o + 15 + 2 * q) 0 = J 1 (q * 15 + 0)) (x z : Int32) (K1 K2 : Option (Int32 × zM)) : ∀ (d y fuel : Nat), np = y + d → d < fuel → (f_X2_enterPerson_l22 I o x z K1 fuel (nI y) = some (-5, I) ∧ f_X9_person_l22 J x z K2 fuel (nI y) = some (-5, J)) ∨ (f_X2_enterPerson_l22 I o x z K1 fuel (nI y) = K1 ∧ f_X9_person_l22 J x z K2 fuel (nI y) = K2) := by
  intro d
  induction d with
  | zero =>
    intro y fuel hd hf
    obtain ⟨n, rfl⟩ : ∃ n, fuel = n + 1 := ⟨fuel - 1, by omega⟩
    rw [f_X2_enterPerson_l22, f_X9_person_l22, hc, hA, if_pos (nI_le (by omega) (by omega)), if_pos (nI_le (by omega) (by omega))]
    exact Or.inr ⟨rfl, rfl⟩
  | succ d ih =>
    intro y fuel hd hf
    obtain ⟨n, rfl⟩ : ∃ n, fuel = n + 1 := ⟨fuel - 1, by omega⟩
    rw [f_X2_enterPerson_l22, f_X9_person_l22, hc, hA, if_neg (nI_ge (by omega) (by omega)), if_neg (nI_ge (by omega) (by omega)), sp_personAt I o (by omega), zb_s, show f_X9_p J (nI y) 0 = some (J 1 (y * 15 + 0)) from sp_p J (q := y) (f := 0) (by omega), zb_s, hq y (by omega)]
    by_cases c : J 1 (y * 15 + 0) = x
    · rw [if_pos c, if_pos c]
      exact Or.inl ⟨rfl, rfl⟩
    · rw [if_neg c, if_neg c, nI_1]
      exact ih (y + 1) n (by omega) (by omega)
theorem l_comeIn {P : Nat} (hL : zLn (P + 1) = 10) : ∀ (d y fuel : Nat) (M : zM), 10 = y + d → d < fuel → f_X3_comeIn_l28 P fuel M (nI y) = some (zer M (P + 1) y 10) := by
  intro d
  induction d with
  | zero =>
    intro y fuel M hd hf
    obtain ⟨m, rfl⟩ : ∃ m, fuel = m + 1 := ⟨fuel - 1, by omega⟩
    rw [f_X3_comeIn_l28]
    simp (disch := omega) only [zlit, zofN, zneg, zle, zlt, zeq, pk_mul, pk_sub, nI_add, nI_clamp, zb_s, zlet_s, if_false, if_true, if_pos, if_neg, zck_1, zin_t]
    refine congrArg some (zM_ext1 (P + 1) (fun b hb => (zer_n hb).symm) (fun k => ?_))
    rw [zer_s, if_neg (by omega)]
  | succ d ih =>
    intro y fuel M hd hf
    obtain ⟨m, rfl⟩ : ∃ m, fuel = m + 1 := ⟨fuel - 1, by omega⟩
    rw [f_X3_comeIn_l28]
    simp (disch := omega) only [zlit, zofN, zneg, zle, zlt, zeq, pk_mul, pk_sub, nI_add, nI_clamp, zb_s, zlet_s, if_false, if_true, if_pos, if_neg, zck_1, zin_t]
    rw [ih (y + 1) m _ (by omega) (by omega)]
    refine congrArg some (zM_ext1 (P + 1) (fun b hb => by rw [zer_n hb, zer_n hb, ms_n hb]) (fun k => ?_))
    rw [zer_s, zer_s, ms_at]
    by_cases c1 : k = y
    · subst c1
      rw [if_neg (by omega), if_pos rfl, if_pos (by omega)]
      rfl
    · by_cases c2 : y ≤ k ∧ k < 10
      · rw [if_pos (by omega), if_pos c2]
      · rw [if_neg (by omega), if_neg c2, if_neg c1]
theorem l_zeroP {q : Nat} (hq : q < 12) (x z : Int32) (K : zM → Option (Int32 × zM)) : ∀ (d y fuel : Nat) (M : zM), 15 = y + d → d < fuel → f_X9_person_l86 x z (nI q) K fuel M (nI y) = K (zer M 1 (q * 15 + y) (q * 15 + 15)) := by
  intro d
  induction d with
  | zero =>
    intro y fuel M hd hf
    obtain ⟨m, rfl⟩ : ∃ m, fuel = m + 1 := ⟨fuel - 1, by omega⟩
    rw [f_X9_person_l86]
    simp (disch := omega) only [zlit, zofN, zneg, zle, zlt, zeq, pk_mul, pk_sub, nI_add, nI_clamp, zb_s, zlet_s, if_false, if_true, if_pos, if_neg, zck_1, zin_t]
    refine congrArg K (zM_ext1 1 (fun b hb => (zer_n hb).symm) (fun k => ?_))
    rw [zer_s, if_neg (by omega)]
  | succ d ih =>
    intro y fuel M hd hf
    obtain ⟨m, rfl⟩ : ∃ m, fuel = m + 1 := ⟨fuel - 1, by omega⟩
    rw [f_X9_person_l86]
    simp (disch := omega) only [sp_setP, zlit, zofN, zneg, zle, zlt, zeq, pk_mul, pk_sub, nI_add, nI_clamp, zb_s, zlet_s, if_false, if_true, if_pos, if_neg, zck_1, zin_t]
    rw [ih (y + 1) m _ (by omega) (by omega)]
    refine congrArg K (zM_ext1 1 (fun b hb => by rw [zer_n hb, zer_n hb, ms_n hb]) (fun k => ?_))
    rw [zer_s, zer_s, ms_at]
    by_cases c1 : k = q * 15 + y
    · subst c1
      rw [if_neg (by omega), if_pos rfl, if_pos (by omega)]
      rfl
    · by_cases c2 : q * 15 + y ≤ k ∧ k < q * 15 + 15
      · rw [if_pos (by omega), if_pos c2]
      · rw [if_neg (by omega), if_neg c2, if_neg c1]
theorem d_person {I J : zM} {o B : Nat} (hL : ∀ q, q < 12 → zLn (o + 15 + 2 * q + 1) = 10) (x z : Int32) : Deed I J o B (f_X2_enterPerson I o x z) (f_X9_person J x z) := by
  intro np nt hM hR
  obtain ⟨c1, c2, c3, c4, c5, c6, c7, c8, c9⟩ := hR.1
  have hz := zFu_big
  unfold f_X2_enterPerson f_X9_person
  obtain ⟨r, e1, e2⟩ := pr_isName I J x
  rw [e1, e2, zb_s, zb_s]
  by_cases cr : r = 0
  · rw [if_pos cr, if_pos cr]
    exact dd_same hM hR (-1) rfl rfl
  · rw [if_neg cr, if_neg cr, in_e]
    by_cases d1 : z < 0
    · rw [if_pos d1, if_pos d1]
      exact dd_same hM hR (-1) rfl rfl
    · rw [if_neg d1, if_neg d1]
      by_cases d2 : z ≤ 9999
      · rw [if_pos d2, if_pos d2, zb_s, if_neg one0]
        rcases l_find c3 c4 c1 (fun q hq => (hR.2.1 q hq).1 0 (by decide)) x z (if I o 5 < 12 then zb (f_X2_personAt I o (I o 5)) (fun q9 => zb (f_X3_comeIn I q9 x z) (fun q10 => zlet (ms q10 o 5 ((q10 o 5) + 1)) (fun M11 => some (((M11 o 5) - 1), M11)))) else some ((-3), I)) (if (J 1 1080) = 12 then some ((-3), J) else zlet (ms J 1 1080 ((J 1 1080) + 1)) (fun M9 => f_X9_person_l86 x z (J 1 1080) (fun M12 => zb (f_X9_setP M12 (J 1 1080) 0 x) (fun q13 => zb (f_X9_setP q13 (J 1 1080) 1 z) (fun q14 => zb (f_X9_setP q14 (J 1 1080) 2 50) (fun q15 => some ((J 1 1080), q15))))) zFu M9 0)) np 0 zFu (by omega) (by omega) with ⟨a1, a2⟩ | ⟨a1, a2⟩
        · exact dd_same hM hR (-5) a1 a2
        · have a1 : f_X2_enterPerson_l22 I o x z _ zFu 0 = _ := a1
          have a2 : f_X9_person_l22 J x z _ zFu 0 = _ := a2
          rw [a1, a2, c3, c4]
          by_cases d3 : np < 12
          · rw [if_pos (show nI np < 12 from nI_lt d3 (b := 12) (by decide)), if_neg (show ¬ nI np = 12 from fun h => absurd ((nI_eq (by omega) (by decide)).mp (show nI np = nI 12 from h)) (by omega)), sp_personAt I o d3, zb_s]
            unfold f_X3_comeIn
            simp only [zlet_s]
            have lc := fun M => l_comeIn (hL np d3) 10 0 zFu M (by omega) (by omega)
            have lz := fun K M => l_zeroP d3 x z K 15 0 zFu M (by omega) (by omega)
            have lc : ∀ M, f_X3_comeIn_l28 (o + 15 + 2 * np) zFu M 0 = some (zer M (o + 15 + 2 * np + 1) 0 10) := lc
            have lz : ∀ K M, f_X9_person_l86 x z (nI np) K zFu M 0 = K (zer M 1 (np * 15 + 0) (np * 15 + 15)) := lz
            have s0 : ∀ M v, f_X9_setP M (nI np) 0 v = some (ms M 1 (np * 15 + 0) v) := fun M v => sp_setP M (q := np) (f := 0) (by omega) v
            have s1 : ∀ M v, f_X9_setP M (nI np) 1 v = some (ms M 1 (np * 15 + 1) v) := fun M v => sp_setP M (q := np) (f := 1) (by omega) v
            have s2 : ∀ M v, f_X9_setP M (nI np) 2 v = some (ms M 1 (np * 15 + 2) v) := fun M v => sp_setP M (q := np) (f := 2) (by omega) v
            rw [lc, zb_s, lz, s0, zb_s, s1, zb_s, s2, zb_s, ms_ss]
            have ec : zer (ms (ms (ms (ms (ms I (o + 15 + 2 * np) 0 x) (o + 15 + 2 * np) 1 z) (o + 15 + 2 * np) 2 50) (o + 15 + 2 * np) 3 0) (o + 15 + 2 * np) 4 0) (o + 15 + 2 * np + 1) 0 10 o 5 = nI np := by
              rw [zer_n (by omega), ms_n (by omega), ms_n (by omega), ms_n (by omega), ms_n (by omega), ms_n (by omega), c3]
            rw [ec, nI_1, nI_pred]
            refine ⟨_, _, _, np + 1, nt, rfl, rfl, Nat.le_succ _, Nat.le_refl _, ?_, ?_, ?_⟩
            · refine MT_o ?_
              have hM5 := MT_p (j := 4) (v := 0) (MT_p (j := 3) (v := 0) (MT_p (j := 2) (v := 50) (MT_p (j := 1) (v := z) (MT_p (j := 0) (v := x) hM d3) d3) d3) d3) d3
              exact ⟨fun t ht => ⟨TM_c (hM5.1 t ht).1 (zer_n (by omega)), TM_c (hM5.1 t ht).2.1 (zer_n (by omega)), TM_c (hM5.1 t ht).2.2 (zer_n (by omega))⟩, TM_c hM5.2 (zer_n (by omega))⟩
            · generalize hF : ms (zer (ms (ms (ms (ms (ms I (o + 15 + 2 * np) 0 x) (o + 15 + 2 * np) 1 z) (o + 15 + 2 * np) 2 50) (o + 15 + 2 * np) 3 0) (o + 15 + 2 * np) 4 0) (o + 15 + 2 * np + 1) 0 10) o 5 (nI (np + 1)) = F
              generalize hG : ms (ms (ms (zer (ms J 1 1080 (nI (np + 1))) 1 (np * 15 + 0) (np * 15 + 15)) 1 (np * 15 + 0) x) 1 (np * 15 + 1) z) 1 (np * 15 + 2) 50 = G
              have kF : ∀ k, k ≠ o → k ≠ o + 15 + 2 * np → k ≠ o + 15 + 2 * np + 1 → F k = I k := fun k h1 h2 h3 => by rw [← hF, ms_n h1, zer_n h3, ms_n h2, ms_n h2, ms_n h2, ms_n h2, ms_n h2]
              have kO : ∀ j, j ≠ 5 → F o j = I o j := fun j h => by rw [← hF, ms_sn h, zer_n (by omega), ms_n (by omega), ms_n (by omega), ms_n (by omega), ms_n (by omega), ms_n (by omega)]
              have kO5 : F o 5 = nI (np + 1) := by rw [← hF, ms_ss]
              have kG : ∀ k, k ≠ 1080 → (k < np * 15 ∨ np * 15 + 15 ≤ k) → G 1 k = J 1 k := fun k h1 h2 => by rw [← hG, ms_sn (by omega), ms_sn (by omega), ms_sn (by omega), zer_s, if_neg (by omega), ms_sn h1]
              have kG0 : G 1 1080 = nI (np + 1) := by rw [← hG, ms_sn (by omega), ms_sn (by omega), ms_sn (by omega), zer_s, if_neg (by omega), ms_ss]
              have kG3 : ∀ j, 3 ≤ j → j < 15 → G 1 (np * 15 + j) = 0 := fun j h1 h2 => by rw [← hG, ms_sn (by omega), ms_sn (by omega), ms_sn (by omega), zer_s, if_pos (by omega)]
              have kP : F (o + 15 + 2 * np) 0 = x ∧ F (o + 15 + 2 * np) 1 = z ∧ F (o + 15 + 2 * np) 2 = 50 ∧ F (o + 15 + 2 * np) 3 = 0 ∧ F (o + 15 + 2 * np) 4 = 0 := by
                refine ⟨?_, ?_, ?_, ?_, ?_⟩ <;> rw [← hF, ms_n (by omega), zer_n (by omega)] <;> simp (disch := decide) only [ms_ss, ms_sn]
              have kW : ∀ j, j < 10 → F (o + 15 + 2 * np + 1) j = 0 := fun j h => by rw [← hF, ms_n (by omega), zer_s, if_pos (by omega)]
              have g0 : G 1 (np * 15 + 0) = x := by rw [← hG, ms_sn (by omega), ms_sn (by omega), ms_ss]
              have g1 : G 1 (np * 15 + 1) = z := by rw [← hG, ms_sn (by omega), ms_ss]
              have g2 : G 1 (np * 15 + 2) = 50 := by rw [← hG, ms_ss]
              refine RO_m (B := B) ⟨⟨by omega, c2, kO5, kG0, by rw [kO 6 (by decide)]; exact c5, by rw [kG _ (by omega) (by omega)]; exact c6, by rw [kO 7 (by decide), kG _ (by omega) (by omega)]; exact c7, by rw [kO 8 (by decide), kG _ (by omega) (by omega)]; exact c8, ?_⟩, fun q hq => ?_, fun t ht => ?_⟩ (Nat.le_succ B)
              · unfold RW at *
                rw [kO 9 (by decide), kO 10 (by decide), kG _ (by omega) (by omega), kG _ (by omega) (by omega), kG _ (by omega) (by omega)]
                exact c9
              · by_cases cq : q < np
                · exact RP_c (hR.2.1 q cq) (fun k a b => kF k (by omega) (by omega) (by omega)) (fun k a b => kG k (by omega) (by omega))
                · have hq2 : q = np := by omega
                  subst hq2
                  refine ⟨fun f hf => ?_, fun j hj => ?_, fun j hj => ⟨0, by omega, fun _ => rfl, kG3 _ (by omega) (by omega)⟩, 50, by decide, g2⟩
                  · rcases (show f = 0 ∨ f = 1 ∨ f = 2 ∨ f = 3 ∨ f = 4 by omega) with rfl | rfl | rfl | rfl | rfl
                    · rw [kP.1, g0]
                    · rw [kP.2.1, g1]
                    · rw [kP.2.2.1, g2]
                    · rw [kP.2.2.2.1, kG3 _ (by decide) (by decide)]
                    · rw [kP.2.2.2.2, kG3 _ (by decide) (by decide)]
                  · rw [kW j hj, kG3 _ (by omega) (by omega)]
              · exact RT_c (RT_m (hR.2.2 t ht) (Nat.le_refl B) (Nat.le_succ np)) (fun k a b => kF k (by omega) (by omega) (by omega)) (fun k a b => kG k (by omega) (by omega))
            · exact FJ_g (FJ_g (FJ_g (FJ_1 (fun a ha => by rw [zer_n ha, ms_n ha]))))
          · have h12 : np = 12 := by omega
            subst h12
            rw [if_neg (by decide), if_pos (show nI 12 = 12 from rfl)]
            exact dd_same hM hR (-3) rfl rfl
      · rw [if_neg d2, if_neg d2]
        exact dd_same hM hR (-1) rfl rfl
