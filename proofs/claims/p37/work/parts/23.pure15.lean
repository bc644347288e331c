/-! PURE 15: a tool comes in -/
theorem l_zeroT {t : Nat} (ht : t < 10) (x : Int32) (K : zM → Option (Int32 × zM)) : ∀ (d y fuel : Nat) (M : zM), 90 = y + d → d < fuel → f_X9_tool_l44 x (nI t) K fuel M (nI y) = K (zer M 1 (180 + t * 90 + y) (180 + t * 90 + 90)) := by
  intro d
  induction d with
  | zero =>
    intro y fuel M hd hf
    obtain ⟨m, rfl⟩ : ∃ m, fuel = m + 1 := ⟨fuel - 1, by omega⟩
    rw [f_X9_tool_l44]
    simp (disch := omega) only [zlit, zofN, zneg, zle, zlt, zeq, pk_mul, pk_sub, nI_add, nI_clamp, zb_s, zlet_s, if_false, if_true, if_pos, if_neg, zck_1, zin_t]
    refine congrArg K (zM_ext1 1 (fun b hb => (zer_n hb).symm) (fun k => ?_))
    rw [zer_s, if_neg (by omega)]
  | succ d ih =>
    intro y fuel M hd hf
    obtain ⟨m, rfl⟩ : ∃ m, fuel = m + 1 := ⟨fuel - 1, by omega⟩
    rw [f_X9_tool_l44]
    simp (disch := omega) only [sp_setT, zlit, zofN, zneg, zle, zlt, zeq, pk_mul, pk_sub, nI_add, nI_clamp, zb_s, zlet_s, if_false, if_true, if_pos, if_neg, zck_1, zin_t]
    rw [ih (y + 1) m _ (by omega) (by omega)]
    refine congrArg K (zM_ext1 1 (fun b hb => by rw [zer_n hb, zer_n hb, ms_n hb]) (fun k => ?_))
    rw [zer_s, zer_s, ms_at]
    by_cases c1 : k = 180 + t * 90 + y
    · subst c1
      rw [if_neg (by omega), if_pos rfl, if_pos (by omega)]
      rfl
    · by_cases c2 : 180 + t * 90 + y ≤ k ∧ k < 180 + t * 90 + 90
      · rw [if_pos (by omega), if_pos c2]
      · rw [if_neg (by omega), if_neg c2, if_neg c1]
theorem l_zeroW {t : Nat} (ht : t < 10) (x : Int32) (K : zM → Option (Int32 × zM)) : ∀ (d y fuel : Nat) (M : zM), 12 = y + d → d < fuel → ∃ N, f_X9_tool_l65 x (nI t) K fuel M (nI y) = K N ∧ (∀ a, a ≠ 1 → N a = M a) ∧ (∀ k, (∀ q, q < 12 → k ≠ q * 15 + (5 + t)) → N 1 k = M 1 k) ∧ (∀ q, q < 12 → y ≤ q → N 1 (q * 15 + (5 + t)) = nI 0) ∧ (∀ q, q < y → N 1 (q * 15 + (5 + t)) = M 1 (q * 15 + (5 + t))) := by
  intro d
  induction d with
  | zero =>
    intro y fuel M hd hf
    obtain ⟨m, rfl⟩ : ∃ m, fuel = m + 1 := ⟨fuel - 1, by omega⟩
    rw [f_X9_tool_l65]
    simp (disch := omega) only [zlit, zofN, zneg, zle, zlt, zeq, pk_mul, pk_sub, nI_add, nI_clamp, zb_s, zlet_s, if_false, if_true, if_pos, if_neg, zck_1, zin_t]
    exact ⟨M, rfl, fun _ _ => rfl, fun _ _ => rfl, fun q h1 h2 => by omega, fun _ _ => rfl⟩
  | succ d ih =>
    intro y fuel M hd hf
    obtain ⟨m, rfl⟩ : ∃ m, fuel = m + 1 := ⟨fuel - 1, by omega⟩
    rw [f_X9_tool_l65]
    simp (disch := omega) only [sp_setP, zlit, zofN, zneg, zle, zlt, zeq, pk_mul, pk_sub, nI_add, nI_clamp, zb_s, zlet_s, if_false, if_true, if_pos, if_neg, zck_1, zin_t]
    obtain ⟨N, h1, h2, h3, h4, h5⟩ := ih (y + 1) m (ms M 1 (y * 15 + (5 + t)) (nI 0)) (by omega) (by omega)
    refine ⟨N, h1, fun a ha => by rw [h2 a ha, ms_n ha], fun k hk => by rw [h3 k hk, ms_sn (hk y (by omega))], fun q hq hy => ?_, fun q hq => ?_⟩
    · by_cases c : q = y
      · subst c
        rw [h5 q (by omega), ms_ss]
      · exact h4 q hq (by omega)
    · rw [h5 q (by omega), ms_sn (by omega)]
theorem d_tool {I J : zM} {o B : Nat} (x : Int32) : Deed I J o B (f_X2_enterTool I o x) (f_X9_tool J x) := by
  intro np nt hM hR
  obtain ⟨c1, c2, c3, c4, c5, c6, c7, c8, c9⟩ := hR.1
  have hday := RO_dayE hR
  have hz := zFu_big
  unfold f_X2_enterTool f_X9_tool
  rw [in_e]
  by_cases d1 : x < 1
  · rw [if_pos d1, if_pos d1]
    exact dd_same hM hR (-1) rfl rfl
  · rw [if_neg d1, if_neg d1]
    by_cases d2 : x ≤ 99
    · rw [if_pos d2, if_pos d2, zb_s, if_neg one0, c5, c6]
      have e0 : ¬ x < 0 := fun h => d1 (Int32.lt_of_lt_of_le h (by decide))
      obtain ⟨w, hw, rfl⟩ := nI_of2 (M := 99) (n := 99) (by decide) e0 d2
      have hw1 : 1 ≤ w := by
        rcases Nat.eq_zero_or_pos w with h | h
        · subst h
          exact absurd (by decide) d1
        · exact h
      by_cases d3 : nt < 10
      · rw [if_pos (show nI nt < 10 from nI_lt d3 (b := 10) (by decide)), if_neg (show ¬ nI nt = 10 from fun h => absurd ((nI_eq (by omega) (by decide)).mp (show nI nt = nI 10 from h)) (by omega)), sp_toolAt I o d3, zb_s]
        -- the class
        unfold f_X7_comeIn f_X7_stayAtOffice
        simp only [zlet_s, zb_s, sp_clear]
        generalize hI1 : ms (ms (ms (ms (ms (ms (ms (ms (ms (ms I (o + 39 + 7 * nt) 0 (nI w)) (o + 39 + 7 * nt) 1 0) (o + 39 + 7 * nt) 6 0) (o + 39 + 7 * nt + 1) 3 (nI 0)) (o + 39 + 7 * nt + 3) 3 (nI 0)) (o + 39 + 7 * nt + 5) 3 (nI 0)) (o + 39 + 7 * nt) 2 (-2)) (o + 39 + 7 * nt) 3 (-2)) (o + 39 + 7 * nt) 4 (-2)) (o + 39 + 7 * nt) 5 0 = I1
        have k1 : ∀ k, k ≠ o + 39 + 7 * nt → k ≠ o + 39 + 7 * nt + 1 → k ≠ o + 39 + 7 * nt + 3 → k ≠ o + 39 + 7 * nt + 5 → I1 k = I k := fun k h1 h2 h3 h4 => by
          rw [← hI1]
          simp (disch := omega) only [ms_n]
        have hM1 : MT I1 o := by
          rw [← hI1]
          exact MT_t (MT_t (MT_t (MT_t (MT_ms (MT_ms (MT_ms (MT_t (MT_t (MT_t hM d3) d3) d3) (Or.inl (by decide))) (Or.inl (by decide))) (Or.inl (by decide))) d3) d3) d3) d3
        have t1 : I1 (o + 39 + 7 * nt + 1) 3 = nI 0 := by
          rw [← hI1]
          simp (disch := omega) only [ms_n, ms_ss]
        have t3 : I1 (o + 39 + 7 * nt + 3) 3 = nI 0 := by
          rw [← hI1]
          simp (disch := omega) only [ms_n, ms_ss]
        have t5 : I1 (o + 39 + 7 * nt + 5) 3 = nI 0 := by
          rw [← hI1]
          simp (disch := omega) only [ms_n, ms_ss]
        have s0 : I1 (o + 39 + 7 * nt) 0 = nI w ∧ I1 (o + 39 + 7 * nt) 1 = 0 ∧ I1 (o + 39 + 7 * nt) 2 = -2 ∧ I1 (o + 39 + 7 * nt) 3 = -2 ∧ I1 (o + 39 + 7 * nt) 4 = -2 ∧ I1 (o + 39 + 7 * nt) 5 = 0 ∧ I1 (o + 39 + 7 * nt) 6 = 0 := by
          rw [← hI1]
          refine ⟨?_, ?_, ?_, ?_, ?_, ?_, ?_⟩ <;> simp (disch := omega) only [ms_n, ms_ss, ms_sn]
        have hB1 : TB I1 (o + 39 + 7 * nt + 1) 8 3 0 := (hM1.1 nt d3).1.b t1 (by decide)
        have hB3 : TB I1 (o + 39 + 7 * nt + 3) 6 4 0 := (hM1.1 nt d3).2.1.b t3 (by decide)
        have hB5 : TB I1 (o + 39 + 7 * nt + 5) 8 4 0 := (hM1.1 nt d3).2.2.b t5 (by decide)
        obtain ⟨M, f1, f2, f3, f4⟩ := sp_noteLook hB3 (I o 7)
        rw [f1]
        simp only [zb_s]
        have m5 : M o 5 = nI np := by rw [f2 _ (by omega) (by omega), k1 _ (by omega) (by omega) (by omega) (by omega), c3]
        have m6 : M o 6 = nI nt := by rw [f2 _ (by omega) (by omega), k1 _ (by omega) (by omega) (by omega) (by omega), c5]
        rw [m6, nI_1, ms_ss, nI_pred]
        -- the reference
        have lz := fun K M => l_zeroT d3 (nI w) K 90 0 zFu M (by omega) (by omega)
        have lz : ∀ K M, f_X9_tool_l44 (nI w) (nI nt) K zFu M 0 = K (zer M 1 (180 + nt * 90 + 0) (180 + nt * 90 + 90)) := lz
        rw [lz]
        obtain ⟨N, g1, g2, g3, g4, -⟩ := l_zeroW d3 (nI w) (fun M10 => zb (f_X9_setT M10 (nI nt) 0 (nI w)) (fun q11 => zb (f_X9_setT q11 (nI nt) 2 (-1)) (fun q12 => zb (f_X9_seesNow q12 (nI nt)) (fun q13 => some (nI nt, q13))))) 12 0 zFu (zer (ms J 1 1081 (nI (nt + 1))) 1 (180 + nt * 90 + 0) (180 + nt * 90 + 90)) (by omega) (by omega)
        have g1 : f_X9_tool_l65 (nI w) (nI nt) _ zFu _ 0 = _ := g1
        rw [g1]
        have u0 : f_X9_setT N (nI nt) 0 (nI w) = some (ms N 1 (180 + nt * 90 + 0) (nI w)) := sp_setT N (t := nt) (f := 0) (by omega) _
        have u2 : f_X9_setT (ms N 1 (180 + nt * 90 + 0) (nI w)) (nI nt) 2 (-1) = some (ms (ms N 1 (180 + nt * 90 + 0) (nI w)) 1 (180 + nt * 90 + 2) (-1)) := sp_setT _ (t := nt) (f := 2) (by omega) _
        rw [u0, zb_s, u2, zb_s]
        generalize hJ1 : ms (ms N 1 (180 + nt * 90 + 0) (nI w)) 1 (180 + nt * 90 + 2) (-1) = J1
        have z1 : ∀ f, f < 90 → f ≠ 0 → f ≠ 2 → J1 1 (180 + nt * 90 + f) = 0 := fun f h1 h2 h3 => by
          rw [← hJ1, ms_sn (by omega), ms_sn (by omega), g3 _ (by intro q hq; omega), zer_s, if_pos (by omega)]
        have z2 : ∀ k, (k < 180 + nt * 90 ∨ 180 + nt * 90 + 90 ≤ k) → k ≠ 1081 → (∀ q, q < 12 → k ≠ q * 15 + (5 + nt)) → J1 1 k = J 1 k := fun k h1 h2 h3 => by
          rw [← hJ1, ms_sn (by omega), ms_sn (by omega), g3 k h3, zer_s, if_neg (by omega), ms_sn h2]
        have z3 : ∀ q, q < 12 → J1 1 (q * 15 + (5 + nt)) = 0 := fun q hq => by
          rw [← hJ1, ms_sn (by omega), ms_sn (by omega), g4 q hq (by omega)]
          rfl
        have z4 : J1 1 1081 = nI (nt + 1) := by
          rw [← hJ1, ms_sn (by omega), ms_sn (by omega), g3 _ (by intro q hq; omega), zer_s, if_neg (by omega), ms_ss]
        have z5 : J1 1 (180 + nt * 90 + 0) = nI w := by rw [← hJ1, ms_sn (by omega), ms_ss]
        have z6 : J1 1 (180 + nt * 90 + 2) = -1 := by rw [← hJ1, ms_ss]
        have zJ : ∀ a, a ≠ 1 → J1 a = J a := fun a ha => by rw [← hJ1, ms_n ha, ms_n ha, g2 a ha, zer_n ha, ms_n ha]
        obtain ⟨G, y1, y2, y3, y4, y5⟩ := sp_seesNow (J := J1) (t := nt) (m := 0) d3 (by decide) (z1 32 (by decide) (by decide) (by decide))
        rw [y1, zb_s]
        have z82 : J1 1 1082 = I o 7 := by rw [z2 _ (by omega) (by decide) (by intro q hq; omega), hday]
        rw [s0.2.1, s0.2.2.2.2.2.2, s0.2.2.1, if_pos (by decide)] at f4
        rw [z82, z1 1 (by decide) (by decide) (by decide), z1 7 (by decide) (by decide) (by decide), z6, if_pos (by decide)] at y5
        have hk := RTk_push (I := I1) (M := M) (T := o + 39 + 7 * nt) (b := 180 + nt * 90) (e := 0) (e0 := 0) (m := 0) (op := 0) (A := J1 1) (A2 := G 1) hB3 (fun i j hi _ => absurd hi (Nat.not_lt_zero i)) f3 y4 f4 y5 (by decide) (by decide) (Nat.le_refl _)
        have hRT : RT M o (G 1) np B nt := by
          refine ⟨0, 0, 1, [], [], ⟨⟨?_, w, hw1, hw, ?_⟩, ⟨?_, 0, by decide, ?_⟩, Or.inl ⟨?_, ?_, ?_, ?_, ?_⟩, ⟨?_, 0, by decide, ?_⟩, ?_, ?_, Nat.zero_le _, Nat.le_refl _⟩, ⟨TB_c hB1 (f2 _ (by omega) (by omega)), ?_, fun i j hi _ => absurd hi (Nat.not_lt_zero i), fun i hi => absurd hi (Nat.not_lt_zero i)⟩, hk, ⟨TB_c hB5 (f2 _ (by omega) (by omega)), ?_, fun i c h => by simp at h, fun i c h => by simp at h, List.Perm.refl _, List.Pairwise.nil, fun c h => absurd h List.not_mem_nil, List.nodup_nil⟩⟩
          · rw [f2 _ (by omega) (by omega), s0.1, y3 _ (by omega), z5]
          · rw [y3 _ (by omega), z5]
          · rw [f2 _ (by omega) (by omega), s0.2.1, y3 _ (by omega), z1 1 (by decide) (by decide) (by decide)]
          · rw [y3 _ (by omega), z1 1 (by decide) (by decide) (by decide)]
            rfl
          · rw [f2 _ (by omega) (by omega), s0.2.2.1]
          · rw [y3 _ (by omega), z6]
          · rw [f2 _ (by omega) (by omega), s0.2.2.2.1]
          · rw [f2 _ (by omega) (by omega), s0.2.2.2.2.1]
          · rw [y3 _ (by omega), z1 5 (by decide) (by decide) (by decide)]
            rfl
          · rw [f2 _ (by omega) (by omega), s0.2.2.2.2.2.1, y3 _ (by omega), z1 5 (by decide) (by decide) (by decide)]
          · rw [y3 _ (by omega), z1 5 (by decide) (by decide) (by decide)]
            rfl
          · rw [f2 _ (by omega) (by omega), s0.2.2.2.2.2.2]
            rfl
          · rw [y3 _ (by omega), z1 7 (by decide) (by decide) (by decide)]
            rfl
          · rw [y3 _ (by omega), z1 6 (by decide) (by decide) (by decide)]
            rfl
          · rw [y3 _ (by omega), z1 57 (by decide) (by decide) (by decide)]
            rfl
        have kM : ∀ k, k < o + 39 + 7 * nt ∨ o + 39 + 7 * nt + 7 ≤ k → M k = I k := fun k h => by rw [f2 k (by omega) (by omega), k1 k (by omega) (by omega) (by omega) (by omega)]
        have kF : ∀ k, k ≠ o → (k < o + 39 + 7 * nt ∨ o + 39 + 7 * nt + 7 ≤ k) → ms M o 6 (nI (nt + 1)) k = I k := fun k h1 h => by rw [ms_n h1, kM k h]
        have kG : ∀ k, (k < 180 + nt * 90 ∨ 180 + nt * 90 + 90 ≤ k) → k ≠ 1081 → (∀ q, q < 12 → k ≠ q * 15 + (5 + nt)) → G 1 k = J 1 k := fun k h1 h2 h3 => by rw [y3 k (by omega), z2 k h1 h2 h3]
        refine ⟨nI nt, ms M o 6 (nI (nt + 1)), G, np, nt + 1, rfl, rfl, Nat.le_refl _, Nat.le_succ _, ?_, ?_, ?_⟩
        · refine MT_o (MT_tool hM1 d3 (fun k h => f2 k (by omega) (by omega)) (TM_c (hM1.1 nt d3).1 (f2 _ (by omega) (by omega))) f3.m (TM_c (hM1.1 nt d3).2.2 (f2 _ (by omega) (by omega))))
        · refine RO_m (B := B) ⟨⟨c1, by omega, by rw [ms_sn (by decide)]; exact m5, by rw [kG _ (by omega) (by decide) (by intro q hq; omega)]; exact c4, ms_ss _ _ _ _, by rw [y3 _ (by omega), z4], ?_, ?_, ?_⟩, fun q hq => ?_, fun t ht => ?_⟩ (Nat.le_succ B)
          · rw [ms_sn (by decide), kM _ (by omega), kG _ (by omega) (by decide) (by intro q hq; omega)]
            exact c7
          · rw [ms_sn (by decide), kM _ (by omega), kG _ (by omega) (by decide) (by intro q hq; omega)]
            exact c8
          · unfold RW at *
            rw [ms_sn (by decide), ms_sn (by decide), kM _ (by omega), kG _ (by omega) (by decide) (by intro q hq; omega), kG _ (by omega) (by decide) (by intro q hq; omega), kG _ (by omega) (by decide) (by intro q hq; omega)]
            exact c9
          · obtain ⟨p1, p2, p3, k, p4, p5⟩ := hR.2.1 q hq
            have gw : G 1 (q * 15 + (5 + nt)) = 0 := by rw [y3 _ (by omega), z3 q (by omega)]
            refine ⟨fun f hf => ?_, fun j hj => ?_, fun j hj => ?_, k, p4, ?_⟩
            · rw [kF _ (by omega) (by omega), kG _ (by omega) (by omega) (by intro q' hq'; omega)]
              exact p1 f hf
            · rw [kF _ (by omega) (by omega), p2 j hj]
              by_cases cj : j = nt
              · subst cj
                rw [gw]
                obtain ⟨w, -, w1, w2⟩ := p3 j hj
                rw [w2, w1 (Nat.le_refl _)]
                rfl
              · rw [kG _ (by omega) (by omega) (by intro q' hq'; omega)]
            · by_cases cj : j = nt
              · subst cj
                exact ⟨0, by omega, fun _ => rfl, gw⟩
              · rw [kG _ (by omega) (by omega) (by intro q' hq'; omega)]
                obtain ⟨w, w0, w1, w2⟩ := p3 j hj
                exact ⟨w, w0, fun h => w1 (by omega), w2⟩
            · rw [kG _ (by omega) (by omega) (by intro q' hq'; omega)]
              exact p5
          · by_cases ct : t < nt
            · exact RT_c (hR.2.2 t ct) (fun k a b => kF k (by omega) (by omega)) (fun k a b => kG k (by omega) (by omega) (by intro q hq; omega))
            · have ht2 : t = nt := by omega
              subst ht2
              exact RT_c hRT (fun k a b => ms_n (by omega)) (fun k a b => rfl)
        · exact FJ_1 (fun a ha => by rw [y2 a ha, zJ a ha])
      · have h10 : nt = 10 := by omega
        subst h10
        rw [if_neg (by decide), if_pos (show nI 10 = 10 from rfl)]
        exact dd_same hM hR (-3) rfl rfl
    · rw [if_neg d2, if_neg d2]
      exact dd_same hM hR (-1) rfl rfl
