/-! PURE 37: put, row, feed; tells and judge -/
theorem d_put {I J : zM} {np nt : Nat} (H : HS I J np nt) (x1 x2 x3 : Int32) : HD I J np nt (f_X8_put I x1 x2 x3) (f_X9_put J x1 x2 x3) := by
  unfold f_X8_put f_X9_put
  rcases pr_isHolder I J x1 with ⟨e1, e2, e3⟩ | ⟨h, hh, rfl, e1, e2, e3⟩
  · rw [e3, zb_s, H.1, if_neg (by decide), e2, zb_s, if_pos rfl]
    exact HD_same H _ rfl rfl
  · obtain ⟨hM, a2, a3⟩ := H.2 h hh
    rw [e3, zb_s, a2, e2, zb_s, if_neg one0, zin_t hh (by decide), zck_1, nI_clamp (by omega), in_e]
    have sx : ∀ s, s ≠ 3 → s < 4 → J 7 h = nI s → ¬ J 7 h = 3 := fun s h3 h4 e => by
      rw [e]
      exact fun g => h3 ((nI_eq (b := 3) (by omega) (by omega)).mp g)
    rcases a3 with b | ⟨b, -⟩ | ⟨b, -⟩ | ⟨b, n, hT, h9, hrow⟩
    · rw [if_neg (sx 0 (by decide) (by decide) b), if_neg (sx 0 (by decide) (by decide) b)]
      exact HD_same H _ rfl rfl
    · rw [if_neg (sx 1 (by decide) (by decide) b), if_neg (sx 1 (by decide) (by decide) b)]
      exact HD_same H _ rfl rfl
    · rw [if_neg (sx 2 (by decide) (by decide) b), if_neg (sx 2 (by decide) (by decide) b)]
      exact HD_same H _ rfl rfl
    · have hn : n ≤ 60 := hT.2.2.2.1
      have b3 : J 7 h = 3 := b
      rw [if_pos b3, if_pos b3, zck_1, h9]
      by_cases g1 : x2 < 0
      · rw [if_pos g1, if_pos g1, zb_s, if_pos rfl]
        exact HD_same H _ rfl rfl
      · obtain ⟨k, hk, rfl⟩ := nI_of g1
        rw [if_neg g1, if_neg g1, sp_size hT, zb_s]
        by_cases g2 : k < n
        · obtain ⟨z, rfl⟩ : ∃ z, n = z + 1 := ⟨n - 1, by omega⟩
          rw [if_pos ((nI_ltI (by omega) (by omega)).mpr g2), nI_pred, if_pos (nI_le (by omega) (by omega)), zb_s, if_neg one0]
          have c1 : f_X4_cell I (341 + 3 * h + 1) (nI k) 0 = some (I (341 + 3 * h + 1 + 1) (k * 1 + 0)) := sp_cell hT (j := 0) g2 (by decide)
          have c2 : f_X4_setCell I (341 + 3 * h + 1) (nI k) 0 x3 = some (ms I (341 + 3 * h + 1 + 1) (k * 1 + 0) x3) := sp_setCell hT (j := 0) g2 (by decide) x3
          rw [c1, zb_s, c2, zb_s, zck_1, nI_clamp (by omega), zin_t (show k < 60 by omega) (by decide), zck_1, zlet_s, zck_1, zck_1, zlet_s]
          rw [show k * 1 + 0 = k by omega, show 341 + 3 * h + 1 + 1 = 341 + 3 * h + 2 by omega]
          rw [← hrow k g2]
          refine ⟨_, _, _, rfl, rfl, ?_, fun k hk => by rw [ms_n (by omega)], fun a ha => by rw [ms_n (by omega)]⟩
          refine HS_h H hh (fun k a b c d e => by rw [ms_n (by omega)]) (fun g hg => by rw [ms_n (by omega)]) (fun g hg => by rw [ms_n (by omega)]) (fun g hg => by rw [ms_n (by omega)]) (fun g hg hg2 => by rw [ms_n (by omega)]) ?_
          refine ⟨TM_c hM (by rw [ms_n (by omega)]), ?_, Or.inr (Or.inr (Or.inr ⟨?_, z + 1, TB_c hT (by rw [ms_n (by omega)]), ?_, fun i hi => ?_⟩))⟩
          · rw [ms_n (by omega), ms_n (by omega)]
            exact a2
          · rw [ms_n (by omega)]
            exact b
          · rw [ms_n (by omega)]
            exact h9
          · rw [ms_at, ms_at, hrow i hi]
        · rw [if_neg (fun h => g2 ((nI_ltI (by omega) (by omega)).mp h))]
          have g3 : ¬ nI k ≤ nI n - 1 := by
            rcases Nat.eq_zero_or_pos n with h0 | h0
            · subst h0
              rw [show (nI 0 - 1 : Int32) = -1 from by decide +kernel]
              exact Int32.not_le.mpr (m1_lt hk)
            · obtain ⟨z, rfl⟩ : ∃ z, n = z + 1 := ⟨n - 1, by omega⟩
              rw [nI_pred]
              exact nI_ge (by omega) hk
          rw [if_neg g3, zb_s, if_pos rfl]
          exact HD_same H _ rfl rfl
theorem l_takeRow {n H : Nat} (hn : n ≤ 60) : ∀ (d y fuel : Nat) (M : zM), n = y + d → d < fuel → TB M (H + 1) 60 1 y → (∀ i, i < y → M (H + 2) i = 0) → ∃ M', f_X1_takeRow_l15 H (nI n) fuel M (nI y) = some M' ∧ TB M' (H + 1) 60 1 n ∧ (∀ i, i < n → M' (H + 2) i = 0) ∧ ∀ k, k ≠ H + 1 → k ≠ H + 2 → M' k = M k := by
  intro d
  induction d with
  | zero =>
    intro y fuel M hd hf hT h0
    obtain ⟨m, rfl⟩ : ∃ m, fuel = m + 1 := ⟨fuel - 1, by omega⟩
    have e : y = n := by omega
    subst e
    rw [f_X1_takeRow_l15, if_pos (nI_le (by omega) (by omega))]
    exact ⟨M, rfl, hT, h0, fun _ _ _ => rfl⟩
  | succ d ih =>
    intro y fuel M hd hf hT h0
    obtain ⟨m, rfl⟩ : ∃ m, fuel = m + 1 := ⟨fuel - 1, by omega⟩
    rw [f_X1_takeRow_l15, if_neg (nI_ge (by omega) (by omega)), sp_append_lt hT (by omega), zb_s, nI_1]
    obtain ⟨t0, t1, t2, t3, t4⟩ := hT
    have hT' : TB (zer (ms M (H + 1) 3 (nI (y + 1))) (H + 1 + 1) (y * 1) ((y + 1) * 1)) (H + 1) 60 1 (y + 1) := by
      refine ⟨?_, ?_, ?_, by omega, t4⟩
      · rw [zer_n (by omega), ms_sn (by decide)]
        exact t0
      · rw [zer_n (by omega), ms_sn (by decide)]
        exact t1
      · rw [zer_n (by omega), ms_ss]
    have h0' : ∀ i, i < y + 1 → zer (ms M (H + 1) 3 (nI (y + 1))) (H + 1 + 1) (y * 1) ((y + 1) * 1) (H + 2) i = 0 := by
      intro i hi
      rw [show H + 2 = H + 1 + 1 by omega, zer_s]
      by_cases c : y * 1 ≤ i ∧ i < (y + 1) * 1
      · rw [if_pos c]
      · rw [if_neg c, ms_n (by omega)]
        exact h0 i (by omega)
    obtain ⟨M', r1, r2, r3, r4⟩ := ih (y + 1) m _ (by omega) (by omega) hT' h0'
    exact ⟨M', r1, r2, r3, fun k a b => by rw [r4 k a b, zer_n (by omega), ms_n a]⟩
theorem l_row39 {h : Nat} (hh : h < 6) : ∀ (d y fuel : Nat) (M : zM), 60 = y + d → d < fuel → f_X9_row_l39 (nI h) fuel M (nI y) = some (1, zer M (11 + h) y 60) := by
  intro d
  induction d with
  | zero =>
    intro y fuel M hd hf
    obtain ⟨m, rfl⟩ : ∃ m, fuel = m + 1 := ⟨fuel - 1, by omega⟩
    have e : y = 60 := by omega
    subst e
    rw [f_X9_row_l39, if_pos (by decide)]
    refine congrArg (fun z => some ((1 : Int32), z)) (zM_ext1 (11 + h) (fun b hb => (zer_n hb).symm) (fun k => ?_))
    rw [zer_s, if_neg (by omega)]
  | succ d ih =>
    intro y fuel M hd hf
    obtain ⟨m, rfl⟩ : ∃ m, fuel = m + 1 := ⟨fuel - 1, by omega⟩
    have g6 : ¬ (60 : Int32) ≤ nI y := nI_ge (b := 60) (by omega) (by decide)
    rw [f_X9_row_l39, if_neg g6, zin_t hh (by decide), zck_1, zin_t (show y < 60 by omega) (by decide), zck_1, zlet_s, nI_clamp (by omega), nI_clamp (by omega), nI_1, ih (y + 1) m _ (by omega) (by omega)]
    refine congrArg (fun z => some ((1 : Int32), z)) (zM_ext1 (11 + h) (fun b hb => by rw [zer_n hb, zer_n hb, ms_n hb]) (fun k => ?_))
    rw [zer_s, zer_s, ms_at]
    by_cases c1 : k = y
    · rw [if_neg (by omega), if_pos c1, if_pos (by omega)]
    · by_cases c2 : y ≤ k ∧ k < 60
      · rw [if_pos (by omega), if_pos c2]
      · rw [if_neg (by omega), if_neg c1, if_neg c2]
theorem d_row {I J : zM} {np nt : Nat} (H : HS I J np nt) (x1 x2 : Int32) : HD I J np nt (f_X8_row I x1 x2) (f_X9_row J x1 x2) := by
  have hz := zFu_big
  unfold f_X8_row f_X9_row
  rcases pr_isHolder I J x1 with ⟨e1, e2, e3⟩ | ⟨h, hh, rfl, e1, e2, e3⟩
  · rw [e1, e2, zb_s, zb_s, if_pos rfl, if_pos rfl]
    exact HD_same H _ rfl rfl
  · rw [e1, e2, zb_s, zb_s, if_neg one0, if_neg one0, e3, zb_s]
    by_cases g1 : x2 ≤ 60
    · rw [if_pos g1, if_pos g1]
      by_cases g2 : 0 ≤ x2
      · obtain ⟨n, hn, rfl⟩ := nI_of2 (M := 60) (n := 60) (by decide) (Int32.not_lt.mpr g2) g1
        rw [if_pos g2, if_pos g2]
        unfold f_X1_takeRow f_X1_take
        simp only [zlet_s, zb_s, sp_clear]
        rw [zin_t hh (by decide), zck_1, zck_1, nI_clamp (by omega)]
        have R39 : f_X9_row_l39 (nI h) zFu (ms (ms J 7 h 3) 9 h (nI n)) 0 = _ := l_row39 hh 60 0 zFu (ms (ms J 7 h 3) 9 h (nI n)) (by omega) (by omega)
        rw [R39]
        obtain ⟨t0, t1, t2⟩ := (H.2 h hh).1
        have hT : TB (ms (ms (ms I (341 + 3 * h) 0 3) (341 + 3 * h) 1 0) (341 + 3 * h + 1) 3 (nI 0)) (341 + 3 * h + 1) 60 1 0 := by
          refine ⟨?_, ?_, ?_, by omega, t2⟩
          · rw [ms_sn (by decide), ms_n (by omega), ms_n (by omega)]
            exact t0
          · rw [ms_sn (by decide), ms_n (by omega), ms_n (by omega)]
            exact t1
          · rw [ms_ss]
        obtain ⟨M', r1, r2, r3, r4⟩ := l_takeRow (n := n) (H := 341 + 3 * h) (by omega) n 0 zFu _ (by omega) (by omega) hT (fun i hi => absurd hi (by omega))
        have r1 : f_X1_takeRow_l15 (341 + 3 * h) (nI n) zFu (ms (ms (ms I (341 + 3 * h) 0 3) (341 + 3 * h) 1 0) (341 + 3 * h + 1) 3 (nI 0)) 0 = some M' := r1
        rw [r1, zb_s]
        refine ⟨1, M', _, rfl, rfl, ?_, fun k hk => by rw [r4 k (by omega) (by omega), ms_n (by omega), ms_n (by omega), ms_n (by omega)], fun a ha => by rw [zer_n (by omega), ms_n (by omega), ms_n (by omega)]⟩
        refine HS_h H hh (fun k a b c d e => by rw [r4 k d e, ms_n d, ms_n c, ms_n c]) (fun g hg => by rw [zer_n (by omega), ms_n (by decide), ms_sn hg]) (fun g hg => by rw [zer_n (by omega), ms_n (by decide), ms_n (by decide)]) (fun g hg => by rw [zer_n (by omega), ms_sn hg, ms_n (by decide)]) (fun g hg hg2 => by rw [zer_n (by omega), ms_n (by omega), ms_n (by omega)]) ?_
        refine ⟨r2.m, ?_, Or.inr (Or.inr (Or.inr ⟨?_, n, r2, ?_, fun i hi => ?_⟩))⟩
        · rw [r4 _ (by omega) (by omega), ms_n (by omega), ms_sn (by decide), ms_ss, zer_n (by omega), ms_n (by decide), ms_ss]
        · rw [zer_n (by omega), ms_n (by decide), ms_ss]
          rfl
        · rw [zer_n (by omega), ms_ss]
        · rw [r3 i hi, zer_s, if_pos (by omega)]
      · rw [if_neg g2, if_neg g2]
        exact HD_same H _ rfl rfl
    · rw [if_neg g1, if_neg g1]
      exact HD_same H _ rfl rfl
theorem d_feed {I J : zM} (hT : TP I J) (x : Int32) : ∃ r I2 J2, f_X8_feed I x = some (r, I2) ∧ f_X9_feed J x = some (r, J2) ∧ TP I2 J2 ∧ (∀ k, k ≠ 332 → k ≠ 333 → I2 k = I k) ∧ (∀ a, a ≠ 0 → a ≠ 6 → J2 a = J a) ∧ ∀ s, s ≠ 8 → J2 0 s = J 0 s := by
  have hT0 := hT
  obtain ⟨n, t1, t2, t3⟩ := hT
  have hn : n ≤ 120 := t1.2.2.2.1
  unfold f_X8_feed f_X9_feed
  rw [in_e]
  by_cases g1 : x < 0
  · rw [if_pos g1, if_pos g1, zb_s, if_pos rfl]
    exact ⟨_, I, J, rfl, rfl, hT0, fun _ _ _ => rfl, fun _ _ _ => rfl, fun _ _ => rfl⟩
  · rw [if_neg g1, if_neg g1]
    by_cases g2 : x ≤ 255
    · obtain ⟨b, hb, rfl⟩ := nI_of2 (M := 255) (n := 255) (by decide) g1 g2
      rw [if_pos g2, if_pos g2, zb_s, if_neg one0, sp_size t1, zb_s, t2]
      by_cases c : n < 120
      · have c1 : nI n < 120 := (nI_ltI (b := 120) (by omega) (by omega)).mpr c
        have c2 : ¬ nI n = 120 := fun h => absurd ((nI_eq (b := 120) (by omega) (by omega)).mp h) (by omega)
        rw [if_pos c1, if_neg c2, sp_append_lt t1 c, zb_s]
        obtain ⟨u0, u1, u2, u3, u4⟩ := t1
        generalize hF : zer (ms I 332 3 (nI (n + 1))) (332 + 1) (n * 1) ((n + 1) * 1) = F
        have kF : ∀ k, k ≠ 332 → k ≠ 333 → F k = I k := fun k a b => by rw [← hF, zer_n b, ms_n a]
        have kT : TB F 332 120 1 (n + 1) := by
          rw [← hF]
          refine ⟨?_, ?_, ?_, by omega, u4⟩
          · rw [zer_n (by omega), ms_sn (by decide)]
            exact u0
          · rw [zer_n (by omega), ms_sn (by decide)]
            exact u1
          · rw [zer_n (by omega), ms_ss]
        have kO : ∀ i, i < n → F 333 i = I 333 i := fun i hi => by
          rw [← hF, zer_s, if_neg (by omega), ms_n (by decide)]
        have c3 : f_X4_setCell F 332 (nI n) 0 (nI b) = some (ms F (332 + 1) (n * 1 + 0) (nI b)) := sp_setCell kT (j := 0) (by omega) (by decide) _
        have kT2 : TB (ms F (332 + 1) (n * 1 + 0) (nI b)) 332 120 1 (n + 1) := TB_c kT (by rw [ms_n (by decide)])
        dsimp only
        rw [c3, zb_s, sp_size kT2, zb_s, zlet_s, zin_t c (by decide), zck_1, zlet_s, nI_clamp (by omega), nI_1]
        refine ⟨nI (n + 1), ms F (332 + 1) (n * 1 + 0) (nI b), ms (ms J 0 8 (nI (n + 1))) 6 n (nI b), rfl, ?_, ⟨n + 1, kT2, ?_, fun i hi => ?_⟩, fun k a d => by rw [ms_n (by omega), kF k a d], fun a d e => by rw [ms_n e, ms_n d], fun s hs => by rw [ms_n (by decide), ms_sn hs]⟩
        · rw [ms_n (show (0 : Nat) ≠ 6 by decide), ms_ss]
        · rw [ms_n (by decide), ms_ss]
        · by_cases ci : i = n
          · subst ci
            exact ⟨b, by omega, by rw [show i * 1 + 0 = i by omega, ms_ss], by rw [ms_ss]⟩
          · obtain ⟨v, v1, v2, v3⟩ := t3 i (by omega)
            exact ⟨v, v1, by rw [ms_sn (by omega), kO i (by omega)]; exact v2, by rw [ms_sn ci, ms_n (by decide)]; exact v3⟩
      · have e : n = 120 := by omega
        subst e
        rw [if_neg (by decide), if_pos (by rfl)]
        exact ⟨_, I, J, rfl, rfl, hT0, fun _ _ _ => rfl, fun _ _ _ => rfl, fun _ _ => rfl⟩
    · rw [if_neg g2, if_neg g2, zb_s, if_pos rfl]
      exact ⟨_, I, J, rfl, rfl, hT0, fun _ _ _ => rfl, fun _ _ _ => rfl, fun _ _ => rfl⟩
theorem q_tells {I J : zM} {np nt B : Nat} (hR : RO I 1 (J 1) np nt B) (H : HS I J np nt) (x1 x2 : Int32) : Ask (f_X8_tells I x1 x2) (f_X9_tells J x1 x2) := by
  obtain ⟨hnp, hnt, -⟩ := hR.1
  unfold f_X8_tells f_X9_tells
  rcases pr_isHolder I J x1 with ⟨e1, e2, e3⟩ | ⟨h, hh, rfl, e1, e2, e3⟩
  · rw [e1, e2, zb_s, zb_s, if_pos rfl, if_pos rfl]
    exact ⟨_, rfl, rfl⟩
  · rw [e1, e2, zb_s, zb_s, if_neg one0, if_neg one0, e3, in_e]
    by_cases g1 : x2 < 0
    · rw [if_pos g1, if_pos g1, zb_s, if_pos rfl]
      exact ⟨_, rfl, rfl⟩
    · rw [if_neg g1, if_neg g1]
      by_cases g2 : x2 ≤ 3
      · obtain ⟨k, hk, rfl⟩ := nI_of2 (M := 3) (n := 3) (by decide) g1 g2
        obtain ⟨hM, a2, a3⟩ := H.2 h hh
        rw [if_pos g2, if_pos g2, zb_s, zb_s, if_neg one0, zin_t hh (by decide), zck_1, zck_1, zck_1, zck_1, nI_clamp (by omega), a2]
        unfold f_X8_tells_j51 f_X8_tells_j79 f_X8_tells_j107 f_X9_tells_j67 f_X9_tells_j99 f_X9_tells_j95 f_X9_tells_j100 f_X9_tells_j144
        rw [a2, zin_t hh (by decide), nI_clamp (by omega)]
        simp only [zck_1]
        rcases a3 with b | ⟨b, p, hp, b1, b2⟩ | ⟨b, t, ht, b1, b2⟩ | ⟨b, -⟩
        · rw [b]
          rw [if_pos (show nI 0 = 0 from rfl), if_pos (show nI 0 = 0 from rfl)]
          exact ⟨_, rfl, rfl⟩
        · have w2 := (hR.2.1 p hp).1 2 (by decide)
          rw [b, b1, b2]
          rcases (show k = 0 ∨ k = 1 ∨ k = 2 ∨ k = 3 by omega) with rfl | rfl | rfl | rfl
          · simp (disch := omega) only [zlit, zofN, zneg, zle, zlt, zeq, pk_mul, pk_sub, nI_add, nI_clamp, zb_s, zlet_s, if_false, if_true, if_pos, if_neg, zck_1, zin_t]
            exact ⟨_, rfl, rfl⟩
          · simp (disch := omega) only [sp_personAt, sp_p, zlit, zofN, zneg, zle, zlt, zeq, pk_mul, pk_sub, nI_add, nI_clamp, zb_s, zlet_s, if_false, if_true, if_pos, if_neg, zck_1, zin_t]
            exact ⟨_, rfl, congrArg some w2.symm⟩
          · simp (disch := omega) only [zlit, zofN, zneg, zle, zlt, zeq, pk_mul, pk_sub, nI_add, nI_clamp, zb_s, zlet_s, if_false, if_true, if_pos, if_neg, zck_1, zin_t]
            exact ⟨_, rfl, rfl⟩
          · simp (disch := omega) only [zlit, zofN, zneg, zle, zlt, zeq, pk_mul, pk_sub, nI_add, nI_clamp, zb_s, zlet_s, if_false, if_true, if_pos, if_neg, zck_1, zin_t]
            exact ⟨_, rfl, rfl⟩
        · obtain ⟨e, n, m, L, S, ⟨⟨z0, -⟩, -⟩, -⟩ := hR.2.2 t ht
          rw [b, b1, b2]
          rcases (show k = 0 ∨ k = 1 ∨ k = 2 ∨ k = 3 by omega) with rfl | rfl | rfl | rfl
          · simp (disch := omega) only [zlit, zofN, zneg, zle, zlt, zeq, pk_mul, pk_sub, nI_add, nI_clamp, zb_s, zlet_s, if_false, if_true, if_pos, if_neg, zck_1, zin_t]
            exact ⟨_, rfl, rfl⟩
          · simp (disch := omega) only [zlit, zofN, zneg, zle, zlt, zeq, pk_mul, pk_sub, nI_add, nI_clamp, zb_s, zlet_s, if_false, if_true, if_pos, if_neg, zck_1, zin_t]
            exact ⟨_, rfl, rfl⟩
          · simp (disch := omega) only [sp_toolAt, sp_t, zlit, zofN, zneg, zle, zlt, zeq, pk_mul, pk_sub, nI_add, nI_clamp, zb_s, zlet_s, if_false, if_true, if_pos, if_neg, zck_1, zin_t]
            exact ⟨_, rfl, congrArg some z0.symm⟩
          · rcases RO_out hR ht with ⟨b1', b2', -, -, -, b6', b7'⟩ | ⟨p, d', b0', -, b1', b2', b3', b4', b5', b6', b7'⟩
            · simp (disch := omega) only [sp_toolAt, b6', b7', zlit, zofN, zneg, zle, zlt, zeq, pk_mul, pk_sub, nI_add, nI_clamp, zb_s, zlet_s, if_false, if_true, if_pos, if_neg, zck_1, zin_t]
              exact ⟨_, rfl, rfl⟩
            · simp (disch := omega) only [sp_toolAt, sp_t, b6', b7', zlit, zofN, zneg, zle, zlt, zeq, pk_mul, pk_sub, nI_add, nI_clamp, zb_s, zlet_s, if_false, if_true, if_pos, if_neg, zck_1, zin_t]
              exact ⟨_, rfl, by rw [b2', b1']⟩
        · rw [b]
          rcases (show k = 0 ∨ k = 1 ∨ k = 2 ∨ k = 3 by omega) with rfl | rfl | rfl | rfl
          · simp (disch := omega) only [zlit, zofN, zneg, zle, zlt, zeq, pk_mul, pk_sub, nI_add, nI_clamp, zb_s, zlet_s, if_false, if_true, if_pos, if_neg, zck_1, zin_t]
            exact ⟨_, rfl, rfl⟩
          · simp (disch := omega) only [zlit, zofN, zneg, zle, zlt, zeq, pk_mul, pk_sub, nI_add, nI_clamp, zb_s, zlet_s, if_false, if_true, if_pos, if_neg, zck_1, zin_t]
            exact ⟨_, rfl, rfl⟩
          · simp (disch := omega) only [zlit, zofN, zneg, zle, zlt, zeq, pk_mul, pk_sub, nI_add, nI_clamp, zb_s, zlet_s, if_false, if_true, if_pos, if_neg, zck_1, zin_t]
            exact ⟨_, rfl, rfl⟩
          · simp (disch := omega) only [zlit, zofN, zneg, zle, zlt, zeq, pk_mul, pk_sub, nI_add, nI_clamp, zb_s, zlet_s, if_false, if_true, if_pos, if_neg, zck_1, zin_t]
            exact ⟨_, rfl, rfl⟩
      · rw [if_neg g2, if_neg g2, zb_s, if_pos rfl]
        exact ⟨_, rfl, rfl⟩
