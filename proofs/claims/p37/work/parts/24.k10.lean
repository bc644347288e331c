/-! FAIR 10: the law's look at all -/
section KF
variable {I J : zM} {np nt B0 B C : Nat}
theorem u_cnt (hR : RO I 1 (J 1) np nt B0) (hH : HS I J np nt) (hT : TP I J) : f_X8_count I 0 = some (nI np) ∧ f_X8_count I 1 = some (nI nt) ∧ f_X8_count I 2 = some (nI (OU (J 1) nt)) ∧ f_X8_count I 4 = some (J 1 1082) ∧ f_X8_count I 5 = some (J 1 1083) ∧ f_X8_count I 6 = some (SB (J 1) np) := by
  have hz := zFu_big
  obtain ⟨c1, c2, c3, c4, c5, c6, -⟩ := hR.1
  refine ⟨ask_v (q_count hR hH hT 0) ?_, ask_v (q_count hR hH hT 1) ?_, ask_v (q_count hR hH hT 2) ?_, ask_v (q_count hR hH hT 4) ?_, ask_v (q_count hR hH hT 5) ?_, ask_v (q_count hR hH hT 6) ?_⟩
  · unfold f_X9_count
    rw [if_pos rfl, c4]
  · unfold f_X9_count
    rw [if_neg (show ¬ (1 : Int32) = 0 by decide), if_pos rfl, c6]
  · unfold f_X9_count
    rw [if_neg (show ¬ (2 : Int32) = 0 by decide), if_neg (show ¬ (2 : Int32) = 1 by decide), if_pos rfl]
    exact l_ou c6 c2 nt 0 zFu (by omega) (by omega)
  · unfold f_X9_count
    rw [if_neg (show ¬ (4 : Int32) = 0 by decide), if_neg (show ¬ (4 : Int32) = 1 by decide), if_neg (show ¬ (4 : Int32) = 2 by decide), if_neg (show ¬ (4 : Int32) = 3 by decide), if_pos rfl]
  · unfold f_X9_count
    rw [if_neg (show ¬ (5 : Int32) = 0 by decide), if_neg (show ¬ (5 : Int32) = 1 by decide), if_neg (show ¬ (5 : Int32) = 2 by decide), if_neg (show ¬ (5 : Int32) = 3 by decide), if_neg (show ¬ (5 : Int32) = 4 by decide), if_pos rfl]
  · unfold f_X9_count
    rw [if_neg (show ¬ (6 : Int32) = 0 by decide), if_neg (show ¬ (6 : Int32) = 1 by decide), if_neg (show ¬ (6 : Int32) = 2 by decide), if_neg (show ¬ (6 : Int32) = 3 by decide), if_neg (show ¬ (6 : Int32) = 4 by decide), if_neg (show ¬ (6 : Int32) = 5 by decide), if_pos rfl]
    exact l_sb c4 c1 np 0 zFu (by omega) (by omega)
theorem u_coins (hB0 : B0 + 1 ≤ 2 ^ 20) (hM : MT I 1) (hR : RO I 1 (J 1) np nt B0) (hF : FA (J 1) np nt C B) : f_X8_swaps I 3 = some (nI C) := by
  obtain ⟨c1, c2, c3, c4, c5, c6, -⟩ := hR.1
  obtain ⟨r, J2, h1, h2, -⟩ := q_swaps hB0 hM hR 3
  have e : f_X9_swaps J 3 = some (nI C, J) := by
    unfold f_X9_swaps
    rw [in_e, if_neg (show ¬ (3 : Int32) < 0 by decide), if_pos (show (3 : Int32) ≤ 3 by decide), zb_s, if_neg one0, if_pos (show (2 : Int32) ≤ 3 by decide), if_neg (show ¬ (3 : Int32) = 2 by decide), v_coins c4 c1 c6 c2 hF, zb_s]
  rw [e] at h2
  rw [h1, (k_e h2).1]
theorem u_person (hR : RO I 1 (J 1) np nt B0) (hF : FA (J 1) np nt C B) {q : Nat} (hq : q < np) : f_X8_personOf I (nI q) 1 = some (nI (cN (J 1 (q * 15 + 1)))) ∧ (∃ k, k ≤ 99 ∧ f_X8_personOf I (nI q) 2 = some (nI k)) ∧ f_X8_personOf I (nI q) 4 = some (J 1 (q * 15 + 4)) ∧ f_X8_personOf I (nI q) 5 = some (nI (TO (J 1) (nI q) nt)) ∧ f_X8_personOf I (nI q) 6 = some (nI (RK (J 1) q np)) ∧ f_X8_ranked I (nI (RK (J 1) q np)) = some (nI q) := by
  obtain ⟨c1, c2, c3, c4, c5, c6, -⟩ := hR.1
  obtain ⟨k, hk, hk2⟩ := (hR.2.1 q hq).2.2.2
  refine ⟨ask_v (q_personOf hR (nI q) 1) ?_, ⟨k, hk, ask_v (q_personOf hR (nI q) 2) ?_⟩, ask_v (q_personOf hR (nI q) 4) ?_, ask_v (q_personOf hR (nI q) 5) ?_, ask_v (q_personOf hR (nI q) 6) ?_, ask_v (q_ranked hR _) (v_ranked c4 c1 hF hq)⟩
  · rw [← FA_pur hF hq]
    exact v_person (f := 1) c4 c1 hq (by decide)
  · rw [← hk2]
    exact v_person (f := 2) c4 c1 hq (by decide)
  · exact v_person (f := 4) c4 c1 hq (by decide)
  · rw [v_person5 c4 c1 hq]
    exact v_tools c6 c2
  · rw [v_person6 c4 c1 hq]
    exact v_rank c4 c1 hF hq
theorem k_l14 (hR : RO I 1 (J 1) np nt B0) (hH : HS I J np nt) (hT : TP I J) (hC : C < 2 ^ 31) (hB : B ≤ 2 ^ 20) (hF : FA (J 1) np nt C B) (x1 : Int32) (c : Nat) (K : Int32 → Int32 → Int32 → Option Int32) : ∀ (d y fuel : Nat), np = y + d → d < fuel → f_L_isFair_l14 I x1 K fuel (nI (STO (J 1) nt y)) (nI (c + SP (J 1) y)) (SB (J 1) y) (nI y) = K (nI (STO (J 1) nt np)) (nI (c + SP (J 1) np)) (SB (J 1) np) := by
  have hnp := hR.1.1
  obtain ⟨u0, -⟩ := u_cnt hR hH hT
  intro d
  induction d with
  | zero =>
    intro y fuel hd hf
    obtain ⟨m, rfl⟩ : ∃ m, fuel = m + 1 := ⟨fuel - 1, by omega⟩
    rw [f_L_isFair_l14, u0, zb_s, if_pos (nI_le (by omega) (by omega)), show y = np by omega]
  | succ d ih =>
    intro y fuel hd hf
    obtain ⟨m, rfl⟩ : ∃ m, fuel = m + 1 := ⟨fuel - 1, by omega⟩
    have hy : y < np := by omega
    obtain ⟨p1, ⟨k, hk, p2⟩, p4, p5, p6, pr⟩ := u_person hR hF hy
    have hp1 : cN (J 1 (y * 15 + 1)) < 2 ^ 31 := by
      have l1 := SP_le (A := J 1) np hy
      have f5 := hF.2.2.2.2
      omega
    have hd4 : ¬ J 1 (y * 15 + 4) < 0 := by
      obtain ⟨-, ⟨dt, t1, t2⟩, -⟩ := hF.1 y hy
      rw [t2]
      exact nI_pos (by omega)
    have ih := ih (y + 1) m (by omega) (by omega)
    rw [f_L_isFair_l14, u0, zb_s, if_neg (nI_ge (by omega) (by omega)), p1, zb_s, zlet_s, p4, zb_s, zlet_s, p5, zb_s, zlet_s, zb_s, if_neg (nI_pos hp1), p2, zb_s, if_neg (nI_pos (by omega)), zb_s, if_neg (show ¬ (99 : Int32) < nI k from nI_nlt (a := 99) hk (by decide)), zb_s, if_neg hd4, p6, zb_s, pr, zb_s, if_pos rfl, nI_add, nI_add, nI_1, Nat.add_assoc]
    exact ih
theorem u_link (hR : RO I 1 (J 1) np nt B0) {t n i j : Nat} (ht : t < nt) (hn : J 1 (180 + t * 90 + 6) = nI n) (hn8 : n ≤ 8) (hi : i < n) (hj : j ≤ 2) : f_X8_link I (nI t) (nI i) (nI j) = some (J 1 (180 + t * 90 + (8 + 3 * i + j))) := ask_v (q_link hR _ _ _) (v_link hR.1.2.2.2.2.2.1 hR.1.2.1 ht hn hn8 hi hj)
theorem k_l326 (hR : RO I 1 (J 1) np nt B0) {t n dd : Nat} {h : Int32} (ht : t < nt) (hn : J 1 (180 + t * 90 + 6) = nI n) (hn8 : n ≤ 8) (hdd : dd < 2 ^ 31) (L : FL (lkR (J 1) (180 + t * 90)) n dd h) (x1 a b c : Int32) (K : Option Int32) : ∀ (d y fuel : Nat), 1 ≤ y → n ≤ y + d → d < fuel → y ≤ 9 → f_L_isFair_l326 I x1 a b c (nI t) (nI n) K fuel (nI y) = K := by
  intro d
  induction d with
  | zero =>
    intro y fuel hy hd hf h9
    obtain ⟨m, rfl⟩ : ∃ m, fuel = m + 1 := ⟨fuel - 1, by omega⟩
    rw [f_L_isFair_l326, if_pos (nI_le (by omega) (by omega))]
  | succ d ih =>
    intro y fuel hy hd hf h9
    obtain ⟨m, rfl⟩ : ∃ m, fuel = m + 1 := ⟨fuel - 1, by omega⟩
    by_cases c1 : n ≤ y
    · rw [f_L_isFair_l326, if_pos (nI_le c1 (by omega))]
    · obtain ⟨e, s, e1, e2, e3, e4⟩ := L.2.1 (y - 1) (by omega)
      have l2 : f_X8_link I (nI t) (nI (y - 1)) 2 = some (nI e) := by
        rw [← e3]
        exact u_link hR (j := 2) ht hn hn8 (by omega) (by decide)
      have l1 : f_X8_link I (nI t) (nI y) 1 = some (nI s) := by
        rw [← e4, show y - 1 + 1 = y by omega]
        exact u_link hR (j := 1) ht hn hn8 (by omega) (by decide)
      rw [f_L_isFair_l326, if_neg (nI_ge (by omega) (by omega)), show nI y - 1 = nI (y - 1) from pk_sub (b := 1) hy, l2, zb_s, if_neg (nI_pos (by omega)), zb_s, l1, zb_s, if_pos (nI_le e1 (by omega)), nI_1]
      exact ih (y + 1) m (by omega) (by omega) (by omega) (by omega)
theorem u_tool (hR : RO I 1 (J 1) np nt B0) (hF : FA (J 1) np nt C B) {t : Nat} (ht : t < nt) : f_X8_toolOf I (nI t) 5 = some (nI (cN (J 1 (180 + t * 90 + 5)))) ∧ (∃ x, x ≤ 9 ∧ f_X8_toolOf I (nI t) 1 = some (nI x)) ∧ (∃ m, 1 ≤ m ∧ m ≤ 6 ∧ f_X8_toolOf I (nI t) 8 = some (nI m)) ∧ (∃ z, z ≤ 8 ∧ f_X8_toolOf I (nI t) 6 = some (nI z)) ∧ ∃ n dd, n ≤ 8 ∧ dd ≤ 99 * B ∧ J 1 (180 + t * 90 + 6) = nI n ∧ f_X8_toolOf I (nI t) 7 = some (nI n) ∧ FL (lkR (J 1) (180 + t * 90)) n dd (J 1 (180 + t * 90 + 2)) ∧ ((J 1 (180 + t * 90 + 2) = -1 ∧ J 1 (180 + t * 90 + 5) = nI 0 ∧ f_X8_toolOf I (nI t) 2 = some (-2)) ∨ ∃ p g, p < 12 ∧ J 1 (180 + t * 90 + 2) = nI p ∧ 1 ≤ g ∧ g ≤ 99 ∧ J 1 (180 + t * 90 + 5) = nI g ∧ 1 ≤ n ∧ f_X8_toolOf I (nI t) 2 = some (nI p)) := by
  obtain ⟨c1, c2, c3, c4, c5, c6, -⟩ := hR.1
  obtain ⟨w, x, g, w1, w2, x9, g9, -, z2, -, z4, -, z6⟩ := RO_num hR ht
  obtain ⟨dd, d1, d2, d3⟩ := hF.2.2.1
  obtain ⟨n, n8, n6, LL, hd, m, x', m1, m2, x9', m3, m4⟩ := d3 t ht
  obtain ⟨ev, n', m', L, S, -, -, -, hc⟩ := hR.2.2 t ht
  have hl8 : L.length ≤ 8 := hc.1.2.2.2.1
  obtain ⟨v6, v7, v8⟩ := v_tool6 c6 c2 ht
  have v2 := v_tool2 c6 c2 ht
  refine ⟨ask_v (q_toolOf hR (nI t) 5) ?_, ⟨x, x9, ask_v (q_toolOf hR (nI t) 1) ?_⟩, ⟨m, m1, m2, ask_v (q_toolOf hR (nI t) 8) ?_⟩, ⟨L.length, hl8, ask_v (q_toolOf hR (nI t) 6) ?_⟩, n, dd, n8, d1, n6, ask_v (q_toolOf hR (nI t) 7) ?_, LL, ?_⟩
  · rw [← FA_dep hF ht]
    exact v_tool (f := 5) c6 c2 ht (by decide)
  · rw [← z4]
    exact v_tool (f := 1) c6 c2 ht (by decide)
  · rw [v8, m3]
  · rw [v6, hc.2.1]
  · rw [v7, n6]
  · rcases hd with ⟨a, b⟩ | ⟨p, g', p1, a1, a2, a3, a4, a5⟩
    · refine Or.inl ⟨a, b, ask_v (q_toolOf hR (nI t) 2) ?_⟩
      rw [v2, a, if_pos (show (-1 : Int32) < 0 by decide)]
    · refine Or.inr ⟨p, g', p1, a1, a2, a3, a4, a5, ask_v (q_toolOf hR (nI t) 2) ?_⟩
      rw [v2, a1, if_neg (nI_pos (by omega))]
theorem k_l126 (hR : RO I 1 (J 1) np nt B0) (hH : HS I J np nt) (hT : TP I J) (hC : C < 2 ^ 31) (hB : B ≤ 2 ^ 20) (hF : FA (J 1) np nt C B) (x1 a b : Int32) (c : Nat) (K : Int32 → Option Int32) : ∀ (d y fuel : Nat), nt = y + d → d < fuel → f_L_isFair_l126 I x1 a b K fuel (nI (c + SD (J 1) y)) (nI y) = K (nI (c + SD (J 1) nt)) := by
  have hz := zFu_big
  have hnt := hR.1.2.1
  obtain ⟨-, u1, -⟩ := u_cnt hR hH hT
  intro d
  induction d with
  | zero =>
    intro y fuel hd hf
    obtain ⟨m, rfl⟩ : ∃ m, fuel = m + 1 := ⟨fuel - 1, by omega⟩
    rw [f_L_isFair_l126, u1, zb_s, if_pos (nI_le (by omega) (by omega)), show y = nt by omega]
  | succ d ih =>
    intro y fuel hd hf
    obtain ⟨m, rfl⟩ : ∃ m, fuel = m + 1 := ⟨fuel - 1, by omega⟩
    have hy : y < nt := by omega
    have ih := ih (y + 1) m (by omega) (by omega)
    have ih : f_L_isFair_l126 I x1 a b K m (nI (c + SD (J 1) y) + nI (cN (J 1 (180 + y * 90 + 5)))) (nI y + 1) = K (nI (c + SD (J 1) nt)) := by
      rw [nI_add, nI_1, Nat.add_assoc]
      exact ih
    obtain ⟨t5, ⟨x, hx, t1⟩, ⟨mm, m1, m6, t8⟩, ⟨z, z8, t6⟩, n, dd, n8, hdd, hn, t7, L, hc⟩ := u_tool hR hF hy
    have inner : ∀ (w : Int32) (K2 : Option Int32), f_L_isFair_l326 I x1 a w b (nI y) (nI n) K2 zFu 1 = K2 := fun w K2 => k_l326 hR hy hn n8 (by omega) L x1 a w b K2 8 1 zFu (Nat.le_refl _) (by omega) (by omega) (by decide)
    rw [f_L_isFair_l126, u1, zb_s, if_neg (nI_ge (by omega) (by omega))]
    rcases hc with ⟨h1, h2, t2⟩ | ⟨p, g, p12, h1, g1, g9, h2, n1, t2⟩
    · have hg : cN (J 1 (180 + y * 90 + 5)) = 0 := by rw [h2]; exact cN_n (by decide)
      rw [t2, zb_s, t7, zb_s, t5, zb_s, zlet_s, t1, zb_s, if_neg (nI_pos (by omega)), zb_s, if_neg (show ¬ (9 : Int32) < nI x from nI_nlt (a := 9) hx (by decide)), if_neg (show ¬ (8 : Int32) < nI n from nI_nlt (a := 8) n8 (by decide)), t8, zb_s, if_neg (show ¬ nI mm < 1 from nI_nlt (b := 1) m1 (by omega)), zb_s, if_neg (show ¬ (6 : Int32) < nI mm from nI_nlt (a := 6) m6 (by decide)), t6, zb_s, if_neg (show ¬ (8 : Int32) < nI z from nI_nlt (a := 8) z8 (by decide)), if_pos (show (-2 : Int32) < 0 by decide), zb_s, if_pos (show nI (cN (J 1 (180 + y * 90 + 5))) ≤ 0 from by rw [hg]; decide), if_pos (show (-2 : Int32) < 0 by decide), if_neg (show ¬ (0 : Int32) ≤ -2 by decide)]
      by_cases n0 : n = 0
      · rw [if_pos (show nI n ≤ 0 by rw [n0]; decide), inner]
        exact ih
      · obtain ⟨e, e1, e2⟩ : ∃ e, e ≤ dd ∧ lkR (J 1) (180 + y * 90) (n - 1) 2 = nI e := by
          rcases L.2.2 (by omega) with ⟨-, e, e1, e2⟩ | ⟨q, -⟩
          · exact ⟨e, e1, e2⟩
          · exact absurd h1 q
        have ll : f_X8_link I (nI y) (nI (n - 1)) 2 = some (nI e) := by
          rw [← e2]
          exact u_link hR (j := 2) hy hn n8 (by omega) (by decide)
        rw [if_neg (nI_nle (by omega) (by omega)), show nI n - 1 = nI (n - 1) from pk_sub (b := 1) (by omega), ll, zb_s, if_pos (nI_pos' (by omega)), inner]
        exact ih
    · have hg : cN (J 1 (180 + y * 90 + 5)) = g := by rw [h2]; exact cN_n (by omega)
      obtain ⟨e1, e2⟩ : lkR (J 1) (180 + y * 90) (n - 1) 2 = -2 ∧ lkR (J 1) (180 + y * 90) (n - 1) 0 = nI p := by
        rcases L.2.2 n1 with ⟨q, -⟩ | ⟨-, e1, e2⟩
        · exact absurd (h1.symm.trans q) (nI_nm1 (by omega))
        · exact ⟨e1, e2.trans h1⟩
      have l2 : f_X8_link I (nI y) (nI (n - 1)) 2 = some (-2) := by
        rw [← e1]
        exact u_link hR (j := 2) hy hn n8 (by omega) (by decide)
      have l0 : f_X8_link I (nI y) (nI (n - 1)) 0 = some (nI p) := by
        rw [← e2]
        exact u_link hR (j := 0) hy hn n8 (by omega) (by decide)
      rw [t2, zb_s, t7, zb_s, t5, zb_s, zlet_s, t1, zb_s, if_neg (nI_pos (by omega)), zb_s, if_neg (show ¬ (9 : Int32) < nI x from nI_nlt (a := 9) hx (by decide)), if_neg (show ¬ (8 : Int32) < nI n from nI_nlt (a := 8) n8 (by decide)), t8, zb_s, if_neg (show ¬ nI mm < 1 from nI_nlt (b := 1) m1 (by omega)), zb_s, if_neg (show ¬ (6 : Int32) < nI mm from nI_nlt (a := 6) m6 (by decide)), t6, zb_s, if_neg (show ¬ (8 : Int32) < nI z from nI_nlt (a := 8) z8 (by decide)), if_neg (show ¬ nI p < 0 from nI_pos (by omega)), zb_s, if_neg (show ¬ nI (cN (J 1 (180 + y * 90 + 5))) ≤ 0 from by rw [hg]; exact nI_nle (by omega) (by omega)), if_neg (show ¬ nI p < 0 from nI_pos (by omega)), show nI n - 1 = nI (n - 1) from pk_sub (b := 1) n1, l0, zb_s, if_pos rfl, l2, zb_s, if_pos rfl, if_pos (show (0 : Int32) ≤ nI p from nI_pos' (by omega)), inner]
      exact ih
theorem k_fair (hB0 : B0 + 1 ≤ 2 ^ 20) (hM : MT I 1) (hR : RO I 1 (J 1) np nt B0) (hH : HS I J np nt) (hT : TP I J) (hC : C < 2 ^ 31) (hB : B ≤ 2 ^ 20) (hF : FA (J 1) np nt C B) : f_L_isFair I (nI C) = some 1 := by
  have hz := zFu_big
  have hnp := hR.1.1
  have hnt := hR.1.2.1
  obtain ⟨-, -, u2, -, u5, u6⟩ := u_cnt hR hH hT
  obtain ⟨c, cc1, cc2⟩ := hF.2.2.2.1
  have f5 := hF.2.2.2.2
  rw [cc2, cN_n cc1] at f5
  have e1 : ∀ K, f_L_isFair_l14 I (nI C) K zFu 0 (nI c) 0 0 = K (nI (STO (J 1) nt np)) (nI (c + SP (J 1) np)) (SB (J 1) np) := fun K => k_l14 hR hH hT hC hB hF (nI C) c K np 0 zFu (by omega) (by omega)
  have e2 : ∀ (a b : Int32) (K : Int32 → Option Int32), f_L_isFair_l126 I (nI C) a b K zFu (nI (c + SP (J 1) np)) 0 = K (nI (c + SP (J 1) np + SD (J 1) nt)) := fun a b K => k_l126 hR hH hT hC hB hF (nI C) a b (c + SP (J 1) np) K nt 0 zFu (by omega) (by omega)
  have ho : STO (J 1) nt np = OU (J 1) nt := STO_out hnp nt (fun t ht => by
    rcases RO_out hR ht with ⟨-, b2, -⟩ | ⟨p, d, b0, -, -, b2, -⟩
    · exact Or.inl b2
    · exact Or.inr ⟨p, b0, b2⟩)
  unfold f_L_isFair
  rw [u5, cc2, zb_s, e1, e2, u2, zb_s, ho, if_pos rfl, u6, zb_s, if_pos rfl, if_pos (show nI (c + SP (J 1) np + SD (J 1) nt) = nI C by rw [show c + SP (J 1) np + SD (J 1) nt = C by omega]), u_coins hB0 hM hR hF, zb_s, if_pos rfl]
end KF
