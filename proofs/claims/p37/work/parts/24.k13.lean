/-! FAIR 13: the law -/
theorem k_l28 {L : Nat} (hL : L ≤ 260) (xs : Nat → Int32) {acts : Nat} (ha : acts ≤ 60) : ∀ (d y fuel n C : Nat) (I J : zM), acts = y + d → d < fuel → n = y → C ≤ 255 * y → KQ n C I J → ∃ (C2 : Nat) (I2 J2 : zM), C2 ≤ 255 * acts ∧ KQ acts C2 I2 J2 ∧ ∀ K : zM → Int32 → Option (Int32 × zM), f_L_law_l28 L xs (nI acts) K fuel I (nI C) (nI y) = K I2 (nI C2) := by
  intro d
  induction d with
  | zero =>
    intro y fuel n C I J hd hf hn hC hP
    obtain ⟨m, rfl⟩ : ∃ m, fuel = m + 1 := ⟨fuel - 1, by omega⟩
    refine ⟨C, I, J, by omega, ?_, fun K => ?_⟩
    · rw [show acts = n by omega]
      exact hP
    · rw [f_L_law_l28, if_pos (nI_le (by omega) (by omega))]
  | succ d ih =>
    intro y fuel n C I J hd hf hn hC hP
    obtain ⟨m, rfl⟩ : ∃ m, fuel = m + 1 := ⟨fuel - 1, by omega⟩
    obtain ⟨k, M, J2, hk, e1, e2⟩ := k_act hL xs (show n < 512 by omega) (by omega) (nI y) hP
    have e3 := KQ_coins (by omega) e2
    obtain ⟨C2, I3, J3, g1, g2, g3⟩ := ih (y + 1) m (n + 1) (C + k) M J2 (by omega) (by omega) (by omega) (by omega) e2
    refine ⟨C2, I3, J3, g1, g2, fun K => ?_⟩
    rw [f_L_law_l28, if_neg (nI_ge (by omega) (by omega)), e1, zb_s, zlet_s]
    dsimp only
    rw [e3, zb_s, nI_add, if_pos rfl, nI_1]
    exact g3 K
-- in thought and in deed
theorem k_l135 {L a np nt B0 : Nat} {xs : Nat → Int32} {I J : zM} (hR : RO I 1 (J 1) np nt B0) (hH : HS I J np nt) (hT : TP I J) (hM : TM I 330 12 1) (hB0 : B0 ≤ 2 ^ 20) (ha : a ≤ 2 ^ 27) (hday : J 1 1082 = nI a) (y2 y4 y5 y6 : Int32) (K : zM → Int32 → Int32 → Option (Int32 × zM)) : ∀ (d y fuel : Nat), nt = y + d → d < fuel → f_L_law_l135 L xs y2 y4 y5 y6 K fuel I (nI (SL (J 1) a y)) (nI (SF (J 1) a y)) (nI y) = K I (nI (SL (J 1) a nt)) (nI (SF (J 1) a nt)) := by
  obtain ⟨c1, c2, c3, c4, c5, c6, -⟩ := hR.1
  obtain ⟨-, u1, -, u4, -⟩ := u_cnt hR hH hT
  intro d
  induction d with
  | zero =>
    intro y fuel hd hf
    obtain ⟨m, rfl⟩ : ∃ m, fuel = m + 1 := ⟨fuel - 1, by omega⟩
    rw [f_L_law_l135, u1, zb_s, if_pos (nI_le (by omega) (by omega)), show y = nt by omega]
  | succ d ih =>
    intro y fuel hd hf
    obtain ⟨m, rfl⟩ : ∃ m, fuel = m + 1 := ⟨fuel - 1, by omega⟩
    have hy : y < nt := by omega
    have ih := ih (y + 1) m (by omega) (by omega)
    have eL : SL (J 1) a (y + 1) = SL (J 1) a y + kDu (J 1) a y := rfl
    have eF : SF (J 1) a (y + 1) = SF (J 1) a y + fN (J 1) a y := rfl
    rw [eL, eF] at ih
    have tl := u_told hR hB0 hM hy ha hday
    have t2 := ask_v (q_toolOf hR (nI y) 2) (v_tool2 c6 c2 hy)
    rw [f_L_law_l135, u1, zb_s, if_neg (nI_ge (by omega) (by omega)), t2, zb_s]
    by_cases c : J 1 (180 + y * 90 + 2) < 0
    · rw [show kDu (J 1) a y = 0 from if_pos c] at ih
      rw [if_pos c, if_pos (show (-2 : Int32) < 0 by decide), zlet_s, tl, zb_s, zlet_s, a0]
      show f_L_law_l135 L xs y2 y4 y5 y6 K m I (nI (SL (J 1) a y)) (nI (SF (J 1) a y) + nI (fN (J 1) a y)) (nI y + 1) = _
      rw [nI_add, nI_1]
      exact ih
    · obtain ⟨-, e2, e3⟩ := u_due hR hB0 hy ha c
      have t4 := ask_v (q_toolOf hR (nI y) 4) (v_tool4 c6 c2 hy c)
      rw [e2] at t4
      rw [if_neg c, if_neg c, t4, zb_s, u4, zb_s, hday]
      by_cases c3 : a ≤ cN (J 1 (180 + y * 90 + 4))
      · rw [show kDu (J 1) a y = 0 from by unfold kDu; rw [if_neg c, if_pos c3]] at ih
        rw [if_pos (nI_le c3 (by omega)), zlet_s, tl, zb_s, zlet_s, a0]
        show f_L_law_l135 L xs y2 y4 y5 y6 K m I (nI (SL (J 1) a y)) (nI (SF (J 1) a y) + nI (fN (J 1) a y)) (nI y + 1) = _
        rw [nI_add, nI_1]
        exact ih
      · rw [show kDu (J 1) a y = 1 from by unfold kDu; rw [if_neg c, if_neg c3]] at ih
        rw [if_neg (nI_ge (by omega) (by omega)), zlet_s, tl, zb_s, zlet_s, nI_1]
        show f_L_law_l135 L xs y2 y4 y5 y6 K m I (nI (SL (J 1) a y + 1)) (nI (SF (J 1) a y) + nI (fN (J 1) a y)) (nI y + 1) = _
        rw [nI_add, nI_1]
        exact ih
-- all tools come back
theorem k_l228 {L C : Nat} {xs : Nat → Int32} (hC : C < 2 ^ 31) : ∀ (d y fuel n nt : Nat) (I J : zM), nt = y + d → d < fuel → n + d < 512 → J 1 1081 = nI nt → nt ≤ 10 → KQ n C I J → ∃ (I2 J2 : zM), KQ (n + d) C I2 J2 ∧ J2 4 = J 4 ∧ J2 0 4 = J 0 4 ∧ ∀ (y4 y5 : Int32) (K : zM → Option (Int32 × zM)), f_L_law_l228 L xs (nI C) y4 y5 K fuel I (nI y) = K I2 := by
  intro d
  induction d with
  | zero =>
    intro y fuel n nt I J hd hf hn hnt hnt2 hP
    obtain ⟨m, rfl⟩ : ∃ m, fuel = m + 1 := ⟨fuel - 1, by omega⟩
    have hP0 := hP
    obtain ⟨B0, B, h0, hB, ⟨np, nt', hR, hH, m1, m2, m3, hT, hI, b1, b2⟩, hF⟩ := hP
    obtain ⟨-, u1, -⟩ := u_cnt hR hH hT
    have hc2 := hR.1.2.1
    have en : nt' = nt := nI_inj (hR.1.2.2.2.2.2.1.symm.trans hnt) (by omega) (by omega)
    refine ⟨I, J, hP0, rfl, rfl, fun y4 y5 K => ?_⟩
    rw [f_L_law_l228, u1, zb_s, if_pos (nI_le (by omega) (by omega))]
  | succ d ih =>
    intro y fuel n nt I J hd hf hn hnt hnt2 hP
    obtain ⟨m, rfl⟩ : ∃ m, fuel = m + 1 := ⟨fuel - 1, by omega⟩
    have hP0 := hP
    obtain ⟨B0, B, h0, hB, ⟨np, nt', hR, hH, m1, m2, m3, hT, hI, b1, b2⟩, hF⟩ := hP
    obtain ⟨-, u1, -⟩ := u_cnt hR hH hT
    have hc2 := hR.1.2.1
    have en : nt' = nt := nI_inj (hR.1.2.2.2.2.2.1.symm.trans hnt) (by omega) (by omega)
    subst en
    have hy : y < nt' := by omega
    obtain ⟨a, a1, -, a2⟩ := hR.1.2.2.2.2.2.2.1
    have tl := u_told hR (by omega) b1 hy (show a ≤ 2 ^ 27 by omega) a2
    obtain ⟨r, I2, J2, e1, e2, e3, e4, e5⟩ := s_returned (n := n) (by omega) hC (nI y) hP0
    obtain ⟨-, k81, kr⟩ := k_returned (by omega) m1 hR hC hF e2
    have hr : r = -5 ∨ r = nI (fN (J 1) a y) := by
      rcases kr y hy rfl with h | ⟨h1, h2⟩
      · exact Or.inl h
      · refine Or.inr ?_
        have ho : ¬ J 1 (180 + y * 90 + 2) < 0 := fun c => by
          rw [v_out (by omega), if_pos c] at h1
          exact absurd (Option.some.inj h1).symm one0
        rw [a2, (u_due hR (by omega) hy (by omega) ho).1] at h2
        exact (Option.some.inj h2).symm
    have fair := KQ_fair (by omega) hC e3
    obtain ⟨I3, J3, g1, g2, g3, g4⟩ := ih (y + 1) m (n + 1) nt' I2 J2 (by omega) (by omega) (by omega) (k81.trans hnt) hnt2 e3
    refine ⟨I3, J3, by rw [show n + (d + 1) = n + 1 + d by omega]; exact g1, g2.trans e4, g3.trans e5, fun y4 y5 K => ?_⟩
    rw [f_L_law_l228, u1, zb_s, if_neg (nI_ge (by omega) (by omega)), tl, zb_s]
    dsimp only
    rw [e1, zb_s]
    dsimp only
    by_cases e5 : r = -5
    · rw [if_pos e5, fair, zb_s, if_neg one0, nI_1]
      exact g4 y4 y5 K
    · rcases hr with e | e
      · exact absurd e e5
      · rw [if_neg e5, if_pos e, fair, zb_s, if_neg one0, nI_1]
        exact g4 y4 y5 K
theorem k_law {L : Nat} (hL : L ≤ 260) (xs : Nat → Int32) {I J : zM} (hP0 : KQ 0 0 I J) : ∃ M : zM, f_L_law L xs I = some (1, M) := by
  have hz := zFu_big
  obtain ⟨acts, ha, haL, hl⟩ : ∃ acts, acts ≤ 60 ∧ acts ≤ L ∧ f_L_law L xs I = f_L_law_j24 L xs I 0 (nI acts) := by
    unfold f_L_law
    by_cases c : 60 ≤ L
    · exact ⟨60, Nat.le_refl _, c, by rw [if_pos (show (60 : Int32) ≤ Int32.ofNat L from nI_le (a := 60) c (by omega))]; rfl⟩
    · exact ⟨L, by omega, Nat.le_refl _, by rw [if_neg (show ¬ (60 : Int32) ≤ Int32.ofNat L from nI_ge (b := 60) (by omega) (by decide))]; rfl⟩
  rw [hl]
  unfold f_L_law_j24
  obtain ⟨C, I2, J2, hC, hP, e⟩ := k_l28 hL xs ha acts 0 zFu 0 0 I J (by omega) (by omega) rfl (Nat.le_refl _) hP0
  have e : ∀ K, f_L_law_l28 L xs (nI acts) K zFu I 0 0 = K I2 (nI C) := e
  obtain ⟨I3, J3, i1, i2, i3, i4, i5⟩ := s_image hP
  rw [← i3] at i1
  have i20 := i2
  have fair3 := KQ_fair (by omega) (show C < 2 ^ 31 by omega) i2
  obtain ⟨B0, B, h0, hB, ⟨np, nt, hR, hH, m1, m2, m3, hT, hI, b1, b2⟩, hF⟩ := i20
  obtain ⟨c1, c2, c3, c4, c5, c6, ⟨a, a1, -, a2⟩, -⟩ := hR.1
  obtain ⟨u0, -, -, u4, -⟩ := u_cnt hR hH hT
  have no : f_X8_personOf I3 (nI np) 0 = some (-1) := ask_v (q_personOf hR (nI np) 0) (v_noone c4 c1)
  have d9 : J3 1 1082 + nI 9 = nI (a + 9) := by rw [a2, nI_add]
  obtain ⟨ah0, ah1⟩ := u_ahead hR (by omega) (k := 9) (a := a + 9) (by decide) (by omega) d9
  have ah0 : f_X8_ahead I3 9 0 = some (nI (SL (J3 1) (a + 9) nt)) := ah0
  have ah1 : f_X8_ahead I3 9 1 = some (nI (SF (J3 1) (a + 9) nt)) := ah1
  obtain ⟨r4, I4, J4, t1, t2, t3, t4, t5⟩ := s_days (by omega) 9 i2
  have j4 : J4 1 1082 = nI (a + 9) ∧ ∀ k, k ≠ 1082 → J4 1 k = J3 1 k := by
    unfold f_X9_days at t2
    rw [in_e, if_neg (show ¬ (9 : Int32) < 1 by decide), if_pos (show (9 : Int32) ≤ 99 by decide), zb_s, if_neg one0, zlet_s] at t2
    obtain ⟨-, rfl⟩ := k_e t2
    exact ⟨by rw [ms_ss]; exact d9, fun k hk => ms_sn hk⟩
  have t30 := t3
  obtain ⟨B4, B4', q0, qB, ⟨np4, nt4, hR4, hH4, m14, m24, m34, hT4, hI4, b14, b24⟩, hF4⟩ := t30
  have en : nt4 = nt := nI_inj (hR4.1.2.2.2.2.2.1.symm.trans ((j4.2 _ (by decide)).trans c6)) (by have := hR4.1.2.1; omega) (by omega)
  subst en
  have sfl := SFL_c (A := J3 1) (A2 := J4 1) (a := a + 9) nt4 (fun t f ht hf => j4.2 _ (by omega))
  have e135 : ∀ (y2 y4 y5 y6 : Int32) (K : zM → Int32 → Int32 → Option (Int32 × zM)), f_L_law_l135 L xs y2 y4 y5 y6 K zFu I4 0 0 0 = K I4 (nI (SL (J4 1) (a + 9) nt4)) (nI (SF (J4 1) (a + 9) nt4)) := fun y2 y4 y5 y6 K => k_l135 hR4 hH4 hT4 b14 (by omega) (by omega) j4.1 y2 y4 y5 y6 K nt4 0 zFu (by omega) (by omega)
  have ah4 : f_X8_ahead I4 0 1 = some (nI (SF (J4 1) (a + 9) nt4)) := (u_ahead hR4 (by omega) (k := 0) (a := a + 9) (by decide) (by omega) (by rw [j4.1, nI_add])).2
  obtain ⟨I5, J5, g1, g2, g3, g4⟩ := k_l228 (L := L) (xs := xs) (show C < 2 ^ 31 by omega) nt4 0 zFu (acts + 1) nt4 I4 J4 (by omega) (by omega) (by omega) hR4.1.2.2.2.2.2.1 c2 t3
  have g4 : ∀ (y4 y5 : Int32) (K : zM → Option (Int32 × zM)), f_L_law_l228 L xs (nI C) y4 y5 K zFu I4 0 = K I5 := g4
  obtain ⟨I6, J6, w1, w2, w3⟩ := s_back (I0 := I3) (J0 := J3) (show acts ≤ acts + 1 + nt4 by omega) g1 i2 (fun k hk => by rw [g2, t4, i5 k hk, i3]) (by rw [g3, t5, i4])
  have fair6 := KQ_fair (by omega) (show C < 2 ^ 31 by omega) w2
  obtain ⟨B6, B6', v0, vB, ⟨np6, nt6, hR6, hH6, m16, m26, m36, hT6, hI6, b16, b26⟩, hF6⟩ := w2
  have en6 : nt6 = nt4 := nI_inj (hR6.1.2.2.2.2.2.1.symm.trans ((w3 _ (by decide)).trans c6)) (by have := hR6.1.2.1; omega) (by omega)
  subst en6
  obtain ⟨-, -, -, u46, -⟩ := u_cnt hR6 hH6 hT6
  have sfl6 := SFL_c (A := J3 1) (A2 := J6 1) (a := a + 9) nt6 (fun t f ht hf => w3 _ (by omega))
  have ah6 : f_X8_ahead I6 9 0 = some (nI (SL (J6 1) (a + 9) nt6)) := (u_ahead hR6 (by omega) (k := 9) (a := a + 9) (by decide) (by omega) (by rw [w3 1082 (by decide)]; exact d9)).1
  refine ⟨I6, ?_⟩
  rw [e, i1, zb_s]
  dsimp only
  rw [fair3, zb_s, if_neg one0, u4, zb_s, if_pos rfl, u0, zb_s, no, zb_s, if_pos rfl, ah0, zb_s, ah1, zb_s, t1, zb_s]
  dsimp only
  rw [e135, sfl.1, sfl.2, if_pos rfl, if_pos rfl, ah4, zb_s, sfl.1, if_pos rfl, g4, w1, zb_s]
  dsimp only
  rw [if_pos rfl, u46, zb_s, w3 1082 (by decide), if_pos rfl, ah6, zb_s, sfl6.2, if_pos rfl, fair6, zb_s, if_neg one0]
