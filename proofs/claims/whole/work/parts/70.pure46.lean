/-! PURE 46: a text, whole -/
def FX (M0 M : zM) : Prop := ∀ k, (k < 1 ∨ 110 ≤ k) → M k = M0 k
def FN (N0 N : zM) : Prop := (∀ a, a ≠ 0 → a ≠ 1 → a ≠ 2 → a ≠ 5 → a ≠ 17 → N a = N0 a) ∧ ∀ s, s ≠ 6 → s ≠ 13 → s ≠ 14 → N 0 s = N0 0 s
theorem FN_t {N0 N N2 : zM} (h : FN N0 N) (h2 : FN N N2) : FN N0 N2 := ⟨fun a c0 c1 c2 c3 c4 => (h2.1 a c0 c1 c2 c3 c4).trans (h.1 a c0 c1 c2 c3 c4), fun s c1 c2 c3 => (h2.2 s c1 c2 c3).trans (h.2 s c1 c2 c3)⟩
theorem FN_R {N N2 : zM} (h : FR N N2) : FN N N2 := ⟨fun a c0 c1 c2 c3 c4 => h.1 a c0 c4, fun s c1 c2 c3 => h.2 s c2 c3⟩
theorem FN_J {N N2 : zM} (h : FJ N N2) : FN N N2 := ⟨fun a c0 c1 c2 c3 c4 => h.1 a c0 c1 c2 c3, fun s c1 c2 c3 => h.2 s c1⟩
theorem FX_t {M0 M M2 : zM} (h : FX M0 M) (h2 : FX M M2) : FX M0 M2 := fun k c => (h2 k c).trans (h k c)
theorem l_exec {T : Nat → Nat} {n np0 nt0 B0 : Nat} {X : List zLi} {M0 N0 : zM} (hX : Rows M0 T n X) (hC : Chain X n) (hR0 : RO M0 219 (N0 3) np0 nt0 B0) (hTJ : TJ N0 T n) (K : zM → Option (Int32 × zM)) (K' : zM → Int32 → Int32 → Option (Int32 × zM)) : ∀ (d i spot fI fJ : Nat) (M N : zM) (np nt B : Nat), X.length = i + d → d + 1 < fI → d + 1 < fJ → (i = 0 → spot = 0) → (∀ k l, i = k + 1 → X[k]? = some l → spot = l.2.1) → B + 2 * d + 1 ≤ 2 ^ 20 → RO M 1 (N 1) np nt B → np0 ≤ np → nt0 ≤ nt → MT M 1 → FX M0 M → FN N0 N → N 0 13 = nI spot → N 0 14 = -1 → (∃ M2 N2 np2 nt2, f_X8_script_l44 K fI M (nI i) = K M2 ∧ f_X9_script_l41 K' fJ N (nI i) 1 = K' N2 (nI X.length) 1 ∧ RO M2 1 (N2 1) np2 nt2 (B + 2 * d) ∧ np0 ≤ np2 ∧ nt0 ≤ nt2 ∧ MT M2 1 ∧ FX M0 M2 ∧ FN N0 N2) ∨ (∃ j M3 N2, f_X8_script_l44 K fI M (nI i) = some (-2000 - nI j, M3) ∧ f_X9_script_l41 K' fJ N (nI i) 1 = K' N2 (nI (j + 1)) 0 ∧ RO M3 1 (N0 3) np0 nt0 B0 ∧ MT M3 1 ∧ FX M0 M3 ∧ FN N0 N2) := by
  have hn := hTJ.1
  have hlen : X.length ≤ 31 := hX.1.2.2.2.1
  intro d
  induction d with
  | zero =>
    intro i spot fI fJ M N np nt B hd hfI hfJ hs0 hsk hB hR hnp hnt hM hFX hFN h13 h14
    obtain ⟨m1, rfl⟩ : ∃ m, fI = m + 1 := ⟨fI - 1, by omega⟩
    obtain ⟨m2, rfl⟩ : ∃ m, fJ = m + 1 := ⟨fJ - 1, by omega⟩
    have hT : TB M 335 31 5 X.length := TB_c hX.1 (hFX _ (by omega))
    obtain ⟨⟨l0, l1, -⟩, -, l3, l4, l5⟩ := hC
    have hl0 := (List.getElem?_eq_some_iff.mp l1).1
    have es : spot = n := by
      rw [← l5]
      exact hsk (X.length - 1) l3 (by omega) l4
    have h8 : N 0 8 = nI n := by rw [hFN.2 8 (by decide) (by decide) (by decide)]; exact hTJ.2.1
    left
    rw [f_X8_script_l44, f_X9_script_l41, sp_size hT, zb_s, if_pos (nI_le (by omega) (by omega)), if_neg one0, h8, h13, if_pos (nI_le (by omega) (by omega))]
    exact ⟨M, N, np, nt, rfl, by rw [show X.length = i by omega], hR, hnp, hnt, hM, hFX, hFN⟩
  | succ d ih =>
    intro i spot fI fJ M N np nt B hd hfI hfJ hs0 hsk hB hR hnp hnt hM hFX hFN h13 h14
    obtain ⟨m1, rfl⟩ : ∃ m, fI = m + 1 := ⟨fI - 1, by omega⟩
    obtain ⟨m2, rfl⟩ : ∃ m, fJ = m + 2 := ⟨fJ - 2, by omega⟩
    have hT : TB M 335 31 5 X.length := TB_c hX.1 (hFX _ (by omega))
    have hil : i < X.length := by omega
    obtain ⟨l, hg⟩ : ∃ l, X[i]? = some l := ⟨_, List.getElem?_eq_getElem hil⟩
    obtain ⟨w1, w2, w3, w4, w5, w6⟩ := hX.2 i l hg
    have hspot : spot < n ∧ (l.1 = spot ∧ i = 0 ∨ l.1 = spot + 1 ∧ i ≠ 0) := by
      rcases Nat.eq_zero_or_pos i with c | c
      · obtain ⟨⟨l0, l1, l2⟩, -⟩ := hC
        rw [c] at hg
        have e : l = l0 := Option.some.inj (hg.symm.trans l1)
        have e2 := hs0 c
        rw [← e] at l2
        exact ⟨by omega, Or.inl ⟨by omega, c⟩⟩
      · obtain ⟨k, rfl⟩ : ∃ k, i = k + 1 := ⟨i - 1, by omega⟩
        have hkl : k < X.length := by omega
        obtain ⟨l', hgk⟩ : ∃ l, X[k]? = some l := ⟨_, List.getElem?_eq_getElem hkl⟩
        have e1 := hC.2.1 k l' l hgk hg
        have e2 := hsk k l' rfl hgk
        exact ⟨by omega, Or.inr ⟨by omega, by omega⟩⟩
    obtain ⟨hsn, hsl⟩ := hspot
    have h8 : N 0 8 = nI n := by rw [hFN.2 8 (by decide) (by decide) (by decide)]; exact hTJ.2.1
    have hTJN : TJ N T n := TJ_c hTJ (hFN.2 8 (by decide) (by decide) (by decide)) (hFN.1 6 (by decide) (by decide) (by decide) (by decide) (by decide))
    have hTJ1 : TJ (ms N 0 13 (nI l.1)) T n := TJ_c hTJN (ms_sn (by decide)) (ms_n (by decide))
    obtain ⟨N2, r1, r2, r3, r4, r5⟩ := w1 (ms N 0 13 (nI l.1)) hTJ1 (ms_ss _ _ _ _) (by rw [ms_sn (by decide)]; exact h14)
    have hFN2 : FN N N2 := FN_R (FR_t (FR_0 FR_r (Or.inl rfl)) r5)
    have hN21 : N2 1 = N 1 := by rw [r5.1 1 (by decide) (by decide), ms_n (by decide)]
    obtain ⟨D1, D2⟩ := d_line (N := N2) (B := B) (by omega) hT hil w2 (by rw [hFX _ (by omega)]; exact w5) (fun j v h => by rw [hFX _ (by omega)]; exact w6 j v h) r4
    obtain ⟨r, I2, J2, np2, nt2, q1, q2, q3, q4, q5, q6, q7⟩ := D1 np nt hM (by rw [hN21]; exact hR)
    have q8 := D2 _ q1
    have hFI : FX M0 I2 := FX_t hFX (fun k c => q8.1 k c)
    have hFJ : FN N0 J2 := FN_t hFN (FN_t hFN2 (FN_J q7))
    have hlineN : f_X9_script_l41 K' (m2 + 1 + 1) N (nI i) 1 = if r < 0 then f_X9_script_l41 K' (m2 + 1) J2 (nI (i + 1)) 0 else f_X9_script_l41 K' (m2 + 1) J2 (nI (i + 1)) 1 := by
      rw [f_X9_script_l41, if_neg one0, h8, h13, if_neg (nI_ge hsn (by omega))]
      rcases hsl with ⟨c1, c2⟩ | ⟨c1, c2⟩
      · rw [if_pos (show nI i ≤ 0 by rw [c2]; decide), zlet_s, a0, ← c1, r1, zb_s]
        dsimp only
        rw [q2, zb_s]
        dsimp only
        rw [nI_1]
      · rw [if_neg (show ¬ nI i ≤ 0 from fun h => absurd ((nI_leI (b := 0) (by omega) (by omega)).mp h) (by omega)), zlet_s, nI_1 spot, ← c1, r1, zb_s]
        dsimp only
        rw [q2, zb_s]
        dsimp only
        rw [nI_1]
    rw [hlineN, f_X8_script_l44, sp_size hT, zb_s, if_neg (nI_ge hil (by omega)), q1, zb_s]
    dsimp only
    by_cases cr : r < 0
    · right
      rw [if_pos cr, if_neg (Int32.not_le.mpr cr)]
      obtain ⟨M3, s1, s2, s3, s4⟩ := sp_copyO (a := 1) (b := 219) (by omega) (RO_c hR0 (fun k c1 c2 => hFI k (by omega)) (fun _ _ _ => rfl)) q5
      rw [s1, zb_s, f_X9_script_l41, if_pos rfl]
      exact ⟨i, M3, J2, rfl, rfl, s2, s3, fun k c => (s4 k (by omega)).trans (hFI k c), hFJ⟩
    · rw [if_neg cr, if_pos (Int32.not_lt.mp cr), nI_1]
      have e13 : J2 0 13 = nI l.2.1 := by rw [q7.2 13 (by decide)]; exact r2
      have e14 : J2 0 14 = -1 := by rw [q7.2 14 (by decide)]; exact r3
      rcases ih (i + 1) l.2.1 m1 (m2 + 1) I2 J2 np2 nt2 (B + 2) (by omega) (by omega) (by omega) (fun h => absurd h (by omega)) (fun k l' hk hl' => by
        have e : k = i := by omega
        rw [e] at hl'
        rw [Option.some.inj (hg.symm.trans hl')]) (by omega) q6 (by omega) (by omega) q5 hFI hFJ e13 e14 with ⟨M2, N3, np3, nt3, t1, t2, t3, t4, t5, t6, t7, t8⟩ | ⟨j, M3, N3, t1, t2, t3, t4, t5, t6⟩
      · left
        exact ⟨M2, N3, np3, nt3, t1, t2, by rw [show B + 2 * (d + 1) = B + 2 + 2 * d by omega]; exact t3, t4, t5, t6, t7, t8⟩
      · right
        exact ⟨j, M3, N3, t1, t2, t3, t4, t5, t6⟩
theorem PV_m {I J : zM} {B B2 : Nat} (h : PV B I J) (hB : B ≤ B2) : PV B2 I J := by
  obtain ⟨np, nt, hR, hH, m1, m2, m3, hT, hI, b1, b2⟩ := h
  exact ⟨np, nt, RO_m hR hB, hH, m1, m2, m3, hT, IM_c hI hB rfl rfl (fun _ _ _ => rfl) rfl, b1, b2⟩
theorem d_script {I J : zM} {B : Nat} (hB : B + 63 ≤ 2 ^ 20) : St B (B + 62) I J (f_X8_script I) (f_X9_script J) := by
  have hz := zFu_big
  intro hV
  obtain ⟨np, nt, hR, hH, m1, m2, m3, ⟨n, t1, t2, t3⟩, hI, b1, b2⟩ := hV
  have hn : n ≤ 120 := t1.2.2.2.1
  have hTI : TI I (fun i => (I 333 i).toNatClampNeg) n := ⟨t1, fun i hi => by
    obtain ⟨b, c1, c2, c3⟩ := t3 i hi
    show I 333 i = nI (I 333 i).toNatClampNeg
    rw [c2, nI_clamp (by omega)], fun i hi => by
    obtain ⟨b, c1, c2, c3⟩ := t3 i hi
    show (I 333 i).toNatClampNeg ≤ 255
    rw [c2, nI_clamp (by omega)]
    exact c1⟩
  have hTJ : TJ J (fun i => (I 333 i).toNatClampNeg) n := ⟨hn, t2, fun i hi => by
    obtain ⟨b, c1, c2, c3⟩ := t3 i hi
    show J 6 i = nI (I 333 i).toNatClampNeg
    rw [c2, nI_clamp (by omega)]
    exact c3, hTI.2.2⟩
  generalize (fun i => (I 333 i).toNatClampNeg) = T at hTI hTJ
  have h0 : ∀ M : zM, M 332 = I 332 → TB (ms M 332 3 (nI 0)) 332 120 1 0 := fun M hM => by
    obtain ⟨u0, u1, u2, u3, u4⟩ := TB_c t1 hM
    refine ⟨?_, ?_, ms_ss _ _ _ _, by omega, u4⟩
    · rw [ms_sn (by decide)]
      exact u0
    · rw [ms_sn (by decide)]
      exact u1
  unfold f_X8_script f_X9_script
  rcases pr_text hTI b2 with ⟨f, M2, a1, a2, a3, a4, a5, a6⟩ | ⟨M2, X, a1, a2, a3, a4, a5⟩
  · obtain ⟨J2, j1, j2, j3⟩ := a6 J hTJ
    rw [a1, zb_s]
    dsimp only
    rw [sp_clear, zb_s, if_pos rfl, j1, zb_s]
    dsimp only
    rw [if_pos rfl, zlet_s]
    have kI : ∀ k, k ≠ 332 → k ≠ 334 → k ≠ 335 → k ≠ 336 → ms M2 332 3 (nI 0) k = I k := fun k c1 c2 c3 c4 => by rw [ms_n c1, a5 k c2 c3 c4]
    have kJ : ∀ a, a ≠ 0 → a ≠ 17 → ms J2 0 8 0 a = J a := fun a c1 c2 => by rw [ms_n c1, j3.1 a c1 c2]
    refine ⟨-1000 - nI f, ms M2 332 3 (nI 0), ms J2 0 8 0, ?_, ?_, np, nt, ?_, ?_, ?_, ?_, ?_, ?_, ?_, ?_, ?_⟩
    · rw [ms_n (by decide), a2]
    · rw [ms_sn (by decide), j2]
    · exact RO_c (RO_m hR (by omega)) (fun k c1 c2 => kI k (by omega) (by omega) (by omega) (by omega)) (fun k c1 c2 => by rw [kJ 1 (by decide) (by decide)])
    · exact HS_c hH (Nat.le_refl _) (Nat.le_refl _) (fun k c1 c2 => kI k (by omega) (by omega) (by omega) (by omega)) (fun a c1 c2 => kJ a (by omega) (by omega))
    · exact MT_c m1 (fun k c1 c2 => kI k (by omega) (by omega) (by omega) (by omega))
    · exact MT_c m2 (fun k c1 c2 => kI k (by omega) (by omega) (by omega) (by omega))
    · exact MT_c m3 (fun k c1 c2 => kI k (by omega) (by omega) (by omega) (by omega))
    · exact ⟨0, h0 M2 (a5 _ (by decide) (by decide) (by decide)), by rw [ms_ss]; rfl, fun i hi => absurd hi (by omega)⟩
    · exact IM_c hI (by omega) (by rw [kI 0 (by decide) (by decide) (by decide) (by decide)]) (by rw [ms_sn (by decide), j3.2 4 (by decide) (by decide)]) (fun k c1 c2 => kI k (by omega) (by omega) (by omega) (by omega)) (kJ 4 (by decide) (by decide))
    · exact TM_c b1 (kI _ (by decide) (by decide) (by decide) (by decide))
    · exact TM_c a4 (by rw [ms_n (by decide)])
  · obtain ⟨J2, j1, j2, j3⟩ := a5 J hTJ
    have hlen : X.length ≤ 31 := a2.1.2.2.2.1
    rw [a1, zb_s]
    dsimp only
    rw [sp_clear, zb_s, if_neg one0, j1, zb_s]
    dsimp only
    rw [if_neg one0, sp_take (by decide), zb_s, zlet_s]
    have kI : ∀ k, k ≠ 332 → k ≠ 334 → k ≠ 335 → k ≠ 336 → ms M2 332 3 (nI 0) k = I k := fun k c1 c2 c3 c4 => by rw [ms_n c1, a4 k c2 c3 c4]
    have hT0 := h0 M2 (a4 _ (by decide) (by decide) (by decide))
    have hRow3 : Rows (ms M2 332 3 (nI 0)) T n X := ⟨TB_c a2.1 (by rw [ms_n (by decide)]), fun i l hl => RowOk_c (a2.2 i l hl) (fun k _ => by rw [ms_n (by decide)])⟩
    generalize ms M2 332 3 (nI 0) = M3 at *
    have hR3 : RO M3 1 (J 1) np nt B := RO_c hR (fun k c1 c2 => kI k (by omega) (by omega) (by omega) (by omega)) (fun _ _ _ => rfl)
    obtain ⟨M4, c1, c2, c3, c4⟩ := sp_copyO (a := 219) (b := 1) (by omega) hR3 (MT_c m3 (fun k c1 c2 => kI k (by omega) (by omega) (by omega) (by omega)))
    rw [c1, zb_s]
    have kJ : ∀ a, a ≠ 0 → a ≠ 3 → a ≠ 17 → ms (cp J2 3 1 0 1087) 0 13 0 a = J a := fun a d1 d2 d3 => by rw [ms_n d1, cp_n d2, j3.1 a d1 d3]
    have kJ0 : ∀ s, s ≠ 13 → s ≠ 14 → ms (cp J2 3 1 0 1087) 0 13 0 0 s = J 0 s := fun s d1 d2 => by rw [ms_sn d1, cp_n (by decide), j3.2 s d1 d2]
    have kJ3 : ∀ k, k < 1087 → ms (cp J2 3 1 0 1087) 0 13 0 3 k = J 1 k := fun k hk => by rw [ms_n (by decide), cp_s, if_pos (by omega), j3.1 1 (by decide) (by decide)]
    have k13 : ms (cp J2 3 1 0 1087) 0 13 0 0 13 = nI 0 := ms_ss _ _ _ _
    have k14 : ms (cp J2 3 1 0 1087) 0 13 0 0 14 = -1 := by rw [ms_sn (by decide), cp_n (by decide)]; exact j2
    generalize ms (cp J2 3 1 0 1087) 0 13 0 = N4 at *
    have kM : ∀ k, k ≠ 332 → k ≠ 334 → k ≠ 335 → k ≠ 336 → (k < 219 ∨ 328 ≤ k) → M4 k = I k := fun k d1 d2 d3 d4 d5 => (c4 k (by omega)).trans (kI k d1 d2 d3 d4)
    have hR4 : RO M4 1 (N4 1) np nt B := RO_c hR (fun k d1 d2 => kM k (by omega) (by omega) (by omega) (by omega) (by omega)) (fun k d1 d2 => by rw [kJ 1 (by decide) (by decide) (by decide)])
    have hR0 : RO M4 219 (N4 3) np nt B := RO_c c2 (fun _ _ _ => rfl) (fun k d1 d2 => kJ3 k (by omega))
    have hTJ4 : TJ N4 T n := TJ_c hTJ (kJ0 8 (by decide) (by decide)) (kJ 6 (by decide) (by decide) (by decide))
    have hRow4 : Rows M4 T n X := ⟨TB_c hRow3.1 (c4 _ (by omega)), fun i l hl => RowOk_c (hRow3.2 i l hl) (fun k _ => by rw [c4 _ (by omega)])⟩
    have hT4 : TB M4 332 120 1 0 := TB_c hT0 (c4 _ (by omega))
    have fin : ∀ (Mr Nr : zM) (np2 nt2 : Nat), RO Mr 1 (Nr 1) np2 nt2 (B + 62) → np ≤ np2 → nt ≤ nt2 → MT Mr 1 → FX M4 Mr → (∀ a, a ≠ 0 → a ≠ 1 → a ≠ 2 → a ≠ 5 → a ≠ 17 → Nr a = N4 a) → Nr 0 8 = 0 → Nr 0 4 = N4 0 4 → PV (B + 62) Mr Nr := by
      intro Mr Nr np2 nt2 g1 g2 g3 g4 g5 g6 g7 g8
      have kR : ∀ k, k ≠ 332 → k ≠ 334 → k ≠ 335 → k ≠ 336 → (k < 1 ∨ 110 ≤ k) → (k < 219 ∨ 328 ≤ k) → Mr k = I k := fun k d1 d2 d3 d4 d5 d6 => (g5 k d5).trans (kM k d1 d2 d3 d4 d6)
      have kN : ∀ a, a ≠ 0 → a ≠ 1 → a ≠ 2 → a ≠ 3 → a ≠ 5 → a ≠ 17 → Nr a = J a := fun a d1 d2 d3 d4 d5 d6 => (g6 a d1 d2 d3 d5 d6).trans (kJ a d1 d4 d6)
      refine ⟨np2, nt2, g1, ?_, g4, ?_, ?_, ?_, ?_, ?_, ?_⟩
      · exact HS_c hH g2 g3 (fun k d1 d2 => kR k (by omega) (by omega) (by omega) (by omega) (by omega) (by omega)) (fun a d1 d2 => kN a (by omega) (by omega) (by omega) (by omega) (by omega) (by omega))
      · exact MT_c m2 (fun k d1 d2 => kR k (by omega) (by omega) (by omega) (by omega) (by omega) (by omega))
      · exact MT_c c3 (fun k d1 d2 => g5 k (by omega))
      · exact ⟨0, TB_c hT4 (g5 _ (by omega)), by rw [g7]; rfl, fun i hi => absurd hi (by omega)⟩
      · exact IM_c hI (by omega) (by rw [kR 0 (by decide) (by decide) (by decide) (by decide) (by omega) (by omega)]) (by rw [g8, kJ0 4 (by decide) (by decide)]) (fun k d1 d2 => kR k (by omega) (by omega) (by omega) (by omega) (by omega) (by omega)) (kN 4 (by decide) (by decide) (by decide) (by decide) (by decide) (by decide))
      · exact TM_c b1 (kR _ (by decide) (by decide) (by decide) (by decide) (by omega) (by omega))
      · exact TM_c hRow4.1.m (g5 _ (by omega))
    rcases l_exec hRow4 a3 hR0 hTJ4 (fun M10 => zb (f_X4_size M10 335) (fun q11 => some (q11, M10))) (fun M16 z17 z18 => f_X9_script_j97 M16 z17 z18) X.length 0 0 zFu zFu M4 N4 np nt B (by omega) (by omega) (by omega) (fun _ => rfl) (fun k l h => absurd h (by omega)) (by omega) hR4 (Nat.le_refl _) (Nat.le_refl _) (MT_c m1 (fun k d1 d2 => kM k (by omega) (by omega) (by omega) (by omega) (by omega))) (fun _ _ => rfl) ⟨fun _ _ _ _ _ _ => rfl, fun _ _ _ _ => rfl⟩ k13 k14 with ⟨Mr, Nr, np2, nt2, r1, r2, r3, r4, r5, r6, r7, r8⟩ | ⟨j, Mr, Nr, r1, r2, r3, r4, r5, r6⟩
    · have r1 : f_X8_script_l44 (fun M10 => zb (f_X4_size M10 335) (fun q11 => some (q11, M10))) zFu M4 0 = _ := r1
      have r2 : f_X9_script_l41 (fun M16 z17 z18 => f_X9_script_j97 M16 z17 z18) zFu N4 0 1 = _ := r2
      have hs : TB Mr 335 31 5 X.length := TB_c hRow4.1 (r7 _ (by omega))
      rw [r1, r2, sp_size hs, zb_s]
      unfold f_X9_script_j97
      rw [zlet_s, if_neg one0]
      refine ⟨_, Mr, _, rfl, rfl, fin Mr _ np2 nt2 ?_ r4 r5 r6 r7 (fun a d1 d2 d3 d4 d5 => by rw [ms_n d1, r8.1 a d1 d2 d3 d4 d5]) (ms_ss _ _ _ _) (by rw [ms_sn (by decide), r8.2 4 (by decide) (by decide) (by decide)])⟩
      rw [ms_n (by decide)]
      exact RO_m r3 (by omega)
    · have r1 : f_X8_script_l44 (fun M10 => zb (f_X4_size M10 335) (fun q11 => some (q11, M10))) zFu M4 0 = _ := r1
      have r2 : f_X9_script_l41 (fun M16 z17 z18 => f_X9_script_j97 M16 z17 z18) zFu N4 0 1 = _ := r2
      rw [r1, r2]
      unfold f_X9_script_j97
      rw [zlet_s, if_pos rfl, sp_take (by decide), zb_s, nI_pred]
      refine ⟨_, Mr, _, rfl, rfl, fin Mr _ np nt ?_ (Nat.le_refl _) (Nat.le_refl _) r4 r5 (fun a d1 d2 d3 d4 d5 => by rw [cp_n d2, ms_n d1, r6.1 a d1 d2 d3 d4 d5]) (by rw [cp_n (by decide), ms_ss]) (by rw [cp_n (by decide), ms_sn (by decide), r6.2 4 (by decide) (by decide) (by decide)])⟩
      exact RO_c (RO_m r3 (by omega)) (fun _ _ _ => rfl) (fun k d1 d2 => by rw [cp_s, if_pos (by omega), ms_n (by decide), r6.1 3 (by decide) (by decide) (by decide) (by decide) (by decide)])
