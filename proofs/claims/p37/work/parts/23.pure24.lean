/-! PURE 24: returned -/
theorem upd_same {A : Nat → Int32} {k : Nat} {v : Int32} (h : A k = v) : upd A k v = A := by
  funext i
  rw [upd_at]
  by_cases c : i = k
  · rw [if_pos c, c, h]
  · rw [if_neg c]
-- the link ends, the tool is at the office again
theorem RO_home {I J : zM} {o np nt B t p : Nat} (hM : MT I o) (hR : RO I o (J 1) np nt B) (ht : t < nt) (hp : p < np) (hh : I (o + 39 + 7 * t) 2 = nI p) : ∃ M1 M N, f_X7_endLink I (o + 39 + 7 * t) (I o 7) = some M1 ∧ f_X7_stayAtOffice M1 (o + 39 + 7 * t) = some M ∧ f_X9_ends (ms J 1 (180 + t * 90 + 5) 0) (nI t) = some N ∧ MT M o ∧ RO M o (N 1) np nt B ∧ FJ J N := by
  have hnp := hR.1.1
  have hnt := hR.1.2.1
  have hday := RO_dayE hR
  obtain ⟨e, n, m, L, S, ⟨a1, a2, a3, a4, a5, a6, a7, a8⟩, hl, hk, hc⟩ := hR.2.2 t ht
  have hn8 : n ≤ 8 := hl.1.2.2.2.1
  have hn1 : 1 ≤ n := by
    rcases a3 with ⟨b1, -⟩ | ⟨p', d', -, -, -, -, -, -, -, h⟩
    · rw [hh] at b1
      exact absurd (show nI p < 0 by rw [b1]; decide) (nI_pos (by omega))
    · exact h
  have h6 : ms J 1 (180 + t * 90 + 5) 0 1 (180 + t * 90 + 6) = nI n := by rw [ms_sn (by omega)]; exact hl.2.1
  have h82 : ms J 1 (180 + t * 90 + 5) 0 1 1082 = I o 7 := by rw [ms_sn (by omega), hday]
  have eL := sp_endLink hl.1 hn1 (I o 7)
  have rE := sp_ends (J := ms J 1 (180 + t * 90 + 5) 0) (t := t) (by omega) hn1 hn8 h6
  rw [h82] at rE
  have hl2 := RTl_set2 (v := I o 7) hl hn1
  refine ⟨_, _, _, eL, rfl, rE, ?_, ?_, ?_⟩
  · exact MT_t (MT_t (MT_t (MT_t (MT_ms hM (Or.inr ⟨fun u hu => by omega, by omega⟩)) (by omega)) (by omega)) (by omega)) (by omega)
  · generalize hF : ms (ms (ms (ms (ms I (o + 39 + 7 * t + 1 + 1) ((n - 1) * 3 + 2) (I o 7)) (o + 39 + 7 * t) 2 (-2)) (o + 39 + 7 * t) 3 (-2)) (o + 39 + 7 * t) 4 (-2)) (o + 39 + 7 * t) 5 0 = F
    generalize hG : ms (ms (ms J 1 (180 + t * 90 + 5) 0) 1 (180 + t * 90 + (8 + 3 * (n - 1) + 2)) (I o 7)) 1 (180 + t * 90 + 2) (-1) = G
    have kF : ∀ k, k ≠ o + 39 + 7 * t → k ≠ o + 39 + 7 * t + 1 + 1 → F k = I k := fun k h1 h2 => by rw [← hF, ms_n h1, ms_n h1, ms_n h1, ms_n h1, ms_n h2]
    have kF2 : F (o + 39 + 7 * t + 1 + 1) = ms I (o + 39 + 7 * t + 1 + 1) ((n - 1) * 3 + 2) (I o 7) (o + 39 + 7 * t + 1 + 1) := by rw [← hF, ms_n (by omega), ms_n (by omega), ms_n (by omega), ms_n (by omega)]
    have sF : F (o + 39 + 7 * t) 0 = I (o + 39 + 7 * t) 0 ∧ F (o + 39 + 7 * t) 1 = I (o + 39 + 7 * t) 1 ∧ F (o + 39 + 7 * t) 2 = -2 ∧ F (o + 39 + 7 * t) 3 = -2 ∧ F (o + 39 + 7 * t) 4 = -2 ∧ F (o + 39 + 7 * t) 5 = 0 ∧ F (o + 39 + 7 * t) 6 = I (o + 39 + 7 * t) 6 := by
      rw [← hF]
      refine ⟨?_, ?_, ?_, ?_, ?_, ?_, ?_⟩ <;> simp (disch := omega) only [ms_n, ms_ss, ms_sn]
    have kG : ∀ k, k ≠ 180 + t * 90 + 5 → k ≠ 180 + t * 90 + (8 + 3 * (n - 1) + 2) → k ≠ 180 + t * 90 + 2 → G 1 k = J 1 k := fun k h1 h2 h3 => by rw [← hG, ms_sn h3, ms_sn h2, ms_sn h1]
    have kG2 : G 1 (180 + t * 90 + 2) = -1 := by rw [← hG, ms_ss]
    have kG5 : G 1 (180 + t * 90 + 5) = 0 := by rw [← hG, ms_sn (by omega), ms_sn (by omega), ms_ss]
    refine RO_t (t := t) hR (fun k a b => kF k (by omega) (by omega)) (fun k a b => kF k (by omega) (by omega)) (fun k a b => kG k (by omega) (by omega) (by omega)) (fun k a b => kG k (by omega) (by omega) (by omega)) ht ?_
    refine ⟨e, n, m, L, S, ⟨⟨?_, ?_⟩, ⟨?_, ?_⟩, Or.inl ⟨sF.2.2.1, kG2, sF.2.2.2.1, sF.2.2.2.2.1, kG5⟩, ⟨?_, 0, by decide, kG5⟩, ?_, ?_, a7, a8⟩, RTl_c hl2 (by rw [kF _ (by omega) (by omega), ms_n (by omega)]) kF2 (by rw [kG _ (by omega) (by omega) (by omega), upd_at, if_neg (by omega)]) (fun k h1 h2 => ?_), RTk_c hk (kF _ (by omega) (by omega)) (kF _ (by omega) (by omega)) (fun k h1 h2 => kG k (by omega) (by omega) (by omega)), RTc_c hc (kF _ (by omega) (by omega)) (kF _ (by omega) (by omega)) (fun k h1 h2 => kG k (by omega) (by omega) (by omega))⟩
    · rw [sF.1, kG _ (by omega) (by omega) (by omega)]
      exact a1.1
    · rw [kG _ (by omega) (by omega) (by omega)]
      exact a1.2
    · rw [sF.2.1, kG _ (by omega) (by omega) (by omega)]
      exact a2.1
    · rw [kG _ (by omega) (by omega) (by omega)]
      exact a2.2
    · rw [sF.2.2.2.2.2.1, kG5]
    · rw [sF.2.2.2.2.2.2]
      exact a5
    · rw [kG _ (by omega) (by omega) (by omega)]
      exact a6
    · rw [← hG, ms_sn (by omega), ms_at, upd_at]
      by_cases c : k = 180 + t * 90 + (8 + 3 * (n - 1) + 2)
      · rw [if_pos c, if_pos c]
      · rw [if_neg c, if_neg c, ms_sn (by omega)]
  · exact FJ_g (FJ_g (FJ_g FJ_r))
theorem pr_late {I J : zM} {o np nt B t : Nat} (hB : B ≤ 2 ^ 20) (hR : RO I o (J 1) np nt B) {d : Nat} (hd : d ≤ 99 * B + 30) (hl : f_X7_isLeased I (o + 39 + 7 * t) = some 1) (hdue : I (o + 39 + 7 * t) 4 = nI d) : ∃ a x, J 1 1082 = nI a ∧ a ≤ 99 * B ∧ f_X7_daysLateOn I (o + 39 + 7 * t) (I o 7) = some x ∧ (x ≤ 0 ↔ a ≤ d) := by
  obtain ⟨a, ha, a1, a2⟩ := hR.1.2.2.2.2.2.2.1
  unfold f_X7_daysLateOn
  rw [hl, zb_s, if_neg one0, hdue, a1, zlet_s]
  by_cases c : a < d
  · have hs : nI a - nI d < 0 := pk_sneg (by omega) c
    rw [if_pos hs]
    exact ⟨a, 0, a2, ha, rfl, iff_of_true (by decide) (by omega)⟩
  · rw [pk_sub (by omega), if_neg (nI_pos (by omega))]
    refine ⟨a, _, a2, ha, rfl, ?_⟩
    rw [show nI (a - d) ≤ 0 ↔ a - d ≤ 0 from nI_leI (b := 0) (by omega) (by decide)]
    omega
theorem d_returned {I J : zM} {o B : Nat} (hB : B ≤ 2 ^ 20) (t : Int32) : Deed I J o B (f_X2_giveBack I o t) (f_X9_returned J t) := by
  intro np nt hM hR
  obtain ⟨c1, c2, c3, c4, c5, c6, -⟩ := hR.1
  unfold f_X2_giveBack f_X9_returned
  rcases pr_isTool c5 c6 c2 t with ⟨e1, e2⟩ | ⟨u, hu, rfl, e1, e2⟩
  · rw [e1, e2]
    exact dd_same hM hR (-1) rfl rfl
  · rw [e1, e2, zb_s, zb_s, if_neg one0, if_neg one0, sp_toolAt I o (by omega), zb_s]
    rcases RO_out hR hu with ⟨b1, b2, -, -, -, b6, b7⟩ | ⟨p, d0, b0, -, b1, b2, -, -, -, b6, b7⟩
    · rw [b6, b7, zb_s, zb_s, if_pos rfl, if_pos rfl]
      exact dd_same hM hR (-5) rfl rfl
    · rw [b6, b7, zb_s, zb_s, if_neg one0, if_neg one0]
      obtain ⟨r, I1, J1, l1, l2, hM1, hR1, hfj, hT, -⟩ := pr_looks hB hM hR hu
      rw [l1, l2, zb_s, zb_s]
      dsimp only
      have h1 : I1 (o + 39 + 7 * u) 2 = nI p := by rw [hT, b1]
      rcases RO_out hR1 hu with ⟨x1, -⟩ | ⟨p', d, y0, y1, y2, y3, -, y4, y5, y6, y7⟩
      · exact absurd (show nI p < 0 by rw [← h1, x1]; decide) (nI_pos (by omega))
      · have hpp : p' = p := (nI_eq (by omega) (by omega)).mp (y2.symm.trans h1)
        subst hpp
        have hday := RO_dayE hR1
        obtain ⟨w, x, g, w1, w2, xx, g1, z1, z2, z3, z4, z5, z6⟩ := RO_num hR1 hu
        obtain ⟨fee, f1, f2⟩ := pr_fee hR1 hu (I1 o 7) y6 (y4.trans y5.symm)
        have q2 : f_X9_t J1 (nI u) 2 = some (nI p') := by rw [← y3]; exact sp_t J1 (t := u) (f := 2) (by omega)
        have q4 : f_X9_t J1 (nI u) 4 = some (nI d) := by rw [← y5]; exact sp_t J1 (t := u) (f := 4) (by omega)
        have htill := hR1.1.2.2.2.2.2.2.2.1
        have hp1 := (hR1.2.1 p' b0).1 1 (by decide)
        have hp2 := (hR1.2.1 p' b0).1 2 (by decide)
        have hp3 := (hR1.2.1 p' b0).1 3 (by decide)
        obtain ⟨k, hk, hk2⟩ := (hR1.2.1 p' b0).2.2.2
        have hR2 := RO_till (v := I1 o 8 + fee) hR1
        have hR3 := RO_setP (v := I1 (o + 15 + 2 * p') 1 + (nI g - fee)) hR2 b0 (f := 1) (by decide) (by decide)
        have hM3 := MT_p (q := p') (j := 1) (v := I1 (o + 15 + 2 * p') 1 + (nI g - fee)) (MT_o (j := 8) (v := I1 o 8 + fee) hM1) (by omega)
        generalize hI3 : ms (ms I1 o 8 (I1 o 8 + fee)) (o + 15 + 2 * p') 1 (I1 (o + 15 + 2 * p') 1 + (nI g - fee)) = I3 at hR3 hM3
        generalize hJ3 : ms (ms J1 1 1083 (I1 o 8 + fee)) 1 (p' * 15 + 1) (I1 (o + 15 + 2 * p') 1 + (nI g - fee)) = J3
        have hJ3' : J3 1 = upd (upd (J1 1) 1083 (I1 o 8 + fee)) (p' * 15 + 1) (I1 (o + 15 + 2 * p') 1 + (nI g - fee)) := by rw [← hJ3, ms_s, ms_s]
        rw [← hJ3'] at hR3
        have fj3 : FJ J J3 := by
          rw [← hJ3]
          exact FJ_g (FJ_g hfj)
        have i3T : I3 (o + 39 + 7 * u) = I1 (o + 39 + 7 * u) := by rw [← hI3, ms_n (by omega), ms_n (by omega)]
        have l3 : f_X7_isLeased I3 (o + 39 + 7 * u) = some 1 := by
          unfold f_X7_isLeased at y6 ⊢
          rw [i3T]
          exact y6
        obtain ⟨a, xl, a1, a2, a3, a4⟩ := pr_late hB hR3 (t := u) y1 l3 (by rw [i3T, y4])
        have a1' : J1 1 1082 = nI a := by rw [← a1, ← hJ3, ms_sn (by omega), ms_sn (by omega)]
        have assoc : ∀ a b c : Int32, a + b - c = a + (b - c) := fun a b c => by rw [Int32.sub_eq_add_neg, Int32.add_assoc, ← Int32.sub_eq_add_neg]
        -- the end of both, from memories that agree
        have fin : ∀ I4 J4 : zM, MT I4 o → RO I4 o (J4 1) np nt B → FJ J J4 → I4 (o + 39 + 7 * u) 2 = nI p' → ∃ r I2 J2 np2 nt2, f_X2_giveBack_j112 I4 o (o + 39 + 7 * u) fee = some (r, I2) ∧ (zb (f_X9_setT J4 (nI u) 5 0) (fun q21 => zb (f_X9_ends q21 (nI u)) (fun q22 => zb (f_X9_offered q22 (nI u)) (fun q23 => some (fee, q23))))) = some (r, J2) ∧ np ≤ np2 ∧ nt ≤ nt2 ∧ MT I2 o ∧ RO I2 o (J2 1) np2 nt2 (B + 1) ∧ FJ J J2 := by
          intro I4 J4 m4 r4 fj4 hh4
          obtain ⟨M1, M, N, s1, s2, s3, s4, s5, s6⟩ := RO_home m4 r4 hu b0 hh4
          obtain ⟨M2, N2, o1, o2, o3, o4, o5⟩ := pr_offer hB s4 s5 hu
          have w5 : f_X9_setT J4 (nI u) 5 0 = some (ms J4 1 (180 + u * 90 + 5) 0) := sp_setT J4 (t := u) (f := 5) (by omega) 0
          unfold f_X2_giveBack_j112
          rw [s1, zb_s, s2, zb_s, o1, zb_s, w5, zb_s, s3, zb_s, o2, zb_s]
          exact ⟨fee, M2, N2, np, nt, rfl, rfl, Nat.le_refl _, Nat.le_refl _, o3, o4, FJ_t fj4 (FJ_t s6 o5)⟩
        -- the class
        have hI31 : I3 (o + 15 + 2 * p') 2 = nI k := by rw [← hI3, ms_sn (by decide), ms_n (by omega), hp2, hk2]
        have hI33 : I3 (o + 15 + 2 * p') 3 = I1 (o + 15 + 2 * p') 3 := by rw [← hI3, ms_sn (by decide), ms_n (by omega)]
        have hJ33 : J3 1 (p' * 15 + 3) = I1 (o + 15 + 2 * p') 3 := by rw [← hJ3, ms_sn (by omega), ms_sn (by omega), hp3]
        have hJ32 : J3 1 (p' * 15 + 2) = nI k := by rw [← hJ3, ms_sn (by omega), ms_sn (by omega), hk2]
        have g8 : ms I1 o 8 (I1 o 8 + fee) (o + 15 + 2 * p') 1 = I1 (o + 15 + 2 * p') 1 := by rw [ms_n (by omega)]
        have g5 : ms I1 o 8 (I1 o 8 + fee) (o + 39 + 7 * u) 5 = nI g := by rw [ms_n (by omega), z5]
        rw [h1, sp_personAt I1 o (by omega), zb_s, f1, zb_s, zlet_s, g8, g5, zlet_s, hI3, a3, zb_s]
        -- the reference
        have r1 : f_X9_p (ms J1 1 1083 (I1 o 8 + fee)) (nI p') 1 = some (I1 (o + 15 + 2 * p') 1) := by
          rw [show f_X9_p (ms J1 1 1083 (I1 o 8 + fee)) (nI p') 1 = some (ms J1 1 1083 (I1 o 8 + fee) 1 (p' * 15 + 1)) from sp_p _ (q := p') (f := 1) (by omega), ms_sn (by omega), hp1]
        have r5 : f_X9_t (ms J1 1 1083 (I1 o 8 + fee)) (nI u) 5 = some (nI g) := by
          rw [show f_X9_t (ms J1 1 1083 (I1 o 8 + fee)) (nI u) 5 = some (ms J1 1 1083 (I1 o 8 + fee) 1 (180 + u * 90 + 5)) from sp_t _ (t := u) (f := 5) (by omega), ms_sn (by omega), z6]
        have rs1 : f_X9_setP (ms J1 1 1083 (I1 o 8 + fee)) (nI p') 1 (I1 (o + 15 + 2 * p') 1 + (nI g - fee)) = some J3 := by rw [← hJ3]; exact sp_setP _ (q := p') (f := 1) (by omega) _
        have r3 : f_X9_p J3 (nI p') 3 = some (I1 (o + 15 + 2 * p') 3) := by rw [← hJ33]; exact sp_p J3 (q := p') (f := 3) (by omega)
        have rs3 : ∀ v, f_X9_setP J3 (nI p') 3 v = some (ms J3 1 (p' * 15 + 3) v) := fun v => sp_setP J3 (q := p') (f := 3) (by omega) v
        have r2 : ∀ v, f_X9_p (ms J3 1 (p' * 15 + 3) v) (nI p') 2 = some (nI k) := fun v => by
          rw [show f_X9_p (ms J3 1 (p' * 15 + 3) v) (nI p') 2 = some (ms J3 1 (p' * 15 + 3) v 1 (p' * 15 + 2)) from sp_p _ (q := p') (f := 2) (by omega), ms_sn (by omega), hJ32]
        have rs2 : ∀ N : zM, ∀ v, f_X9_setP N (nI p') 2 v = some (ms N 1 (p' * 15 + 2) v) := fun N v => sp_setP N (q := p') (f := 2) (by omega) v
        have f2' : f_X9_fee J1 (nI u) (J1 1 1082) = some fee := by rw [← hday]; exact f2
        rw [q2, zb_s, f2', zb_s, q4, zb_s]
        unfold f_X9_returned_j70 f_X9_returned_j124 f_X9_returned_j148
        by_cases hlate : a ≤ d
        · rw [if_pos (a4.mpr hlate), if_pos (show J1 1 1082 ≤ nI d by rw [a1']; exact nI_le hlate (by omega)), zlet_s, ← htill, r1, zb_s, r5, zb_s, assoc, rs1, zb_s, r3, zb_s, if_pos rfl, rs3, zb_s, r2, zb_s, if_pos rfl]
          unfold f_X3_gainTrust
          rw [hI31, zlet_s, nI_1]
          obtain ⟨v, hv, v1, v2⟩ : ∃ v, v ≤ 99 ∧ (if (99 : Int32) < nI (k + 1) then (99 : Int32) else nI (k + 1)) = nI v ∧ ∀ N : zM, f_X9_cut N (nI (k + 1)) 0 99 = some (nI v) := by
            unfold f_X9_cut
            by_cases cc : k + 1 ≤ 99
            · exact ⟨k + 1, cc, if_neg (nI_nlt (a := 99) cc (by decide)), fun _ => by rw [if_pos (show (0 : Int32) ≤ nI (k + 1) from nI_pos' (by omega)), if_pos (show nI (k + 1) ≤ 99 from nI_le (b := 99) cc (by decide))]⟩
            · exact ⟨99, Nat.le_refl _, if_pos (nI_lt (a := 99) (by omega) (by omega)), fun _ => by rw [if_pos (show (0 : Int32) ≤ nI (k + 1) from nI_pos' (by omega)), if_neg (show ¬ nI (k + 1) ≤ 99 from nI_ge (a := 99) (by omega) (by omega))]; rfl⟩
          rw [v1, zlet_s, zb_s, v2, zb_s, rs2, zb_s]
          have hu0 : ms J3 1 (p' * 15 + 3) (I1 (o + 15 + 2 * p') 3 + 0) 1 = J3 1 := by
            rw [ms_s]
            refine upd_same ?_
            rw [hJ33, Int32.add_zero]
          refine fin _ _ (MT_p hM3 (by omega)) ?_ (FJ_g (FJ_g fj3)) (by rw [ms_n (by omega), i3T, h1])
          rw [ms_s, hu0]
          exact RO_trust hR3 b0 hv
        · rw [if_neg (fun h => hlate (a4.mp h)), if_neg (show ¬ J1 1 1082 ≤ nI d by rw [a1']; exact nI_ge (by omega) (by omega)), zlet_s, zlet_s, ← htill, r1, zb_s, r5, zb_s, assoc, rs1, zb_s, r3, zb_s, if_neg one0, rs3, zb_s, r2, zb_s, if_neg one0]
          unfold f_X3_loseTrust
          obtain ⟨v, hv, v1, v2⟩ := trust_dn hk (show (0 : Int32) < 5 by decide) J
          have v2' : ∀ N : zM, f_X9_cut N (nI k + -5) 0 99 = some (nI v) := fun N => by
            rw [← Int32.sub_eq_add_neg]
            exact v2
          have hI4 : ms I3 (o + 15 + 2 * p') 3 (I3 (o + 15 + 2 * p') 3 + 1) (o + 15 + 2 * p') 2 = nI k := by rw [ms_sn (by decide), hI31]
          rw [hI4, zlet_s, v1, zlet_s, zb_s, v2', zb_s, rs2, zb_s]
          refine fin _ _ (MT_p (MT_p hM3 (by omega)) (by omega)) ?_ (FJ_g (FJ_g fj3)) (by rw [ms_n (by omega), ms_n (by omega), i3T, h1])
          rw [ms_s, ms_s, hI33]
          exact RO_trust (RO_setP hR3 b0 (f := 3) (by decide) (by decide)) b0 hv
