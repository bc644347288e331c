/-! PURE 11: a tool from one to the other: pass -/
theorem RTl_set2 {I : zM} {T b np n : Nat} {A : Nat → Int32} {v : Int32} (h : RTl I T A b np n) (hn : 1 ≤ n) : RTl (ms I (T + 1 + 1) ((n - 1) * 3 + 2) v) T (upd A (b + (8 + 3 * (n - 1) + 2)) v) b np n := by
  obtain ⟨h1, h2, h3, h4⟩ := h
  refine ⟨TB_c h1 (ms_n (by omega)), by rw [upd_at, if_neg (by omega)]; exact h2, fun i j hi hj => ?_, fun i hi => ?_⟩
  · rw [ms_at, upd_at]
    by_cases c : i * 3 + j = (n - 1) * 3 + 2
    · rw [if_pos c, if_pos (by omega)]
    · rw [if_neg c, if_neg (by omega)]
      exact h3 i j hi hj
  · rw [upd_at, if_neg (by omega)]
    exact h4 i hi
theorem FJ_1 {J N : zM} (h : ∀ a, a ≠ 1 → N a = J a) : FJ J N := ⟨fun a _ c2 _ _ => h a c2, fun s _ => by rw [h 0 (by decide)]⟩
theorem RO_over {I J : zM} {o np nt B t p p0 : Nat} (hB : B ≤ 2 ^ 20) (hM : MT I o) (hR : RO I o (J 1) np nt B) (ht : t < nt) (hp : p < np) (hp0 : p0 < np) (hh : I (o + 39 + 7 * t) 2 = nI p0) : ∃ M N, f_X2_handOver I o (o + 39 + 7 * t) (nI p) = some M ∧ f_X9_passes J (nI t) (nI p) = some N ∧ MT M o ∧ RO M o (N 1) np nt (B + 1) ∧ (∀ a, a ≠ 1 → N a = J a) ∧ M (o + 39 + 7 * t) 2 = nI p ∧ (∀ k, (k < o + 39 + 7 * t ∨ o + 39 + 7 * t + 7 ≤ k) → k ≠ o + 15 + 2 * p → k ≠ o + 15 + 2 * p0 → M k = I k) ∧ (∀ k, (k < 180 + t * 90 ∨ 180 + t * 90 + 90 ≤ k) → k ≠ p * 15 + 1 → k ≠ p0 * 15 + 1 → N 1 k = J 1 k) ∧ (p ≠ p0 → N 1 (p0 * 15 + 1) = J 1 (p0 * 15 + 1) + J 1 (180 + t * 90 + 5)) := by
  have hnp := hR.1.1
  have hnt := hR.1.2.1
  obtain ⟨d, hd, hd1, hd2⟩ := hR.1.2.2.2.2.2.2.1
  obtain ⟨w0, x0, g, w1, w2, x1, g1, z1, z2, z3, z4, z5, z6⟩ := RO_num hR ht
  have hp1 := (hR.2.1 p hp).1 1 (by decide)
  have hR1 := RO_setP (v := I (o + 15 + 2 * p) 1 - nI g) hR hp (f := 1) (by decide) (by decide)
  generalize hw : I (o + 15 + 2 * p) 1 - nI g = w at hR1
  generalize hI1 : ms I (o + 15 + 2 * p) 1 w = I1 at hR1
  generalize hJ1 : ms J 1 (p * 15 + 1) w = J1
  have hJ1' : J1 1 = upd (J 1) (p * 15 + 1) w := by rw [← hJ1, ms_s]
  rw [← hJ1'] at hR1
  have hp2 := (hR1.2.1 p0 hp0).1 1 (by decide)
  have hR2 := RO_setP (v := I1 (o + 15 + 2 * p0) 1 + nI g) hR1 hp0 (f := 1) (by decide) (by decide)
  generalize hw2 : I1 (o + 15 + 2 * p0) 1 + nI g = w2 at hR2
  generalize hI2 : ms I1 (o + 15 + 2 * p0) 1 w2 = I2 at hR2
  generalize hJ2 : ms J1 1 (p0 * 15 + 1) w2 = J2
  have hJ2' : J2 1 = upd (J1 1) (p0 * 15 + 1) w2 := by rw [← hJ2, ms_s]
  rw [← hJ2'] at hR2
  have hM2 : MT I2 o := by rw [← hI2, ← hI1]; exact MT_p (MT_p hM (by omega)) (by omega)
  have k1 : ∀ k, k ≠ o + 15 + 2 * p → I1 k = I k := fun k h => by rw [← hI1, ms_n h]
  have k2 : ∀ k, k ≠ o + 15 + 2 * p → k ≠ o + 15 + 2 * p0 → I2 k = I k := fun k h h2 => by rw [← hI2, ms_n h2, k1 k h]
  have j2 : ∀ k, k ≠ p * 15 + 1 → k ≠ p0 * 15 + 1 → J2 1 k = J 1 k := fun k h h2 => by rw [← hJ2, ms_sn h2, ← hJ1, ms_sn h]
  have jJ : ∀ a, a ≠ 1 → J2 a = J a := fun a ha => by rw [← hJ2, ms_n ha, ← hJ1, ms_n ha]
  obtain ⟨e, n, m, L, S, ha, hl, hk, hc⟩ := hR2.2.2 t ht
  obtain ⟨a1, a2, a3, a4, a5, a6, a7, a8⟩ := ha
  have iT : I2 (o + 39 + 7 * t) = I (o + 39 + 7 * t) := k2 _ (by omega) (by omega)
  have hn8 : n ≤ 8 := hl.1.2.2.2.1
  have hout : ∃ p' d', p' < np ∧ I2 (o + 39 + 7 * t) 2 = nI p' ∧ J2 1 (180 + t * 90 + 2) = nI p' ∧ I2 (o + 39 + 7 * t) 3 = J2 1 (180 + t * 90 + 3) ∧ I2 (o + 39 + 7 * t) 4 = nI d' ∧ J2 1 (180 + t * 90 + 4) = nI d' ∧ d' ≤ 99 * B + 30 ∧ 1 ≤ n := by
    rcases a3 with ⟨b1, -⟩ | h
    · rw [iT, hh] at b1
      exact absurd b1 (fun h => absurd (show nI p0 < 0 by rw [h]; decide) (nI_pos (by omega)))
    · exact h
  obtain ⟨p', d', b0, b1, b2, b3, b4, b5, b6, b7⟩ := hout
  have hpp : p' = p0 := by
    rw [iT, hh] at b1
    exact ((nI_eq (by omega) (by omega)).mp b1).symm
  subst hpp
  -- the class
  have i8 : I2 o 7 = nI d := by rw [k2 _ (by omega) (by omega), hd1]
  have eL := sp_endLink hl.1 b7 (nI d)
  generalize hI3 : ms I2 (o + 39 + 7 * t + 1 + 1) ((n - 1) * 3 + 2) (nI d) = I3 at eL
  have k3 : ∀ k, k ≠ o + 39 + 7 * t + 1 + 1 → I3 k = I2 k := fun k h => by rw [← hI3, ms_n h]
  have hT3 : TB I3 (o + 39 + 7 * t + 1) 8 3 n := TB_c hl.1 (k3 _ (by omega))
  obtain ⟨M, f1, f2, f30, f31, f32, f33, f34, f35, f36, f4, f5⟩ := sp_goTo (e := e) hT3 (nI p) (nI d)
  have i38 : I3 o 7 = nI d := by rw [k3 _ (by omega), i8]
  have hcl : f_X2_handOver I o (o + 39 + 7 * t) (nI p) = some M := by
    unfold f_X2_handOver
    rw [sp_personAt I o (by omega), zb_s, zlet_s, z5, hw, hI1]
    have y1 : I1 (o + 39 + 7 * t) 2 = nI p' := by rw [k1 _ (by omega), hh]
    have y2 : I1 (o + 39 + 7 * t) 5 = nI g := by rw [k1 _ (by omega), z5]
    rw [y1, sp_personAt I1 o (by omega), zb_s, zlet_s, y2, hw2, hI2, i8, eL, zb_s, i38, f1]
    rfl
  -- the reference
  have h6 : J2 1 (180 + t * 90 + 6) = nI n := hl.2.1
  have j82 : J2 1 1082 = nI d := by rw [j2 _ (by omega) (by omega), hd2]
  have rE := sp_ends (J := J2) (t := t) (by omega) b7 hn8 h6
  rw [j82] at rE
  generalize hJ3 : ms (ms J2 1 (180 + t * 90 + (8 + 3 * (n - 1) + 2)) (nI d)) 1 (180 + t * 90 + 2) (-1) = J3 at rE
  have j3 : ∀ k, k ≠ 180 + t * 90 + 2 → k ≠ 180 + t * 90 + (8 + 3 * (n - 1) + 2) → J3 1 k = J2 1 k := fun k h h2 => by rw [← hJ3, ms_sn h, ms_sn h2]
  have jJ3 : ∀ a, a ≠ 1 → J3 a = J a := fun a ha => by rw [← hJ3, ms_n ha, ms_n ha, jJ a ha]
  have h36 : J3 1 (180 + t * 90 + 6) = nI n := by rw [j3 _ (by omega) (by omega), h6]
  obtain ⟨N, g1, g2, g3, g4, g5, g6, g7, g8⟩ := sp_begins (J := J3) (t := t) (by omega) hn8 h36 (nI p)
  have j382 : J3 1 1082 = nI d := by rw [j3 _ (by omega) (by omega), j82]
  rw [j382] at g5 g8
  have hrf : f_X9_passes J (nI t) (nI p) = some N := by
    unfold f_X9_passes
    have q2 : f_X9_t J (nI t) 2 = some (nI p') := by
      rw [show f_X9_t J (nI t) 2 = some (J 1 (180 + t * 90 + 2)) from sp_t J (t := t) (f := 2) (by omega), ← j2 _ (by omega) (by omega), b2]
    have q5 : f_X9_t J (nI t) 5 = some (nI g) := by rw [← z6]; exact sp_t J (t := t) (f := 5) (by omega)
    have qp : f_X9_p J (nI p) 1 = some (I (o + 15 + 2 * p) 1) := by rw [hp1]; exact sp_p J (q := p) (f := 1) (by omega)
    have sp1 : f_X9_setP J (nI p) 1 w = some J1 := by rw [← hJ1]; exact sp_setP J (q := p) (f := 1) (by omega) w
    have q5b : f_X9_t J1 (nI t) 5 = some (nI g) := by
      rw [show f_X9_t J1 (nI t) 5 = some (J1 1 (180 + t * 90 + 5)) from sp_t J1 (t := t) (f := 5) (by omega), ← hJ1, ms_sn (by omega), z6]
    have qp2 : f_X9_p J1 (nI p') 1 = some (I1 (o + 15 + 2 * p') 1) := by rw [hp2]; exact sp_p J1 (q := p') (f := 1) (by omega)
    have sp2 : f_X9_setP J1 (nI p') 1 w2 = some J2 := by rw [← hJ2]; exact sp_setP J1 (q := p') (f := 1) (by omega) w2
    rw [q2, zb_s, qp, zb_s, q5, zb_s, hw, sp1, zb_s, qp2, zb_s, q5b, zb_s, hw2, sp2, zb_s, rE, zb_s, g1, zb_s]
  have hl3 : RTl I3 (o + 39 + 7 * t) (J3 1) (180 + t * 90) np n := by
    have h := RTl_set2 (v := nI d) hl b7
    rw [hI3] at h
    refine RTl_c h rfl rfl ?_ (fun k a b => ?_)
    · rw [← hJ3, ms_sn (by omega), ms_s]
    · rw [← hJ3, ms_sn (by omega), ms_s]
  have hPe := pushN_le1 (n := n) (m := 8)
  have hP1 := pushN_pos (n := n) (m := 8) (by decide)
  have mk : ∀ k, k ≠ o + 39 + 7 * t → k ≠ o + 39 + 7 * t + 1 → k ≠ o + 39 + 7 * t + 1 + 1 → M k = I2 k := fun k h1 h2 h3 => by rw [f2 k h1 h2 h3, k3 k h3]
  have i3T : I3 (o + 39 + 7 * t) = I2 (o + 39 + 7 * t) := k3 _ (by omega)
  have nk : ∀ k, (k < 180 + t * 90 + 2 ∨ 180 + t * 90 + 32 ≤ k ∨ k = 180 + t * 90 + 4 ∨ k = 180 + t * 90 + 5) → N 1 k = J2 1 k := fun k h => by rw [g3 k h, j3 k (by omega) (by omega)]
  have hRT : RT M o (N 1) np (B + 1) t := by
    refine ⟨e + 1, pushN n 8, m, L, S, ⟨⟨?_, ?_⟩, ⟨?_, ?_⟩, Or.inr ⟨p, d', hp, f32, g4, ?_, ?_, ?_, by omega, hP1⟩, ⟨?_, ?_⟩, ?_, ?_, by omega, by omega⟩, RTl_push hl3 f4 g6 f5 g8 hp, ?_, ?_⟩
    · rw [f30, i3T, nk _ (by omega)]
      exact a1.1
    · rw [nk _ (by omega)]
      exact a1.2
    · rw [f31, i3T, nk _ (by omega)]
      exact a2.1
    · rw [nk _ (by omega)]
      exact a2.2
    · rw [f33, g5]
    · rw [f34, i3T, b4]
    · rw [nk _ (by omega), b5]
    · rw [f35, i3T, nk _ (by omega)]
      exact a4.1
    · rw [nk _ (by omega)]
      exact a4.2
    · rw [f36, i3T, a5, nI_1]
    · rw [g7, j3 _ (by omega) (by omega), a6, nI_1]
    · obtain ⟨u1, u2, u3, u4, l, op, u5, u6, u7, u8, u9⟩ := RTk_c hk (I2 := M) (A2 := N 1) (mk _ (by omega) (by omega) (by omega)) (mk _ (by omega) (by omega) (by omega)) (fun k h1 h2 => nk k (by omega))
      exact ⟨u1, u2, u3, u4, l, op, u5, u6, by omega, u8, u9⟩
    · obtain ⟨u1, u2, u3, u4, u5, u6, u7, u8⟩ := RTc_c hc (I2 := M) (A2 := N 1) (mk _ (by omega) (by omega) (by omega)) (mk _ (by omega) (by omega) (by omega)) (fun k h1 h2 => nk k (by omega))
      refine ⟨u1, u2, u3, u4, u5, u6, fun c hc => ?_, u8⟩
      obtain ⟨y1, y2, y3, y4, y5⟩ := u7 c hc
      exact ⟨y1, y2, y3, y4, by omega⟩
  refine ⟨M, N, hcl, hrf, ?_, ?_, ?_, f32, ?_, ?_, ?_⟩
  · refine MT_tool hM2 (t := t) (by omega) (fun k hk => mk k (by omega) (by omega) (by omega)) f4.m ?_ ?_
    · exact TM_c (hM2.1 t (by omega)).2.1 (mk _ (by omega) (by omega) (by omega))
    · exact TM_c (hM2.1 t (by omega)).2.2 (mk _ (by omega) (by omega) (by omega))
  · exact RO_t (t := t) (RO_m hR2 (Nat.le_succ B)) (fun k a b => mk k (by omega) (by omega) (by omega)) (fun k a b => mk k (by omega) (by omega) (by omega)) (fun k a b => nk k (by omega)) (fun k a b => nk k (by omega)) ht hRT
  · exact fun a c2 => by rw [g2 a c2, jJ3 a c2]
  · exact fun k h h1 h2 => by rw [mk k (by omega) (by omega) (by omega), k2 k h1 h2]
  · exact fun k h h1 h2 => by rw [nk k (by omega), j2 k h1 h2]
  · intro hne
    rw [nk _ (by omega), hJ2', upd_at, if_pos rfl, ← hw2, k1 _ (by omega), z6, (hR.2.1 p' hp0).1 1 (by decide)]
