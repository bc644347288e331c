/-! PURE 9: a tool goes to a person, and from one to the other -/
theorem RTl_push {I M : zM} {T b np n p : Nat} {d : Int32} {A A2 : Nat → Int32} (h : RTl I T A b np n) (hTB : TB M (T + 1) 8 3 (pushN n 8)) (h6 : A2 (b + 6) = nI (pushN n 8)) (hI : ∀ i j, i < pushN n 8 → j < 3 → M (T + 1 + 1) (i * 3 + j) = pushR n 8 (fun i j => I (T + 1 + 1) (i * 3 + j)) (n3 (nI p) d (-2)) i j) (hA : ∀ i j, i < pushN n 8 → j < 3 → A2 (b + (8 + 3 * i + j)) = pushR n 8 (fun i j => A (b + (8 + 3 * i + j))) (n3 (nI p) d (-2)) i j) (hp : p < np) : RTl M T A2 b np (pushN n 8) := by
  obtain ⟨h1, h2, h3, h4⟩ := h
  have hn8 : n ≤ 8 := h1.2.2.2.1
  refine ⟨hTB, h6, fun i j hi hj => ?_, fun i hi => ?_⟩
  · rw [hI i j hi hj, hA i j hi hj]
    exact pushR_congr hn8 (fun i hi => h3 i j hi hj)
  · rw [hA i 0 hi (by decide)]
    unfold pushR
    unfold pushN at hi
    by_cases c : n < 8
    · rw [if_pos c] at hi
      rw [if_pos c]
      by_cases c2 : i < n
      · rw [if_pos c2]
        exact h4 i c2
      · rw [if_neg c2]
        exact ⟨p, hp, rfl⟩
    · rw [if_neg c] at hi
      rw [if_neg c]
      by_cases c2 : i + 1 < 8
      · rw [if_pos c2]
        exact h4 (i + 1) (by omega)
      · rw [if_neg c2]
        exact ⟨p, hp, rfl⟩
theorem RTk_push {I M : zM} {T b e e0 m op : Nat} {d w : Int32} {A A2 : Nat → Int32} (h1 : TB I (T + 3) 6 4 m) (h3 : ∀ i j, i < m → j < 4 → I (T + 3 + 1) (i * 4 + j) = A (b + (33 + 4 * i + j))) (hTB : TB M (T + 3) 6 4 (pushN m 6)) (h6 : A2 (b + 32) = nI (pushN m 6)) (hI : ∀ i j, i < pushN m 6 → j < 4 → M (T + 3 + 1) (i * 4 + j) = pushR m 6 (fun i j => I (T + 3 + 1) (i * 4 + j)) (n4 d w (nI e) (nI op)) i j) (hA : ∀ i j, i < pushN m 6 → j < 4 → A2 (b + (33 + 4 * i + j)) = pushR m 6 (fun i j => A (b + (33 + 4 * i + j))) (n4 d w (nI e) (nI op)) i j) (ho : op ≤ 1) (ho2 : op ≤ e) (he : e ≤ e0) : RTk M T A2 b e0 (pushN m 6) := by
  have hn8 : m ≤ 6 := h1.2.2.2.1
  have hP := pushN_pos (n := m) (m := 6) (by decide)
  refine ⟨hTB, hP, h6, fun i j hi hj => ?_, e, op, ho, ho2, he, ?_, ?_⟩
  · rw [hI i j hi hj, hA i j hi hj]
    exact pushR_congr hn8 (fun i hi => h3 i j hi hj)
  · rw [hA _ 2 (by omega) (by decide), pushR_last (by decide)]
    rfl
  · rw [hA _ 3 (by omega) (by decide), pushR_last (by decide)]
    rfl
theorem MT_tool {I M : zM} {o t : Nat} (hM : MT I o) (ht : t < 10) (h : ∀ k, (k < o + 39 + 7 * t ∨ o + 39 + 7 * t + 7 ≤ k) → M k = I k) (h1 : TM M (o + 39 + 7 * t + 1) 8 3) (h2 : TM M (o + 39 + 7 * t + 3) 6 4) (h3 : TM M (o + 39 + 7 * t + 5) 8 4) : MT M o := by
  refine ⟨fun u hu => ?_, TM_c hM.2 (h _ (by omega))⟩
  rcases Nat.lt_trichotomy u t with c | c | c
  · exact ⟨TM_c (hM.1 u hu).1 (h _ (by omega)), TM_c (hM.1 u hu).2.1 (h _ (by omega)), TM_c (hM.1 u hu).2.2 (h _ (by omega))⟩
  · subst c
    exact ⟨h1, h2, h3⟩
  · exact ⟨TM_c (hM.1 u hu).1 (h _ (by omega)), TM_c (hM.1 u hu).2.1 (h _ (by omega)), TM_c (hM.1 u hu).2.2 (h _ (by omega))⟩
-- a look on both sides
theorem RO_look {I J : zM} {o np nt B t : Nat} (hM : MT I o) (hR : RO I o (J 1) np nt B) (ht : t < nt) : ∃ M N, f_X7_noteLook I (o + 39 + 7 * t) (I o 7) = some M ∧ f_X9_seesNow J (nI t) = some N ∧ MT M o ∧ RO M o (N 1) np nt B ∧ FJ J N ∧ (∀ k, k ≠ o + 39 + 7 * t + 3 → k ≠ o + 39 + 7 * t + 3 + 1 → M k = I k) ∧ (∀ k, (k < 180 + t * 90 + 32 ∨ 180 + t * 90 + 57 ≤ k) → N 1 k = J 1 k) := by
  have hnt := hR.1.2.1
  have hday : I o 7 = J 1 1082 := by
    obtain ⟨d, -, a, b⟩ := hR.1.2.2.2.2.2.2.1
    rw [a, b]
  obtain ⟨e, n, m, L, S, ha, hl, hk, hc⟩ := hR.2.2 t ht
  obtain ⟨M, f1, f2, f3, f4⟩ := sp_noteLook hk.1 (I o 7)
  obtain ⟨N, g1, g2, g3, g4, g5⟩ := sp_seesNow (J := J) (t := t) (by omega) hk.1.2.2.2.1 hk.2.2.1
  have hRT : RT M o (N 1) np B t := by
    refine ⟨e, n, pushN m 6, L, S, RTa_c ha (f2 _ (by omega) (by omega)) (fun k a b => g3 k (by omega)), RTl_c hl (f2 _ (by omega) (by omega)) (f2 _ (by omega) (by omega)) (g3 _ (by omega)) (fun k a b => g3 k (by omega)), ?_, RTc_c hc (f2 _ (by omega) (by omega)) (f2 _ (by omega) (by omega)) (fun k a b => g3 k (by omega))⟩
    obtain ⟨a1, a2, a3, a4, a5, a6, a7, a8⟩ := ha
    rw [hday, a2.1, a5] at f4
    rw [a6] at g5
    rcases a3 with ⟨b1, b2, -⟩ | ⟨p, d, hpn, b1, b2, -, -, -, b3, b4⟩
    · rw [b1, if_pos (by decide)] at f4
      rw [b2, if_pos (by decide)] at g5
      exact RTk_push (op := 0) hk.1 hk.2.2.2.1 f3 g4 f4 g5 (by omega) (by omega) (Nat.le_refl e)
    · have hp31 : p < 2 ^ 31 := by
        have := hR.1.1
        omega
      rw [b1, if_neg (nI_pos hp31)] at f4
      rw [b2, if_neg (nI_pos hp31)] at g5
      exact RTk_push (op := 1) hk.1 hk.2.2.2.1 f3 g4 f4 g5 (by omega) (by omega) (Nat.le_refl e)
  refine ⟨M, N, f1, g1, MT_tool hM (by omega) (fun k hk => f2 k (by omega) (by omega)) (TM_c (hM.1 t (by omega)).1 (f2 _ (by omega) (by omega))) f3.m (TM_c (hM.1 t (by omega)).2.2 (f2 _ (by omega) (by omega))), ?_, ⟨fun a c1 c2 c3 c4 => g2 a c2, fun s hs => by rw [g2 0 (by decide)]⟩, f2, g3⟩
  exact RO_t hR (fun k a b => f2 k (by omega) (by omega)) (fun k a b => f2 k (by omega) (by omega)) (fun k a b => g3 k (by omega)) (fun k a b => g3 k (by omega)) ht hRT
-- a tool at the office is handed out
theorem RO_lease {I J : zM} {o np nt B t p dy : Nat} (hB : B ≤ 2 ^ 20) (hM : MT I o) (hR : RO I o (J 1) np nt B) (ht : t < nt) (hp : p < np) (hdy : dy ≤ 30) : ∃ M N v, f_X2_handOut I o (o + 39 + 7 * t) (nI p) (nI dy) = some M ∧ f_X9_leased J (nI t) (nI p) (nI dy) = some (v, N) ∧ v = M (o + 39 + 7 * t) 4 ∧ MT M o ∧ RO M o (N 1) np nt (B + 1) ∧ FJ J N := by
  have hnp := hR.1.1
  have hnt := hR.1.2.1
  obtain ⟨d, hd, hd1, hd2⟩ := hR.1.2.2.2.2.2.2.1
  obtain ⟨e, n, m, L, S, ha, hl, hk, hc⟩ := hR.2.2 t ht
  obtain ⟨a1, a2, a3, a4, a5, a6, a7, a8⟩ := ha
  have hp1 := (hR.2.1 p hp).1 1 (by decide)
  have hR1 := RO_setP (v := I (o + 15 + 2 * p) 1 - I (o + 39 + 7 * t) 0) hR hp (f := 1) (by decide) (by decide)
  generalize hw : I (o + 15 + 2 * p) 1 - I (o + 39 + 7 * t) 0 = w at hR1
  unfold f_X2_handOut
  rw [sp_personAt I o (by omega), zb_s, zlet_s, hw]
  generalize hI1 : ms I (o + 15 + 2 * p) 1 w = I1 at hR1
  have hM1 : MT I1 o := by rw [← hI1]; exact MT_p hM (by omega)
  have k0 : ∀ k, k ≠ o + 15 + 2 * p → I1 k = I k := fun k hk => by rw [← hI1, ms_n hk]
  generalize hJ1 : ms J 1 (p * 15 + 1) w = J1
  have hJ1' : J1 1 = upd (J 1) (p * 15 + 1) w := by rw [← hJ1, ms_s]
  rw [← hJ1'] at hR1
  have kk : ∀ k, k ≠ p * 15 + 1 → J1 1 k = J 1 k := fun k hk => by rw [hJ1', upd_at, if_neg hk]
  have kJ : ∀ a, a ≠ 1 → J1 a = J a := fun a ha => by rw [← hJ1, ms_n ha]
  rw [zlet_s, zlet_s]
  have e0 : I1 (o + 39 + 7 * t) 0 = I (o + 39 + 7 * t) 0 := by rw [k0 _ (by omega)]
  have e7 : ms I1 (o + 39 + 7 * t) 5 (I1 (o + 39 + 7 * t) 0) o 7 + nI dy = nI (d + dy) := by rw [ms_n (by omega), k0 _ (by omega), hd1, nI_add]
  rw [e7, e0]
  have e8 : ms (ms I1 (o + 39 + 7 * t) 5 (I (o + 39 + 7 * t) 0)) (o + 39 + 7 * t) 4 (nI (d + dy)) o 7 = nI d := by rw [ms_n (by omega), ms_n (by omega), k0 _ (by omega), hd1]
  rw [e8]
  generalize hI2 : ms (ms I1 (o + 39 + 7 * t) 5 (I (o + 39 + 7 * t) 0)) (o + 39 + 7 * t) 4 (nI (d + dy)) = I2
  have k2 : ∀ k, k ≠ o + 39 + 7 * t → k ≠ o + 15 + 2 * p → I2 k = I k := fun k h1 h2 => by rw [← hI2, ms_n h1, ms_n h1, k0 k h2]
  have k2' : ∀ k, k ≠ o + 39 + 7 * t → I2 k = I1 k := fun k h1 => by rw [← hI2, ms_n h1, ms_n h1]
  have hT2 : TB I2 (o + 39 + 7 * t + 1) 8 3 n := TB_c hl.1 (k2 _ (by omega) (by omega))
  obtain ⟨M, f1, f2, f30, f31, f32, f33, f34, f35, f36, f4, f5⟩ := sp_goTo (e := e) hT2 (nI p) (nI d)
  rw [f1, zb_s]
  unfold f_X9_leased
  have q1 : f_X9_p J (nI p) 1 = some (I (o + 15 + 2 * p) 1) := by rw [hp1]; exact sp_p J (q := p) (f := 1) (by omega)
  have q0 : ∀ N : zM, f_X9_t N (nI t) 0 = some (N 1 (180 + t * 90 + 0)) := fun N => sp_t N (t := t) (f := 0) (by omega)
  have q2 : f_X9_setP J (nI p) 1 w = some J1 := by rw [← hJ1]; exact sp_setP J (q := p) (f := 1) (by omega) w
  have e0J : J1 1 (180 + t * 90 + 0) = I (o + 39 + 7 * t) 0 := by rw [kk _ (by omega), a1.1]
  rw [q1, zb_s, q0, zb_s, ← a1.1, hw, q2, zb_s, q0, zb_s, e0J]
  have s5 : f_X9_setT J1 (nI t) 5 (I (o + 39 + 7 * t) 0) = some (ms J1 1 (180 + t * 90 + 5) (I (o + 39 + 7 * t) 0)) := sp_setT J1 (t := t) (f := 5) (by omega) _
  have e9 : ms J1 1 (180 + t * 90 + 5) (I (o + 39 + 7 * t) 0) 1 1082 + nI dy = nI (d + dy) := by rw [ms_sn (by omega), kk _ (by omega), hd2, nI_add]
  have s4 : ∀ N : zM, f_X9_setT N (nI t) 4 (nI (d + dy)) = some (ms N 1 (180 + t * 90 + 4) (nI (d + dy))) := fun N => sp_setT N (t := t) (f := 4) (by omega) _
  rw [s5, zb_s, e9, s4, zb_s]
  generalize hJ2 : ms (ms J1 1 (180 + t * 90 + 5) (I (o + 39 + 7 * t) 0)) 1 (180 + t * 90 + 4) (nI (d + dy)) = J2
  have j2 : ∀ k, k ≠ 180 + t * 90 + 4 → k ≠ 180 + t * 90 + 5 → J2 1 k = J1 1 k := fun k h1 h2 => by rw [← hJ2, ms_sn h1, ms_sn h2]
  have j4 : J2 1 (180 + t * 90 + 4) = nI (d + dy) := by rw [← hJ2, ms_ss]
  have j5 : J2 1 (180 + t * 90 + 5) = I (o + 39 + 7 * t) 0 := by rw [← hJ2, ms_sn (by omega), ms_ss]
  have jJ : ∀ a, a ≠ 1 → J2 a = J a := fun a ha => by rw [← hJ2, ms_n ha, ms_n ha, kJ a ha]
  have h6 : J2 1 (180 + t * 90 + 6) = nI n := by rw [j2 _ (by omega) (by omega), kk _ (by omega)]; exact hl.2.1
  have h82 : J2 1 1082 = nI d := by rw [j2 _ (by omega) (by omega), kk _ (by omega), hd2]
  obtain ⟨N, g1, g2, g3, g4, g5, g6, g7, g8⟩ := sp_begins (J := J2) (t := t) (by omega) hl.1.2.2.2.1 h6 (nI p)
  rw [h82] at g5 g8
  have n82 : N 1 1082 = nI d := by rw [g3 _ (by omega), h82]
  rw [g1, zb_s, n82, nI_add]
  have i4 : I2 (o + 39 + 7 * t) 4 = nI (d + dy) := by rw [← hI2, ms_ss]
  have i5 : I2 (o + 39 + 7 * t) 5 = I (o + 39 + 7 * t) 0 := by rw [← hI2, ms_sn (by decide), ms_ss]
  have i6 : I2 (o + 39 + 7 * t) 6 = nI e := by rw [← hI2, ms_sn (by decide), ms_sn (by decide), k0 _ (by omega), a5]
  have i0 : I2 (o + 39 + 7 * t) 0 = I (o + 39 + 7 * t) 0 := by rw [← hI2, ms_sn (by decide), ms_sn (by decide), k0 _ (by omega)]
  have i1 : I2 (o + 39 + 7 * t) 1 = I (o + 39 + 7 * t) 1 := by rw [← hI2, ms_sn (by decide), ms_sn (by decide), k0 _ (by omega)]
  have jk : ∀ k, (k < 180 + t * 90 + 2 ∨ 180 + t * 90 + 32 ≤ k) → k ≠ p * 15 + 1 → N 1 k = J 1 k := fun k h1 h2 => by rw [g3 k (by omega), j2 k (by omega) (by omega), kk k h2]
  have hl2 : RTl I2 (o + 39 + 7 * t) (J2 1) (180 + t * 90) np n := RTl_c hl (k2 _ (by omega) (by omega)) (k2 _ (by omega) (by omega)) (by rw [j2 _ (by omega) (by omega), kk _ (by omega)]) (fun k h1 h2 => by rw [j2 _ (by omega) (by omega), kk _ (by omega)])
  have hPe := pushN_le1 (n := n) (m := 8)
  have hn8 : n ≤ 8 := hl.1.2.2.2.1
  have hP1 := pushN_pos (n := n) (m := 8) (by decide)
  have hRT : RT M o (N 1) np (B + 1) t := by
    refine ⟨e + 1, pushN n 8, m, L, S, ⟨⟨?_, ?_⟩, ⟨?_, ?_⟩, Or.inr ⟨p, d + dy, hp, f32, g4, ?_, ?_, ?_, by omega, hP1⟩, ⟨?_, ?_⟩, ?_, ?_, by omega, by omega⟩, RTl_push hl2 f4 g6 f5 g8 hp, ?_, ?_⟩
    · rw [f30, i0, jk _ (by omega) (by omega)]
      exact a1.1
    · rw [jk _ (by omega) (by omega)]
      exact a1.2
    · rw [f31, i1, jk _ (by omega) (by omega)]
      exact a2.1
    · rw [jk _ (by omega) (by omega)]
      exact a2.2
    · rw [f33, g5]
    · rw [f34, i4]
    · rw [g3 _ (by omega), j4]
    · rw [f35, i5, g3 _ (by omega), j5]
    · rw [g3 _ (by omega), j5, a1.1]
      obtain ⟨k, -, k2, k3⟩ := a1.2
      exact ⟨k, k2, k3⟩
    · rw [f36, i6, nI_1]
    · rw [g7, j2 _ (by omega) (by omega), kk _ (by omega), a6, nI_1]
    · obtain ⟨u1, u2, u3, u4, l, op, u5, u6, u7, u8, u9⟩ := RTk_c hk (I2 := M) (A2 := N 1) (by rw [f2 _ (by omega) (by omega) (by omega), k2 _ (by omega) (by omega)]) (by rw [f2 _ (by omega) (by omega) (by omega), k2 _ (by omega) (by omega)]) (fun k h1 h2 => jk k (by omega) (by omega))
      exact ⟨u1, u2, u3, u4, l, op, u5, u6, by omega, u8, u9⟩
    · have hc2 := RTc_c hc (I2 := M) (A2 := N 1) (by rw [f2 _ (by omega) (by omega) (by omega), k2 _ (by omega) (by omega)]) (by rw [f2 _ (by omega) (by omega) (by omega), k2 _ (by omega) (by omega)]) (fun k h1 h2 => jk k (by omega) (by omega))
      obtain ⟨u1, u2, u3, u4, u5, u6, u7, u8⟩ := hc2
      refine ⟨u1, u2, u3, u4, u5, u6, fun c hc => ?_, u8⟩
      obtain ⟨w1, w2, w3, w4, w5⟩ := u7 c hc
      exact ⟨w1, w2, w3, w4, by omega⟩
  refine ⟨M, N, nI (d + dy), rfl, rfl, by rw [f34, i4], ?_, ?_, ?_⟩
  · refine MT_tool hM1 (t := t) (by omega) (fun k hk => by rw [f2 k (by omega) (by omega) (by omega), k2' k (by omega)]) f4.m ?_ ?_
    · exact TM_c (hM1.1 t (by omega)).2.1 (by rw [f2 _ (by omega) (by omega) (by omega), k2' _ (by omega)])
    · exact TM_c (hM1.1 t (by omega)).2.2 (by rw [f2 _ (by omega) (by omega) (by omega), k2' _ (by omega)])
  · refine RO_t (t := t) (RO_m hR1 (Nat.le_succ B)) (fun k a b => ?_) (fun k a b => ?_) (fun k a b => ?_) (fun k a b => ?_) ht hRT
    · rw [f2 k (by omega) (by omega) (by omega), k2' k (by omega)]
    · rw [f2 k (by omega) (by omega) (by omega), k2' k (by omega)]
    · rw [g3 k (by omega), j2 k (by omega) (by omega)]
    · rw [g3 k (by omega), j2 k (by omega) (by omega)]
  · exact ⟨fun a c1 c2 c3 c4 => by rw [g2 a c2, jJ a c2], fun s hs => by rw [g2 0 (by decide), jJ 0 (by decide)]⟩
