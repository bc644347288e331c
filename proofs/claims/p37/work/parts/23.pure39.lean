/-! PURE 39: an office copied into another one -/
theorem sp_setWish (M : zM) (a : Nat) {y : Nat} (hy : y < 10) (v : Int32) : f_X3_setWishOf M a (nI y) v = some (ms M (a + 1) y v) := by
  unfold f_X3_setWishOf
  simp (disch := omega) only [zlit, zofN, zneg, zle, zlt, zeq, pk_mul, pk_sub, nI_add, nI_clamp, zb_s, zlet_s, if_false, if_true, if_pos, if_neg, zck_1, zin_t]
theorem l_copyW {a b : Nat} (h : b ≠ a) : ∀ (d y fuel : Nat) (M : zM), 10 = y + d → d < fuel → f_X3_copyFrom_l42 a b fuel M (nI y) = some (cp M (a + 1) (b + 1) y 10) := by
  intro d
  induction d with
  | zero =>
    intro y fuel M hd hf
    obtain ⟨m, rfl⟩ : ∃ m, fuel = m + 1 := ⟨fuel - 1, by omega⟩
    have e : y = 10 := by omega
    subst e
    rw [f_X3_copyFrom_l42, if_pos (by decide)]
    refine congrArg some (zM_ext1 (a + 1) (fun c hc => (cp_n hc).symm) (fun k => ?_))
    rw [cp_s, if_neg (by omega)]
  | succ d ih =>
    intro y fuel M hd hf
    obtain ⟨m, rfl⟩ : ∃ m, fuel = m + 1 := ⟨fuel - 1, by omega⟩
    have g : ¬ (10 : Int32) ≤ nI y := nI_ge (b := 10) (by omega) (by decide)
    rw [f_X3_copyFrom_l42, if_neg g, sp_wishOf M b (by omega), zb_s, sp_setWish M a (by omega), zb_s, nI_1, ih (y + 1) m _ (by omega) (by omega)]
    refine congrArg some (zM_ext1 (a + 1) (fun c hc => by rw [cp_n hc, cp_n hc, ms_n hc]) (fun k => ?_))
    rw [cp_s, cp_s, ms_at, ms_n (show b + 1 ≠ a + 1 by omega)]
    by_cases c1 : k = y
    · subst c1
      rw [if_neg (by omega), if_pos rfl, if_pos (by omega)]
    · by_cases c2 : y ≤ k ∧ k < 10
      · rw [if_pos (by omega), if_pos c2]
      · rw [if_neg (by omega), if_neg c2, if_neg c1]
theorem sp_copyP {I : zM} {a b : Nat} (h1 : b ≠ a) (h3 : b + 1 ≠ a) : ∃ M, f_X3_copyFrom I a b = some M ∧ (∀ j, j < 5 → M a j = I b j) ∧ (∀ j, j < 10 → M (a + 1) j = I (b + 1) j) ∧ ∀ k, k ≠ a → k ≠ a + 1 → M k = I k := by
  have hz := zFu_big
  unfold f_X3_copyFrom
  simp only [zlet_s, ms_n h1]
  have e : ∀ M, f_X3_copyFrom_l42 a b zFu M 0 = some (cp M (a + 1) (b + 1) 0 10) := fun M => l_copyW h1 10 0 zFu M (by omega) (by omega)
  rw [e]
  refine ⟨_, rfl, fun j hj => ?_, fun j hj => ?_, fun k c1 c2 => ?_⟩
  · rw [cp_n (by omega)]
    rcases (show j = 0 ∨ j = 1 ∨ j = 2 ∨ j = 3 ∨ j = 4 by omega) with rfl | rfl | rfl | rfl | rfl <;> simp (disch := decide) only [ms_ss, ms_sn]
  · rw [cp_s, if_pos (by omega), ms_n h3, ms_n h3, ms_n h3, ms_n h3, ms_n h3]
  · rw [cp_n c2, ms_n c1, ms_n c1, ms_n c1, ms_n c1, ms_n c1]
theorem sp_copyE {I : zM} {h h2 R w n : Nat} (hT : TM I h R w) (hT2 : TB I h2 R w n) (hne : h2 ≠ h) (hne1 : h2 ≠ h + 1) (hne2 : h2 + 1 ≠ h) : ∃ M, f_X4_copyFrom I h h2 = some M ∧ TB M h R w n ∧ (∀ k, k < n * w → M (h + 1) k = I (h2 + 1) k) ∧ ∀ k, k ≠ h → k ≠ h + 1 → M k = I k := by
  refine ⟨_, sp_copy hT hT2 hne hne1 hne2, TM.b ⟨?_, ?_, hT.2.2⟩ ?_ hT2.2.2.2.1, fun k hk => ?_, fun k c1 c2 => ?_⟩
  · rw [cp_n (by omega), ms_sn (by decide)]
    exact hT.1
  · rw [cp_n (by omega), ms_sn (by decide)]
    exact hT.2.1
  · rw [cp_n (by omega), ms_ss]
  · rw [cp_s, if_pos (by omega), ms_n hne2]
  · rw [cp_n c2, ms_n c1]
theorem sp_copyT {I : zM} {T S n m l : Nat} (hd : T + 7 ≤ S ∨ S + 7 ≤ T) (hl : TM I (T + 1) 8 3) (hk : TM I (T + 3) 6 4) (hc : TM I (T + 5) 8 4) (tl : TB I (S + 1) 8 3 n) (tk : TB I (S + 3) 6 4 m) (tc : TB I (S + 5) 8 4 l) : ∃ M, f_X7_copyFrom I T S = some M ∧ (∀ j, j < 7 → M T j = I S j) ∧ (TB M (T + 1) 8 3 n ∧ ∀ k, k < n * 3 → M (T + 1 + 1) k = I (S + 1 + 1) k) ∧ (TB M (T + 3) 6 4 m ∧ ∀ k, k < m * 4 → M (T + 3 + 1) k = I (S + 3 + 1) k) ∧ (TB M (T + 5) 8 4 l ∧ ∀ k, k < l * 4 → M (T + 5 + 1) k = I (S + 5 + 1) k) ∧ ∀ k, (k < T ∨ T + 7 ≤ k) → M k = I k := by
  have h1 : S ≠ T := by omega
  unfold f_X7_copyFrom
  simp only [zlet_s, ms_n h1]
  generalize hF : ms (ms (ms (ms (ms (ms (ms I T 0 (I S 0)) T 1 (I S 1)) T 2 (I S 2)) T 3 (I S 3)) T 4 (I S 4)) T 5 (I S 5)) T 6 (I S 6) = F
  have k0 : ∀ k, k ≠ T → F k = I k := fun k h => by rw [← hF, ms_n h, ms_n h, ms_n h, ms_n h, ms_n h, ms_n h, ms_n h]
  have kT : ∀ j, j < 7 → F T j = I S j := fun j hj => by
    rw [← hF]
    rcases (show j = 0 ∨ j = 1 ∨ j = 2 ∨ j = 3 ∨ j = 4 ∨ j = 5 ∨ j = 6 by omega) with rfl | rfl | rfl | rfl | rfl | rfl | rfl <;> simp (disch := decide) only [ms_ss, ms_sn]
  obtain ⟨M1, a1, a2, a3, a4⟩ := sp_copyE (TM_c hl (k0 _ (by omega))) (TB_c tl (k0 _ (by omega))) (show S + 1 ≠ T + 1 by omega) (by omega) (by omega)
  obtain ⟨M2, b1, b2, b3, b4⟩ := sp_copyE (TM_c hk ((a4 _ (by omega) (by omega)).trans (k0 _ (by omega)))) (TB_c tk ((a4 _ (by omega) (by omega)).trans (k0 _ (by omega)))) (show S + 3 ≠ T + 3 by omega) (by omega) (by omega)
  have e2 : ∀ k, k ≠ T → k ≠ T + 1 → k ≠ T + 1 + 1 → k ≠ T + 3 → k ≠ T + 3 + 1 → M2 k = I k := fun k c1 c2 c3 c4 c5 => (b4 k c4 c5).trans ((a4 k c2 c3).trans (k0 k c1))
  obtain ⟨M3, d1, d2, d3, d4⟩ := sp_copyE (TM_c hc (e2 _ (by omega) (by omega) (by omega) (by omega) (by omega))) (TB_c tc (e2 _ (by omega) (by omega) (by omega) (by omega) (by omega))) (show S + 5 ≠ T + 5 by omega) (by omega) (by omega)
  rw [a1, zb_s, b1, zb_s, d1, zb_s]
  refine ⟨M3, rfl, fun j hj => ?_, ⟨?_, fun k hk => ?_⟩, ⟨?_, fun k hk => ?_⟩, ⟨d2, fun k hk => ?_⟩, fun k hk => ?_⟩
  · rw [d4 _ (by omega) (by omega), b4 _ (by omega) (by omega), a4 _ (by omega) (by omega), kT j hj]
  · exact TB_c a2 ((d4 _ (by omega) (by omega)).trans (b4 _ (by omega) (by omega)))
  · rw [d4 _ (by omega) (by omega), b4 _ (by omega) (by omega), a3 k hk, k0 _ (by omega)]
  · exact TB_c b2 (d4 _ (by omega) (by omega))
  · rw [d4 _ (by omega) (by omega), b3 k hk, a4 _ (by omega) (by omega), k0 _ (by omega)]
  · rw [d3 k hk, e2 _ (by omega) (by omega) (by omega) (by omega) (by omega)]
  · rw [d4 _ (by omega) (by omega), e2 _ (by omega) (by omega) (by omega) (by omega) (by omega)]
-- a tool's copy is as the tool is
theorem RT_mv {I M : zM} {a b np B t : Nat} {A : Nat → Int32} (h : RT I b A np B t) : ∃ n m l, TB I (b + 39 + 7 * t + 1) 8 3 n ∧ TB I (b + 39 + 7 * t + 3) 6 4 m ∧ TB I (b + 39 + 7 * t + 5) 8 4 l ∧ (((∀ j, j < 7 → M (a + 39 + 7 * t) j = I (b + 39 + 7 * t) j) ∧ (TB M (a + 39 + 7 * t + 1) 8 3 n ∧ ∀ k, k < n * 3 → M (a + 39 + 7 * t + 1 + 1) k = I (b + 39 + 7 * t + 1 + 1) k) ∧ (TB M (a + 39 + 7 * t + 3) 6 4 m ∧ ∀ k, k < m * 4 → M (a + 39 + 7 * t + 3 + 1) k = I (b + 39 + 7 * t + 3 + 1) k) ∧ (TB M (a + 39 + 7 * t + 5) 8 4 l ∧ ∀ k, k < l * 4 → M (a + 39 + 7 * t + 5 + 1) k = I (b + 39 + 7 * t + 5 + 1) k)) → RT M a A np B t) := by
  obtain ⟨e, n, m, L, S, h1, h2, h3, h4⟩ := h
  refine ⟨n, m, L.length, h2.1, h3.1, h4.1, fun hh => ?_⟩
  obtain ⟨q, ⟨p1, p2⟩, ⟨p3, p4⟩, p5, p6⟩ := hh
  refine ⟨e, n, m, L, S, ?_, ⟨p1, h2.2.1, fun i j hi hj => ?_, h2.2.2.2⟩, ⟨p3, h3.2.1, h3.2.2.1, fun i j hi hj => ?_, h3.2.2.2.2⟩, ⟨p5, h4.2.1, fun i c hi => ?_, h4.2.2.2⟩⟩
  · unfold RTa at *
    rw [q 0 (by decide), q 1 (by decide), q 2 (by decide), q 3 (by decide), q 4 (by decide), q 5 (by decide), q 6 (by decide)]
    exact h1
  · rw [p2 _ (by omega)]
    exact h2.2.2.1 i j hi hj
  · rw [p4 _ (by omega)]
    exact h3.2.2.2.1 i j hi hj
  · have hil := (List.getElem?_eq_some_iff.mp hi).1
    exact clAt_c (h4.2.2.1 i c hi) (fun j hj => p6 _ (by omega))
theorem l_copyPs {a b np : Nat} (K : zM → Option zM) (hnp : np ≤ 12) (hd : a + 109 ≤ b ∨ b + 109 ≤ a) : ∀ (d y fuel : Nat) (M : zM), np = y + d → d < fuel → M a 5 = nI np → ∃ M', f_X2_copyFrom_l50 a b K fuel M (nI y) = K M' ∧ (∀ q, y ≤ q → q < np → (∀ j, j < 5 → M' (a + 15 + 2 * q) j = M (b + 15 + 2 * q) j) ∧ ∀ j, j < 10 → M' (a + 15 + 2 * q + 1) j = M (b + 15 + 2 * q + 1) j) ∧ ∀ k, (k < a + 15 + 2 * y ∨ a + 15 + 2 * np ≤ k) → M' k = M k := by
  intro d
  induction d with
  | zero =>
    intro y fuel M he hf h5
    obtain ⟨m, rfl⟩ : ∃ m, fuel = m + 1 := ⟨fuel - 1, by omega⟩
    rw [f_X2_copyFrom_l50, h5, if_pos (nI_le (by omega) (by omega))]
    exact ⟨M, rfl, fun q h1 h2 => absurd h2 (by omega), fun _ _ => rfl⟩
  | succ d ih =>
    intro y fuel M he hf h5
    obtain ⟨m, rfl⟩ : ∃ m, fuel = m + 1 := ⟨fuel - 1, by omega⟩
    obtain ⟨M1, a1, a2, a3, a4⟩ := sp_copyP (I := M) (a := a + 15 + 2 * y) (b := b + 15 + 2 * y) (by omega) (by omega)
    rw [f_X2_copyFrom_l50, h5, if_neg (nI_ge (by omega) (by omega)), sp_personAt M a (by omega), zb_s, sp_personAt M b (by omega), zb_s, a1, zb_s, nI_1]
    obtain ⟨M', b1, b2, b3⟩ := ih (y + 1) m M1 (by omega) (by omega) (by rw [a4 _ (by omega) (by omega)]; exact h5)
    refine ⟨M', b1, fun q h1 h2 => ?_, fun k hk => (b3 k (by omega)).trans (a4 k (by omega) (by omega))⟩
    by_cases c : q = y
    · subst c
      refine ⟨fun j hj => ?_, fun j hj => ?_⟩
      · rw [b3 _ (by omega), a2 j hj]
      · rw [b3 _ (by omega), a3 j hj]
    · obtain ⟨c1, c2⟩ := b2 q (by omega) h2
      refine ⟨fun j hj => ?_, fun j hj => ?_⟩
      · rw [c1 j hj, a4 _ (by omega) (by omega)]
      · rw [c2 j hj, a4 _ (by omega) (by omega)]
theorem l_copyTs {a b np nt B : Nat} {A : Nat → Int32} (hnt : nt ≤ 10) (hd : a + 109 ≤ b ∨ b + 109 ≤ a) : ∀ (d y fuel : Nat) (M : zM), nt = y + d → d < fuel → M a 6 = nI nt → (∀ t, t < nt → RT M b A np B t) → (∀ t, y ≤ t → t < nt → TM M (a + 39 + 7 * t + 1) 8 3 ∧ TM M (a + 39 + 7 * t + 3) 6 4 ∧ TM M (a + 39 + 7 * t + 5) 8 4) → ∃ M', f_X2_copyFrom_l79 a b fuel M (nI y) = some M' ∧ (∀ t, y ≤ t → t < nt → RT M' a A np B t) ∧ ∀ k, (k < a + 39 + 7 * y ∨ a + 39 + 7 * nt ≤ k) → M' k = M k := by
  intro d
  induction d with
  | zero =>
    intro y fuel M he hf h5 hR hM
    obtain ⟨m, rfl⟩ : ∃ m, fuel = m + 1 := ⟨fuel - 1, by omega⟩
    rw [f_X2_copyFrom_l79, h5, if_pos (nI_le (by omega) (by omega))]
    exact ⟨M, rfl, fun q h1 h2 => absurd h2 (by omega), fun _ _ => rfl⟩
  | succ d ih =>
    intro y fuel M he hf h5 hR hM
    obtain ⟨m, rfl⟩ : ∃ m, fuel = m + 1 := ⟨fuel - 1, by omega⟩
    obtain ⟨m1, m2, m3⟩ := hM y (Nat.le_refl _) (by omega)
    rw [f_X2_copyFrom_l79, h5, if_neg (nI_ge (by omega) (by omega)), sp_toolAt M a (by omega), zb_s, sp_toolAt M b (by omega), zb_s]
    obtain ⟨n0, k0, l0, t1, t2, t3, -⟩ := RT_mv (M := M) (a := a) (hR y (by omega))
    obtain ⟨M1, a1, a2, a3, a4, a5, a6⟩ := sp_copyT (T := a + 39 + 7 * y) (S := b + 39 + 7 * y) (by omega) m1 m2 m3 t1 t2 t3
    rw [a1, zb_s, nI_1]
    have hR1 : RT M1 a A np B y := by
      obtain ⟨n1, k1, l1, u1, u2, u3, u4⟩ := RT_mv (M := M1) (a := a) (hR y (by omega))
      have en : n1 = n0 := (nI_eq (by have := u1.2.2.2.1; omega) (by have := t1.2.2.2.1; omega)).mp (u1.2.2.1.symm.trans t1.2.2.1)
      have ek : k1 = k0 := (nI_eq (by have := u2.2.2.2.1; omega) (by have := t2.2.2.2.1; omega)).mp (u2.2.2.1.symm.trans t2.2.2.1)
      have el : l1 = l0 := (nI_eq (by have := u3.2.2.2.1; omega) (by have := t3.2.2.2.1; omega)).mp (u3.2.2.1.symm.trans t3.2.2.1)
      subst en
      subst ek
      subst el
      exact u4 ⟨a2, a3, a4, a5⟩
    obtain ⟨M', b1, b2, b3⟩ := ih (y + 1) m M1 (by omega) (by omega) (by rw [a6 _ (by omega)]; exact h5) (fun t ht => RT_c (hR t ht) (fun k c1 c2 => a6 k (by omega)) (fun _ _ _ => rfl)) (fun t h1 h2 => by
      obtain ⟨z1, z2, z3⟩ := hM t (by omega) h2
      exact ⟨TM_c z1 (a6 _ (by omega)), TM_c z2 (a6 _ (by omega)), TM_c z3 (a6 _ (by omega))⟩)
    refine ⟨M', b1, fun t h1 h2 => ?_, fun k hk => (b3 k (by omega)).trans (a6 k (by omega))⟩
    by_cases c : t = y
    · subst c
      exact RT_c hR1 (fun k c1 c2 => b3 k (by omega)) (fun _ _ _ => rfl)
    · exact b2 t (by omega) h2
theorem sp_copyO {I : zM} {a b np nt B : Nat} {A : Nat → Int32} (hd : a + 109 ≤ b ∨ b + 109 ≤ a) (hR : RO I b A np nt B) (hM : MT I a) : ∃ M, f_X2_copyFrom I a b = some M ∧ RO M a A np nt B ∧ MT M a ∧ ∀ k, (k < a ∨ a + 109 ≤ k) → M k = I k := by
  have hz := zFu_big
  obtain ⟨hc, hp, ht⟩ := hR
  have hnp := hc.1
  have hnt := hc.2.1
  have h1 : b ≠ a := by omega
  unfold f_X2_copyFrom
  simp only [zlet_s, ms_n h1]
  generalize hF : ms (ms (ms (ms (ms (ms I a 5 (I b 5)) a 6 (I b 6)) a 7 (I b 7)) a 8 (I b 8)) a 9 (I b 9)) a 10 (I b 10) = F
  have k0 : ∀ k, k ≠ a → F k = I k := fun k h => by rw [← hF, ms_n h, ms_n h, ms_n h, ms_n h, ms_n h, ms_n h]
  have kO : ∀ j, 5 ≤ j → j < 11 → F a j = I b j := fun j hj hj2 => by
    rw [← hF]
    rcases (show j = 5 ∨ j = 6 ∨ j = 7 ∨ j = 8 ∨ j = 9 ∨ j = 10 by omega) with rfl | rfl | rfl | rfl | rfl | rfl <;> simp (disch := decide) only [ms_ss, ms_sn]
  obtain ⟨M1, a1, a2, a3⟩ := l_copyPs (a := a) (b := b) (np := np) (fun M11 => f_X2_copyFrom_l79 a b zFu M11 0) hnp hd np 0 zFu F (by omega) (by omega) (by rw [kO 5 (by decide) (by decide)]; exact hc.2.2.1)
  have a1 : f_X2_copyFrom_l50 a b (fun M11 => f_X2_copyFrom_l79 a b zFu M11 0) zFu F 0 = f_X2_copyFrom_l79 a b zFu M1 0 := a1
  have e1 : ∀ k, k ≠ a → (k < a + 15 ∨ a + 15 + 2 * np ≤ k) → M1 k = I k := fun k c1 c2 => (a3 k (by omega)).trans (k0 k c1)
  have eo : ∀ j, 5 ≤ j → j < 11 → M1 a j = I b j := fun j c1 c2 => by rw [a3 a (by omega), kO j c1 c2]
  obtain ⟨M2, b1, b2, b3⟩ := l_copyTs (a := a) (b := b) (np := np) (B := B) (A := A) hnt hd nt 0 zFu M1 (by omega) (by omega) (by rw [eo 6 (by decide) (by decide)]; exact hc.2.2.2.2.1) (fun t h => RT_c (ht t h) (fun k c1 c2 => e1 k (by omega) (by omega)) (fun _ _ _ => rfl)) (fun t _ h2 => by
    obtain ⟨z1, z2, z3⟩ := hM.1 t (by omega)
    exact ⟨TM_c z1 (e1 _ (by omega) (by omega)), TM_c z2 (e1 _ (by omega) (by omega)), TM_c z3 (e1 _ (by omega) (by omega))⟩)
  have b1 : f_X2_copyFrom_l79 a b zFu M1 0 = some M2 := b1
  rw [a1, b1]
  have e2 : ∀ k, k ≠ a → (k < a + 15 ∨ (a + 15 + 2 * np ≤ k ∧ k < a + 39) ∨ a + 39 + 7 * nt ≤ k) → M2 k = I k := fun k c1 c2 => (b3 k (by omega)).trans (e1 k c1 (by omega))
  have eo2 : ∀ j, 5 ≤ j → j < 11 → M2 a j = I b j := fun j c1 c2 => by rw [b3 a (by omega), eo j c1 c2]
  refine ⟨M2, rfl, ⟨?_, fun q hq => ?_, fun t h => b2 t (Nat.zero_le _) h⟩, ⟨fun t h => ?_, TM_c hM.2 (e2 _ (by omega) (by omega))⟩, fun k hk => e2 k (by omega) (by omega)⟩
  · unfold RC RW at *
    rw [eo2 5 (by decide) (by decide), eo2 6 (by decide) (by decide), eo2 7 (by decide) (by decide), eo2 8 (by decide) (by decide), eo2 9 (by decide) (by decide), eo2 10 (by decide) (by decide)]
    exact hc
  · obtain ⟨p1, p2, p3⟩ := hp q hq
    obtain ⟨c1, c2⟩ := a2 q (Nat.zero_le _) hq
    refine ⟨fun f hf => ?_, fun j hj => ?_, p3⟩
    · rw [b3 _ (by omega), c1 f hf, k0 _ (by omega), p1 f hf]
    · rw [b3 _ (by omega), c2 j hj, k0 _ (by omega), p2 j hj]
  · by_cases ct : t < nt
    · obtain ⟨e, n, m, L, S, -, g1, g2, g3⟩ := b2 t (Nat.zero_le _) ct
      exact ⟨g1.1.m, g2.1.m, g3.1.m⟩
    · obtain ⟨z1, z2, z3⟩ := hM.1 t h
      exact ⟨TM_c z1 (e2 _ (by omega) (by omega)), TM_c z2 (e2 _ (by omega) (by omega)), TM_c z3 (e2 _ (by omega) (by omega))⟩
