/-! FAIR 12: days ahead, what is owed, an image and back -/
-- a tool's fee on a day, whether it is due by then
def fN (A : Nat → Int32) (a t : Nat) : Nat := if A (180 + t * 90 + 2) < 0 then 0 else (if (a - cN (A (180 + t * 90 + 4))) * (1 + cN (A (180 + t * 90 + 0)) / 10) < cN (A (180 + t * 90 + 5)) then (a - cN (A (180 + t * 90 + 4))) * (1 + cN (A (180 + t * 90 + 0)) / 10) else cN (A (180 + t * 90 + 5)))
def kDu (A : Nat → Int32) (a t : Nat) : Nat := if A (180 + t * 90 + 2) < 0 then 0 else (if a ≤ cN (A (180 + t * 90 + 4)) then 0 else 1)
def SF (A : Nat → Int32) (a : Nat) : Nat → Nat
  | 0 => 0
  | n + 1 => SF A a n + fN A a n
def SL (A : Nat → Int32) (a : Nat) : Nat → Nat
  | 0 => 0
  | n + 1 => SL A a n + kDu A a n
theorem SFL_c {A A2 : Nat → Int32} {a : Nat} : ∀ n, (∀ t f, t < n → f < 6 → A2 (180 + t * 90 + f) = A (180 + t * 90 + f)) → SF A2 a n = SF A a n ∧ SL A2 a n = SL A a n
  | 0, _ => ⟨rfl, rfl⟩
  | n + 1, h => by
    obtain ⟨h1, h2⟩ := SFL_c (A := A) (A2 := A2) (a := a) n (fun t f ht hf => h t f (by omega) hf)
    have e0 := h n 0 (by omega) (by decide)
    have e2 := h n 2 (by omega) (by decide)
    have e4 := h n 4 (by omega) (by decide)
    have e5 := h n 5 (by omega) (by decide)
    refine ⟨?_, ?_⟩
    · show SF A2 a n + fN A2 a n = SF A a n + fN A a n
      unfold fN
      rw [h1, e0, e2, e4, e5]
    · show SL A2 a n + kDu A2 a n = SL A a n + kDu A a n
      unfold kDu
      rw [h2, e2, e4]
section KH
variable {I J : zM} {np nt B0 B C : Nat}
-- a tool that is out
theorem u_due (hR : RO I 1 (J 1) np nt B0) (hB0 : B0 ≤ 2 ^ 20) {t a : Nat} (ht : t < nt) (ha : a ≤ 2 ^ 27) (ho : ¬ J 1 (180 + t * 90 + 2) < 0) : f_X9_fee J (nI t) (nI a) = some (nI (fN (J 1) a t)) ∧ J 1 (180 + t * 90 + 4) = nI (cN (J 1 (180 + t * 90 + 4))) ∧ cN (J 1 (180 + t * 90 + 4)) ≤ 2 ^ 27 := by
  have hnt := hR.1.2.1
  obtain ⟨w, x, g, w1, w2, x9, g9, -, z2, -, z4, -, z6⟩ := RO_num hR ht
  rcases RO_out hR ht with ⟨-, b2, -⟩ | ⟨p, d, b0, bd, -, b2, -, -, b5, -, -⟩
  · exact absurd (by rw [b2]; decide) ho
  · have hd : d ≤ 2 ^ 27 := by omega
    have e := k_fee (J := J) (show t < 10 by omega) b5 z2 z6 w2 g9 ha hd
    have e4 : cN (J 1 (180 + t * 90 + 4)) = d := by rw [b5]; exact cN_n (by omega)
    have e0 : cN (J 1 (180 + t * 90 + 0)) = w := by rw [z2]; exact cN_n (by omega)
    have e5 : cN (J 1 (180 + t * 90 + 5)) = g := by rw [z6]; exact cN_n (by omega)
    refine ⟨?_, by rw [e4]; exact b5, by rw [e4]; exact hd⟩
    unfold fN
    rw [if_neg ho, e4, e0, e5]
    exact e
theorem l_ah (hR : RO I 1 (J 1) np nt B0) (hB0 : B0 ≤ 2 ^ 20) {k a : Nat} {w : Int32} (ha : a ≤ 2 ^ 27) (hk : J 1 1082 + nI k = nI a) (K : Int32 → Int32 → Option Int32) : ∀ (d y fuel : Nat), nt = y + d → d < fuel → f_X9_ahead_l29 J (nI k) w K fuel (nI (SL (J 1) a y)) (nI (SF (J 1) a y)) (nI y) = K (nI (SL (J 1) a nt)) (nI (SF (J 1) a nt)) := by
  have hnt := hR.1.2.1
  have hA := hR.1.2.2.2.2.2.1
  intro d
  induction d with
  | zero =>
    intro y fuel hd hf
    obtain ⟨m, rfl⟩ : ∃ m, fuel = m + 1 := ⟨fuel - 1, by omega⟩
    rw [f_X9_ahead_l29, hA, if_pos (nI_le (by omega) (by omega)), show y = nt by omega]
  | succ d ih =>
    intro y fuel hd hf
    obtain ⟨m, rfl⟩ : ∃ m, fuel = m + 1 := ⟨fuel - 1, by omega⟩
    have ih := ih (y + 1) m (by omega) (by omega)
    have eL : SL (J 1) a (y + 1) = SL (J 1) a y + kDu (J 1) a y := rfl
    have eF : SF (J 1) a (y + 1) = SF (J 1) a y + fN (J 1) a y := rfl
    rw [eL, eF] at ih
    rw [f_X9_ahead_l29, hA, if_neg (nI_ge (by omega) (by omega)), v_out (by omega)]
    by_cases c : J 1 (180 + y * 90 + 2) < 0
    · rw [show kDu (J 1) a y = 0 from if_pos c, show fN (J 1) a y = 0 from if_pos c] at ih
      rw [if_pos c, zb_s, if_pos rfl, nI_1]
      exact ih
    · obtain ⟨e1, e2, e3⟩ := u_due hR hB0 (show y < nt by omega) ha c
      rw [if_neg c, zb_s, if_neg one0, show f_X9_t J (nI y) 4 = some (nI (cN (J 1 (180 + y * 90 + 4)))) from by rw [← e2]; exact sp_t J (t := y) (f := 4) (by omega), zb_s, hk]
      by_cases c2 : a ≤ cN (J 1 (180 + y * 90 + 4))
      · have f0 : fN (J 1) a y = 0 := by
          unfold fN
          rw [if_neg c, show a - cN (J 1 (180 + y * 90 + 4)) = 0 by omega, Nat.zero_mul]
          split <;> omega
        have l0 : kDu (J 1) a y = 0 := by
          unfold kDu
          rw [if_neg c, if_pos c2]
        rw [l0, f0] at ih
        rw [if_pos (nI_le c2 (by omega)), nI_1]
        exact ih
      · have l1 : kDu (J 1) a y = 1 := by
          unfold kDu
          rw [if_neg c, if_neg c2]
        rw [l1] at ih
        rw [if_neg (nI_ge (by omega) (by omega)), e1, zb_s, zlet_s, nI_add, nI_1, nI_1]
        exact ih
theorem u_ahead (hR : RO I 1 (J 1) np nt B0) (hB0 : B0 ≤ 2 ^ 20) {k a : Nat} (hk6 : k ≤ 60) (ha : a ≤ 2 ^ 27) (hk : J 1 1082 + nI k = nI a) : f_X8_ahead I (nI k) 0 = some (nI (SL (J 1) a nt)) ∧ f_X8_ahead I (nI k) 1 = some (nI (SF (J 1) a nt)) := by
  have hz := zFu_big
  have hnt := hR.1.2.1
  have e : ∀ (w : Int32) (K : Int32 → Int32 → Option Int32), f_X9_ahead_l29 J (nI k) w K zFu 0 0 0 = K (nI (SL (J 1) a nt)) (nI (SF (J 1) a nt)) := fun w K => l_ah hR hB0 ha hk K nt 0 zFu (by omega) (by omega)
  refine ⟨ask_v (q_ahead hB0 hR (nI k) 0) ?_, ask_v (q_ahead hB0 hR (nI k) 1) ?_⟩
  · unfold f_X9_ahead
    rw [in_e, if_neg (nI_pos (by omega)), if_pos (show nI k ≤ 60 from nI_le (b := 60) hk6 (by decide)), zb_s, if_neg one0, in_e, if_neg (show ¬ (0 : Int32) < 0 by decide), if_pos (show (0 : Int32) ≤ 1 by decide), zb_s, if_neg one0, e, if_pos rfl]
  · unfold f_X9_ahead
    rw [in_e, if_neg (nI_pos (by omega)), if_pos (show nI k ≤ 60 from nI_le (b := 60) hk6 (by decide)), zb_s, if_neg one0, in_e, if_neg (show ¬ (1 : Int32) < 0 by decide), if_pos (show (1 : Int32) ≤ 1 by decide), zb_s, if_neg one0, e, if_neg one0]
theorem u_told (hR : RO I 1 (J 1) np nt B0) (hB0 : B0 ≤ 2 ^ 20) (hM : TM I 330 12 1) {t a : Nat} (ht : t < nt) (ha : a ≤ 2 ^ 27) (hd : J 1 1082 = nI a) : f_X8_told I (nI t) 2 = some (nI (fN (J 1) a t), I) := by
  obtain ⟨c1, c2, c3, c4, c5, c6, -⟩ := hR.1
  obtain ⟨r, I2, J2, h1, h2, -⟩ := q_told hB0 hR hM (nI t) 2
  have e : f_X9_told J (nI t) 2 = some (nI (fN (J 1) a t), J) := by
    unfold f_X9_told
    rw [v_isT c6 c2 ht, zb_s, if_neg one0, in_e, if_neg (show ¬ (2 : Int32) < 0 by decide), if_pos (show (2 : Int32) ≤ 2 by decide), zb_s, if_neg one0, if_neg (show ¬ (2 : Int32) = 0 by decide), if_pos rfl, v_out (by omega)]
    by_cases c : J 1 (180 + t * 90 + 2) < 0
    · rw [if_pos c, zb_s, if_pos rfl, show fN (J 1) a t = 0 from if_pos c]
      rfl
    · rw [if_neg c, zb_s, if_neg one0, hd, (u_due hR hB0 ht ha c).1, zb_s]
  rw [e] at h2
  have er := (k_e h2).1
  have hI : I2 = I := by
    unfold f_X8_told at h1
    obtain ⟨q1, -, h1⟩ := zb_e h1
    by_cases q0 : q1 = 0
    · rw [if_pos q0] at h1
      exact (k_e h1).2.symm
    · rw [if_neg q0, if_neg (show ¬ (2 : Int32) = 0 by decide), if_neg (show ¬ (2 : Int32) = 1 by decide), if_pos rfl] at h1
      obtain ⟨q5, -, h1⟩ := zb_e h1
      obtain ⟨q6, -, h1⟩ := zb_e h1
      exact (k_e h1).2.symm
  rw [hI, ← er] at h1
  exact h1
end KH
theorem k_bl : ∀ (fuel : Nat) (M : zM) (y r : Int32) (N : zM), f_X9_back_l23 fuel M y = some (r, N) → (∀ a, a ≠ 7 → N a = M a) ∧ r = M 1 1082 := by
  intro fuel
  induction fuel with
  | zero =>
    intro M y r N h
    rw [f_X9_back_l23] at h
    cases h
  | succ fuel ih =>
    intro M y r N h
    have fin : ∀ k v, f_X9_back_l23 fuel (ms M 7 k v) (y + 1) = some (r, N) → (∀ a, a ≠ 7 → N a = M a) ∧ r = M 1 1082 := fun k v h => by
      obtain ⟨h1, h2⟩ := ih _ _ _ _ h
      refine ⟨fun a ha => (h1 a ha).trans (ms_n ha), h2.trans ?_⟩
      rw [ms_n (by decide)]
    rw [f_X9_back_l23] at h
    split at h
    · obtain ⟨hr, hN⟩ := k_e h
      exact ⟨fun a _ => by rw [hN], hr.symm⟩
    · obtain ⟨-, h⟩ := zck_e h
      split at h
      · obtain ⟨-, h⟩ := zck_e h
        obtain ⟨q, -, h⟩ := zb_e h
        split at h
        · obtain ⟨-, h⟩ := zck_e h
          exact fin _ _ h
        · obtain ⟨-, h⟩ := zck_e h
          split at h
          · obtain ⟨-, h⟩ := zck_e h
            obtain ⟨q, -, h⟩ := zb_e h
            split at h
            · obtain ⟨-, h⟩ := zck_e h
              exact fin _ _ h
            · obtain ⟨-, h⟩ := zck_e h
              obtain ⟨-, h⟩ := zck_e h
              exact fin _ _ h
          · obtain ⟨-, h⟩ := zck_e h
            obtain ⟨-, h⟩ := zck_e h
            exact fin _ _ h
      · obtain ⟨-, h⟩ := zck_e h
        split at h
        · obtain ⟨-, h⟩ := zck_e h
          obtain ⟨q, -, h⟩ := zb_e h
          split at h
          · obtain ⟨-, h⟩ := zck_e h
            exact fin _ _ h
          · obtain ⟨-, h⟩ := zck_e h
            obtain ⟨-, h⟩ := zck_e h
            exact fin _ _ h
        · obtain ⟨-, h⟩ := zck_e h
          obtain ⟨-, h⟩ := zck_e h
          exact fin _ _ h
-- the image
theorem s_image {n C : Nat} {I J : zM} (hP : KQ n C I J) : ∃ (I2 J2 : zM), f_X8_image I = some (J 1 1082, I2) ∧ KQ n C I2 J2 ∧ J2 1 = J 1 ∧ J2 0 4 = 1 ∧ ∀ a, a < 1087 → J2 4 a = J 1 a := by
  obtain ⟨B0, B, h0, hB, hV, hF⟩ := hP
  obtain ⟨r, I2, J2, q1, q2, q3⟩ := d_image hV
  have e : f_X9_image J = some (J 1 1082, ms (cp J 4 1 0 1087) 0 4 1) := by
    unfold f_X9_image
    rw [sp_take (by decide), zb_s, zlet_s, ms_n (by decide), cp_n (by decide)]
  rw [e] at q2
  obtain ⟨er, eJ⟩ := k_e q2
  have j1 : J2 1 = J 1 := by rw [← eJ, ms_n (by decide), cp_n (by decide)]
  refine ⟨I2, J2, by rw [q1, er], ⟨B0, B, h0, hB, q3, ?_⟩, j1, by rw [← eJ, ms_ss], fun a ha => by rw [← eJ, ms_n (by decide), cp_s, if_pos (by omega)]⟩
  obtain ⟨np, nt, a1, a2, a3, a4, a5⟩ := hF
  exact ⟨np, nt, a1, a2, by rw [j1]; exact a3, by rw [j1]; exact a4, by rw [j1]; exact a5⟩
-- back: the row is what was kept; N: the memory at the image
theorem s_back {n n0 C : Nat} {I J I0 J0 : zM} (hn : n0 ≤ n) (hP : KQ n C I J) (h0 : KQ n0 C I0 J0) (h4 : ∀ a, a < 1087 → J 4 a = J0 1 a) (h04 : J 0 4 = 1) : ∃ (I2 J2 : zM), f_X8_back I = some (J0 1 1082, I2) ∧ KQ n C I2 J2 ∧ ∀ a, a < 1087 → J2 1 a = J0 1 a := by
  obtain ⟨B0, B, b0, hB, hV, -⟩ := hP
  obtain ⟨B0', B', b0', hB', -, hF⟩ := h0
  obtain ⟨r, I2, J2, q1, q2, q3⟩ := d_back hV
  unfold f_X9_back at q2
  rw [h04, if_neg one0, sp_take (by decide), zb_s] at q2
  obtain ⟨k1, k2⟩ := k_bl _ _ _ _ _ q2
  have j1 : ∀ a, a < 1087 → J2 1 a = J0 1 a := fun a ha => by rw [k1 1 (by decide), cp_s, if_pos (by omega), h4 a ha]
  have er : r = J0 1 1082 := by rw [k2, cp_s, if_pos (by omega), h4 _ (by decide)]
  refine ⟨I2, J2, by rw [q1, er], ⟨B0, B', b0, by omega, q3, ?_⟩, j1⟩
  obtain ⟨np, nt, a1, a2, a3, a4, a5⟩ := hF
  exact ⟨np, nt, a1, a2, (j1 _ (by decide)).trans a3, (j1 _ (by decide)).trans a4, FA_c a5 ⟨fun q f hq hf => j1 _ (by omega), fun t f ht hf => j1 _ (by omega), j1 _ (by decide), j1 _ (by decide)⟩ (Nat.le_refl _)⟩
