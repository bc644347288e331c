/-! FRAMES: what a class function leaves as it was -/
def FM (lo hi : Nat) (I I2 : zM) : Prop := (∀ k, (k < lo ∨ hi ≤ k) → I2 k = I k) ∧ ∀ k, zK k = 4 → I2 k 0 = I k 0 ∧ I2 k 1 = I k 1
theorem FM_r {lo hi : Nat} {I : zM} : FM lo hi I I := ⟨fun _ _ => rfl, fun _ _ => ⟨rfl, rfl⟩⟩
theorem FM_t {lo hi : Nat} {I I2 I3 : zM} (h1 : FM lo hi I I2) (h2 : FM lo hi I2 I3) : FM lo hi I I3 := ⟨fun k h => (h2.1 k h).trans (h1.1 k h), fun k h => ⟨(h2.2 k h).1.trans (h1.2 k h).1, (h2.2 k h).2.trans (h1.2 k h).2⟩⟩
theorem FM_w {lo hi : Nat} {I M M2 : zM} (hm : FM lo hi I M) {ix j : Nat} {v : Int32} (e : M2 = ms M ix j v) (h1 : lo ≤ ix) (h2 : ix < hi) (hk : zK ix ≠ 4 ∨ 2 ≤ j) : FM lo hi I M2 := by
  subst e
  refine FM_t hm ⟨fun k h => ms_n (by omega), fun k h => ?_⟩
  by_cases hki : k = ix
  · subst hki
    rcases hk with q | q
    · exact absurd h q
    · exact ⟨ms_sn (by omega), ms_sn (by omega)⟩
  · rw [ms_n hki]
    exact ⟨rfl, rfl⟩
theorem FM_mono {lo hi lo2 hi2 : Nat} {I I2 : zM} (h : FM lo hi I I2) (h1 : lo2 ≤ lo) (h2 : hi ≤ hi2) : FM lo2 hi2 I I2 := ⟨fun k hk => h.1 k (by omega), h.2⟩
theorem rg_X2_personAt {I : zM} {x0 : Nat} {x1 : Int32} {r : Nat} (hf : f_X2_personAt I x0 x1 = some r) : x0 ≤ r ∧ r + 2 ≤ x0 + 109 := by
  unfold f_X2_personAt at hf
  split at hf
  · cases hf
    omega
  · split at hf
    · cases hf
      omega
    · obtain ⟨h, hf⟩ := zck_e hf
      cases hf
      have := zin_lt h
      omega
theorem rg_X2_toolAt {I : zM} {x0 : Nat} {x1 : Int32} {r : Nat} (hf : f_X2_toolAt I x0 x1 = some r) : x0 ≤ r ∧ r + 7 ≤ x0 + 109 := by
  unfold f_X2_toolAt at hf
  split at hf
  · cases hf
    omega
  · split at hf
    · cases hf
      omega
    · obtain ⟨h, hf⟩ := zck_e hf
      cases hf
      have := zin_lt h
      omega
theorem fm_X4_append (lo hi : Nat) {I : zM} {x0 : Nat} (hk_x0 : zK x0 = 4) (hr : lo ≤ x0 ∧ x0 + 2 ≤ hi) {r : Int32 × zM} (hf : f_X4_append I x0 = some r) : FM lo hi I r.2 := by
  have hm : FM lo hi I I := FM_r
  have L_f_X4_append_l26 : ∀ (K : zM → Option (Int32 × zM)) (hKK : ∀ (k0 : zM), K k0 = some r → FM lo hi I k0 → FM lo hi I r.2) (n : Nat) (M : zM) (y1 : Int32), f_X4_append_l26 x0 K n M y1 = some r → FM lo hi I M → FM lo hi I r.2 := by
    intro K hKK n
    induction n with
    | zero =>
      intro M y1 hf
      rw [f_X4_append_l26] at hf
      cases hf
    | succ n ih =>
      intro M y1 hf hm
      rw [f_X4_append_l26] at hf
      rcases Classical.em ((Int32.ofNat (zLn (x0 + 1))) ≤ y1) with c102 | c102
      · have hf := zif_t c102 hf
        exact hKK M hf hm
      · have hf := zif_f c102 hf
        obtain ⟨w3, ew3, hf⟩ := zlet_e hf
        rcases Classical.em (w3 < 0) with c103 | c103
        · have hf := zif_t c103 hf
          exact ih M (y1 + 1) hf hm
        · have hf := zif_f c103 hf
          rcases Classical.em ((Int32.ofNat (zLn (x0 + 1))) ≤ w3) with c104 | c104
          · have hf := zif_t c104 hf
            exact ih M (y1 + 1) hf hm
          · have hf := zif_f c104 hf
            have hf := (zck_e hf).2
            have hf := (zck_e hf).2
            obtain ⟨M7, eM7, hf⟩ := zlet_e hf
            have m105 : FM lo hi I M7 := FM_w hm eM7 (by omega) (by omega) (Or.inl (by rw [(zk_4_2 hk_x0)]; decide))
            exact ih M7 (y1 + 1) hf m105
  have L_f_X4_append_l85 : ∀ (n : Nat) (M : zM) (y1 : Int32), f_X4_append_l85 x0 n M y1 = some r → FM lo hi I M → FM lo hi I r.2 := by
    intro  n
    induction n with
    | zero =>
      intro M y1 hf
      rw [f_X4_append_l85] at hf
      cases hf
    | succ n ih =>
      intro M y1 hf hm
      rw [f_X4_append_l85] at hf
      rcases Classical.em (y1 < 0) with c203 | c203
      · have hf := zif_t c203 hf
        obtain rfl := Option.some.inj hf
        exact hm
      · have hf := zif_f c203 hf
        rcases Classical.em (((M x0 3) * (M x0 1)) ≤ y1) with c204 | c204
        · have hf := zif_t c204 hf
          obtain rfl := Option.some.inj hf
          exact hm
        · have hf := zif_f c204 hf
          rcases Classical.em ((Int32.ofNat (zLn (x0 + 1))) ≤ y1) with c205 | c205
          · have hf := zif_t c205 hf
            obtain rfl := Option.some.inj hf
            exact hm
          · have hf := zif_f c205 hf
            have hf := (zck_e hf).2
            obtain ⟨M14, eM14, hf⟩ := zlet_e hf
            have m206 : FM lo hi I M14 := FM_w hm eM14 (by omega) (by omega) (Or.inl (by rw [(zk_4_2 hk_x0)]; decide))
            exact ih M14 (y1 + 1) hf m206
  have J_f_X4_append_j73 : ∀ (M : zM), f_X4_append_j73 M x0 = some r → FM lo hi I M → FM lo hi I r.2 := by
    intro M hf hm
    unfold f_X4_append_j73 at hf
    obtain ⟨w10, ew10, hf⟩ := zlet_e hf
    exact L_f_X4_append_l85  zFu M w10 hf hm
  unfold f_X4_append at hf
  rcases Classical.em ((I x0 0) ≤ (I x0 3)) with c1 | c1
  · have hf := zif_t c1 hf
    refine L_f_X4_append_l26 _ (fun M9 hf m2 => ?_) zFu I 0 hf hm
    exact J_f_X4_append_j73 M9 hf m2
  · have hf := zif_f c1 hf
    obtain ⟨M16, eM16, hf⟩ := zlet_e hf
    have m3 : FM lo hi I M16 := FM_w hm eM16 (by omega) (by omega) (Or.inr (by decide))
    exact J_f_X4_append_j73 M16 hf m3
theorem fm_X4_setCell (lo hi : Nat) {I : zM} {x0 : Nat} {x1 : Int32} {x2 : Int32} {x3 : Int32} (hk_x0 : zK x0 = 4) (hr : lo ≤ x0 ∧ x0 + 2 ≤ hi) {r : zM} (hf : f_X4_setCell I x0 x1 x2 x3 = some r) : FM lo hi I r := by
  have hm : FM lo hi I I := FM_r
  unfold f_X4_setCell at hf
  rcases Classical.em (x1 < 0) with c1 | c1
  · have hf := zif_t c1 hf
    obtain rfl := Option.some.inj hf
    exact hm
  · have hf := zif_f c1 hf
    rcases Classical.em ((I x0 3) ≤ x1) with c2 | c2
    · have hf := zif_t c2 hf
      obtain rfl := Option.some.inj hf
      exact hm
    · have hf := zif_f c2 hf
      rcases Classical.em (x2 < 0) with c3 | c3
      · have hf := zif_t c3 hf
        obtain rfl := Option.some.inj hf
        exact hm
      · have hf := zif_f c3 hf
        rcases Classical.em (x2 < (I x0 1)) with c4 | c4
        · have hf := zif_t c4 hf
          obtain ⟨w5, ew5, hf⟩ := zlet_e hf
          rcases Classical.em (w5 < 0) with c5 | c5
          · have hf := zif_t c5 hf
            obtain rfl := Option.some.inj hf
            exact hm
          · have hf := zif_f c5 hf
            rcases Classical.em ((Int32.ofNat (zLn (x0 + 1))) ≤ w5) with c6 | c6
            · have hf := zif_t c6 hf
              obtain rfl := Option.some.inj hf
              exact hm
            · have hf := zif_f c6 hf
              have hf := (zck_e hf).2
              obtain ⟨M8, eM8, hf⟩ := zlet_e hf
              have m7 : FM lo hi I M8 := FM_w hm eM8 (by omega) (by omega) (Or.inl (by rw [(zk_4_2 hk_x0)]; decide))
              obtain rfl := Option.some.inj hf
              exact m7
        · have hf := zif_f c4 hf
          obtain rfl := Option.some.inj hf
          exact hm
theorem fm_X0_addOnce (lo hi : Nat) {I : zM} {x0 : Nat} {x1 : Int32} (hk_x0 : zK x0 = 0) (hr : lo ≤ x0 ∧ x0 + 3 ≤ hi) {r : zM} (hf : f_X0_addOnce I x0 x1 = some r) : FM lo hi I r := by
  have hm : FM lo hi I I := FM_r
  unfold f_X0_addOnce at hf
  obtain ⟨q1, hq1, hf⟩ := zb_e hf
  rcases Classical.em (q1 = 0) with c1 | c1
  · have hf := zif_t c1 hf
    obtain ⟨M3, eM3, hf⟩ := zlet_e hf
    have m2 : FM lo hi I M3 := FM_w hm eM3 (by omega) (by omega) (Or.inl (by rw [hk_x0]; decide))
    obtain ⟨q4, hq4, hf⟩ := zb_e hf
    have m3 : FM lo hi I q4.2 := FM_t m2 (fm_X4_append lo hi (zk_0_0 hk_x0) (by omega) hq4)
    obtain ⟨q5, hq5, hf⟩ := zb_e hf
    have m4 : FM lo hi I q5 := FM_t m3 (fm_X4_setCell lo hi (zk_0_0 hk_x0) (by omega) hq5)
    obtain rfl := Option.some.inj hf
    exact m4
  · have hf := zif_f c1 hf
    obtain rfl := Option.some.inj hf
    exact hm
theorem fm_X4_clear (lo hi : Nat) {I : zM} {x0 : Nat} (hk_x0 : zK x0 = 4) (hr : lo ≤ x0 ∧ x0 + 2 ≤ hi) {r : zM} (hf : f_X4_clear I x0 = some r) : FM lo hi I r := by
  have hm : FM lo hi I I := FM_r
  unfold f_X4_clear at hf
  obtain ⟨M1, eM1, hf⟩ := zlet_e hf
  have m1 : FM lo hi I M1 := FM_w hm eM1 (by omega) (by omega) (Or.inr (by decide))
  obtain rfl := Option.some.inj hf
  exact m1
theorem fm_X0_findFor (lo hi : Nat) {I : zM} {x0 : Nat} {x1 : Nat} (hk_x0 : zK x0 = 0) (hk_x1 : zK x1 = 7) (hr : lo ≤ x0 ∧ x0 + 3 ≤ hi) {r : zM} (hf : f_X0_findFor I x0 x1 = some r) : FM lo hi I r := by
  have hm : FM lo hi I I := FM_r
  have L_f_X0_findFor_l66 : ∀ (n : Nat) (M : zM) (y5 : Int32), f_X0_findFor_l66 x0 x1 n M y5 = some r → FM lo hi I M → FM lo hi I r := by
    intro  n
    induction n with
    | zero =>
      intro M y5 hf
      rw [f_X0_findFor_l66] at hf
      cases hf
    | succ n ih =>
      intro M y5 hf hm
      rw [f_X0_findFor_l66] at hf
      obtain ⟨q11, hq11, hf⟩ := zb_e hf
      rcases Classical.em (q11 ≤ y5) with c103 | c103
      · have hf := zif_t c103 hf
        obtain rfl := Option.some.inj hf
        exact hm
      · have hf := zif_f c103 hf
        obtain ⟨q13, hq13, hf⟩ := zb_e hf
        obtain ⟨q14, hq14, hf⟩ := zb_e hf
        have m104 : FM lo hi I q14 := FM_t hm (fm_X0_addOnce lo hi hk_x0 (by omega) hq14)
        exact ih q14 (y5 + 1) hf m104
  unfold f_X0_findFor at hf
  obtain ⟨q1, hq1, hf⟩ := zb_e hf
  have m1 : FM lo hi I q1 := FM_t hm (fm_X4_clear lo hi (zk_0_0 hk_x0) (by omega) hq1)
  obtain ⟨M2, eM2, hf⟩ := zlet_e hf
  have m2 : FM lo hi I M2 := FM_w m1 eM2 (by omega) (by omega) (Or.inl (by rw [hk_x0]; decide))
  obtain ⟨q3, hq3, hf⟩ := zb_e hf
  obtain ⟨w4, ew4, hf⟩ := zlet_e hf
  obtain ⟨q5, hq5, hf⟩ := zb_e hf
  obtain ⟨q6, hq6, hf⟩ := zb_e hf
  obtain ⟨w7, ew7, hf⟩ := zlet_e hf
  obtain ⟨q8, hq8, hf⟩ := zb_e hf
  obtain ⟨w9, ew9, hf⟩ := zlet_e hf
  obtain ⟨w10, ew10, hf⟩ := zlet_e hf
  exact L_f_X0_findFor_l66  zFu M2 w10 hf m2
theorem fm_X1_take (lo hi : Nat) {I : zM} {x0 : Nat} {x1 : Int32} {x2 : Int32} (hk_x0 : zK x0 = 1) (hr : lo ≤ x0 ∧ x0 + 3 ≤ hi) {r : zM} (hf : f_X1_take I x0 x1 x2 = some r) : FM lo hi I r := by
  have hm : FM lo hi I I := FM_r
  unfold f_X1_take at hf
  obtain ⟨M1, eM1, hf⟩ := zlet_e hf
  have m1 : FM lo hi I M1 := FM_w hm eM1 (by omega) (by omega) (Or.inl (by rw [hk_x0]; decide))
  obtain ⟨M2, eM2, hf⟩ := zlet_e hf
  have m2 : FM lo hi I M2 := FM_w m1 eM2 (by omega) (by omega) (Or.inl (by rw [hk_x0]; decide))
  obtain rfl := Option.some.inj hf
  exact m2
theorem fm_X1_takeRow (lo hi : Nat) {I : zM} {x0 : Nat} {x1 : Int32} (hk_x0 : zK x0 = 1) (hr : lo ≤ x0 ∧ x0 + 3 ≤ hi) {r : zM} (hf : f_X1_takeRow I x0 x1 = some r) : FM lo hi I r := by
  have hm : FM lo hi I I := FM_r
  have L_f_X1_takeRow_l15 : ∀ (n : Nat) (M : zM) (y2 : Int32), f_X1_takeRow_l15 x0 x1 n M y2 = some r → FM lo hi I M → FM lo hi I r := by
    intro  n
    induction n with
    | zero =>
      intro M y2 hf
      rw [f_X1_takeRow_l15] at hf
      cases hf
    | succ n ih =>
      intro M y2 hf hm
      rw [f_X1_takeRow_l15] at hf
      rcases Classical.em (x1 ≤ y2) with c103 | c103
      · have hf := zif_t c103 hf
        obtain rfl := Option.some.inj hf
        exact hm
      · have hf := zif_f c103 hf
        obtain ⟨q4, hq4, hf⟩ := zb_e hf
        have m104 : FM lo hi I q4.2 := FM_t hm (fm_X4_append lo hi (zk_1_2 hk_x0) (by omega) hq4)
        exact ih q4.2 (y2 + 1) hf m104
  unfold f_X1_takeRow at hf
  obtain ⟨q1, hq1, hf⟩ := zb_e hf
  have m1 : FM lo hi I q1 := FM_t hm (fm_X1_take lo hi hk_x0 (by omega) hq1)
  obtain ⟨q2, hq2, hf⟩ := zb_e hf
  have m2 : FM lo hi I q2 := FM_t m1 (fm_X4_clear lo hi (zk_1_2 hk_x0) (by omega) hq2)
  exact L_f_X1_takeRow_l15  zFu q2 0 hf m2
theorem fm_X2_bringCoins (lo hi : Nat) {I : zM} {x0 : Nat} {x1 : Int32} {x2 : Int32} (hk_x0 : zK x0 = 2) (hr : lo ≤ x0 ∧ x0 + 109 ≤ hi) {r : Int32 × zM} (hf : f_X2_bringCoins I x0 x1 x2 = some r) : FM lo hi I r.2 := by
  have hm : FM lo hi I I := FM_r
  unfold f_X2_bringCoins at hf
  obtain ⟨q1, hq1, hf⟩ := zb_e hf
  rcases Classical.em (q1 = 0) with c1 | c1
  · have hf := zif_t c1 hf
    obtain rfl := Option.some.inj hf
    exact hm
  · have hf := zif_f c1 hf
    rcases Classical.em (x2 < 1) with c2 | c2
    · have hf := zif_t c2 hf
      obtain rfl := Option.some.inj hf
      exact hm
    · have hf := zif_f c2 hf
      rcases Classical.em (x2 ≤ 999) with c3 | c3
      · have hf := zif_t c3 hf
        obtain ⟨q5, hq5, hf⟩ := zb_e hf
        have hk_q5 : zK q5 = 3 := kd_X2_personAt hk_x0 hq5
        have hr_q5 := rg_X2_personAt hq5
        obtain ⟨w6, ew6, hf⟩ := zlet_e hf
        obtain ⟨w7, ew7, hf⟩ := zlet_e hf
        rcases Classical.em (w7 ≤ 9999) with c4 | c4
        · have hf := zif_t c4 hf
          obtain ⟨M9, eM9, hf⟩ := zlet_e hf
          have m5 : FM lo hi I M9 := FM_w hm eM9 (by omega) (by omega) (Or.inl (by rw [hk_q5]; decide))
          obtain ⟨M10, eM10, hf⟩ := zlet_e hf
          have m6 : FM lo hi I M10 := FM_w m5 eM10 (by omega) (by omega) (Or.inl (by rw [hk_q5]; decide))
          obtain ⟨M11, eM11, hf⟩ := zlet_e hf
          have m7 : FM lo hi I M11 := FM_w m6 eM11 (by omega) (by omega) (Or.inl (by rw [hk_x0]; decide))
          obtain rfl := Option.some.inj hf
          exact m7
        · have hf := zif_f c4 hf
          obtain rfl := Option.some.inj hf
          exact hm
      · have hf := zif_f c3 hf
        obtain rfl := Option.some.inj hf
        exact hm
theorem fm_X3_setWishOf (lo hi : Nat) {I : zM} {x0 : Nat} {x1 : Int32} {x2 : Int32} (hk_x0 : zK x0 = 3) (hr : lo ≤ x0 ∧ x0 + 2 ≤ hi) {r : zM} (hf : f_X3_setWishOf I x0 x1 x2 = some r) : FM lo hi I r := by
  have hm : FM lo hi I I := FM_r
  unfold f_X3_setWishOf at hf
  rcases Classical.em (x1 < 0) with c1 | c1
  · have hf := zif_t c1 hf
    obtain rfl := Option.some.inj hf
    exact hm
  · have hf := zif_f c1 hf
    rcases Classical.em (10 ≤ x1) with c2 | c2
    · have hf := zif_t c2 hf
      obtain rfl := Option.some.inj hf
      exact hm
    · have hf := zif_f c2 hf
      have hf := (zck_e hf).2
      obtain ⟨M3, eM3, hf⟩ := zlet_e hf
      have m3 : FM lo hi I M3 := FM_w hm eM3 (by omega) (by omega) (Or.inl (by rw [(zk_3_5 hk_x0)]; decide))
      obtain rfl := Option.some.inj hf
      exact m3
theorem fm_X3_copyFrom (lo hi : Nat) {I : zM} {x0 : Nat} {x1 : Nat} (hk_x0 : zK x0 = 3) (hk_x1 : zK x1 = 3) (hr : lo ≤ x0 ∧ x0 + 2 ≤ hi) {r : zM} (hf : f_X3_copyFrom I x0 x1 = some r) : FM lo hi I r := by
  have hm : FM lo hi I I := FM_r
  have L_f_X3_copyFrom_l42 : ∀ (n : Nat) (M : zM) (y2 : Int32), f_X3_copyFrom_l42 x0 x1 n M y2 = some r → FM lo hi I M → FM lo hi I r := by
    intro  n
    induction n with
    | zero =>
      intro M y2 hf
      rw [f_X3_copyFrom_l42] at hf
      cases hf
    | succ n ih =>
      intro M y2 hf hm
      rw [f_X3_copyFrom_l42] at hf
      rcases Classical.em (10 ≤ y2) with c106 | c106
      · have hf := zif_t c106 hf
        obtain rfl := Option.some.inj hf
        exact hm
      · have hf := zif_f c106 hf
        obtain ⟨q7, hq7, hf⟩ := zb_e hf
        obtain ⟨q8, hq8, hf⟩ := zb_e hf
        have m107 : FM lo hi I q8 := FM_t hm (fm_X3_setWishOf lo hi hk_x0 (by omega) hq8)
        exact ih q8 (y2 + 1) hf m107
  unfold f_X3_copyFrom at hf
  obtain ⟨M1, eM1, hf⟩ := zlet_e hf
  have m1 : FM lo hi I M1 := FM_w hm eM1 (by omega) (by omega) (Or.inl (by rw [hk_x0]; decide))
  obtain ⟨M2, eM2, hf⟩ := zlet_e hf
  have m2 : FM lo hi I M2 := FM_w m1 eM2 (by omega) (by omega) (Or.inl (by rw [hk_x0]; decide))
  obtain ⟨M3, eM3, hf⟩ := zlet_e hf
  have m3 : FM lo hi I M3 := FM_w m2 eM3 (by omega) (by omega) (Or.inl (by rw [hk_x0]; decide))
  obtain ⟨M4, eM4, hf⟩ := zlet_e hf
  have m4 : FM lo hi I M4 := FM_w m3 eM4 (by omega) (by omega) (Or.inl (by rw [hk_x0]; decide))
  obtain ⟨M5, eM5, hf⟩ := zlet_e hf
  have m5 : FM lo hi I M5 := FM_w m4 eM5 (by omega) (by omega) (Or.inl (by rw [hk_x0]; decide))
  exact L_f_X3_copyFrom_l42  zFu M5 0 hf m5
theorem fm_X4_copyFrom (lo hi : Nat) {I : zM} {x0 : Nat} {x1 : Nat} (hk_x0 : zK x0 = 4) (hk_x1 : zK x1 = 4) (hr : lo ≤ x0 ∧ x0 + 2 ≤ hi) {r : zM} (hf : f_X4_copyFrom I x0 x1 = some r) : FM lo hi I r := by
  have hm : FM lo hi I I := FM_r
  have L_f_X4_copyFrom_l27 : ∀ (y2 : Int32) (K : zM → Option (zM)) (hKK : ∀ (k0 : zM), K k0 = some r → FM lo hi I k0 → FM lo hi I r) (n : Nat) (M : zM) (y3 : Int32), f_X4_copyFrom_l27 x0 x1 y2 K n M y3 = some r → FM lo hi I M → FM lo hi I r := by
    intro y2 K hKK n
    induction n with
    | zero =>
      intro M y3 hf
      rw [f_X4_copyFrom_l27] at hf
      cases hf
    | succ n ih =>
      intro M y3 hf hm
      rw [f_X4_copyFrom_l27] at hf
      rcases Classical.em ((M x0 1) ≤ y3) with c203 | c203
      · have hf := zif_t c203 hf
        exact hKK M hf hm
      · have hf := zif_f c203 hf
        obtain ⟨q5, hq5, hf⟩ := zb_e hf
        obtain ⟨q6, hq6, hf⟩ := zb_e hf
        have m204 : FM lo hi I q6 := FM_t hm (fm_X4_setCell lo hi hk_x0 (by omega) hq6)
        exact ih q6 (y3 + 1) hf m204
  have L_f_X4_copyFrom_l17 : ∀ (n : Nat) (M : zM) (y2 : Int32), f_X4_copyFrom_l17 x0 x1 n M y2 = some r → FM lo hi I M → FM lo hi I r := by
    intro  n
    induction n with
    | zero =>
      intro M y2 hf
      rw [f_X4_copyFrom_l17] at hf
      cases hf
    | succ n ih =>
      intro M y2 hf hm
      rw [f_X4_copyFrom_l17] at hf
      rcases Classical.em ((M x0 3) ≤ y2) with c102 | c102
      · have hf := zif_t c102 hf
        obtain rfl := Option.some.inj hf
        exact hm
      · have hf := zif_f c102 hf
        refine L_f_X4_copyFrom_l27 y2 _ (fun M7 hf m103 => ?_) zFu M 0 hf hm
        exact ih M7 (y2 + 1) hf m103
  unfold f_X4_copyFrom at hf
  obtain ⟨w1, ew1, hf⟩ := zlet_e hf
  obtain ⟨M2, eM2, hf⟩ := zlet_e hf
  have m1 : FM lo hi I M2 := FM_w hm eM2 (by omega) (by omega) (Or.inr (by decide))
  exact L_f_X4_copyFrom_l17  zFu M2 0 hf m1
theorem fm_X7_copyFrom (lo hi : Nat) {I : zM} {x0 : Nat} {x1 : Nat} (hk_x0 : zK x0 = 7) (hk_x1 : zK x1 = 7) (hr : lo ≤ x0 ∧ x0 + 7 ≤ hi) {r : zM} (hf : f_X7_copyFrom I x0 x1 = some r) : FM lo hi I r := by
  have hm : FM lo hi I I := FM_r
  unfold f_X7_copyFrom at hf
  obtain ⟨M1, eM1, hf⟩ := zlet_e hf
  have m1 : FM lo hi I M1 := FM_w hm eM1 (by omega) (by omega) (Or.inl (by rw [hk_x0]; decide))
  obtain ⟨M2, eM2, hf⟩ := zlet_e hf
  have m2 : FM lo hi I M2 := FM_w m1 eM2 (by omega) (by omega) (Or.inl (by rw [hk_x0]; decide))
  obtain ⟨M3, eM3, hf⟩ := zlet_e hf
  have m3 : FM lo hi I M3 := FM_w m2 eM3 (by omega) (by omega) (Or.inl (by rw [hk_x0]; decide))
  obtain ⟨M4, eM4, hf⟩ := zlet_e hf
  have m4 : FM lo hi I M4 := FM_w m3 eM4 (by omega) (by omega) (Or.inl (by rw [hk_x0]; decide))
  obtain ⟨M5, eM5, hf⟩ := zlet_e hf
  have m5 : FM lo hi I M5 := FM_w m4 eM5 (by omega) (by omega) (Or.inl (by rw [hk_x0]; decide))
  obtain ⟨M6, eM6, hf⟩ := zlet_e hf
  have m6 : FM lo hi I M6 := FM_w m5 eM6 (by omega) (by omega) (Or.inl (by rw [hk_x0]; decide))
  obtain ⟨M7, eM7, hf⟩ := zlet_e hf
  have m7 : FM lo hi I M7 := FM_w m6 eM7 (by omega) (by omega) (Or.inl (by rw [hk_x0]; decide))
  obtain ⟨q8, hq8, hf⟩ := zb_e hf
  have m8 : FM lo hi I q8 := FM_t m7 (fm_X4_copyFrom lo hi (zk_7_7 hk_x0) (zk_7_7 hk_x1) (by omega) hq8)
  obtain ⟨q9, hq9, hf⟩ := zb_e hf
  have m9 : FM lo hi I q9 := FM_t m8 (fm_X4_copyFrom lo hi (zk_7_8 hk_x0) (zk_7_8 hk_x1) (by omega) hq9)
  obtain ⟨q10, hq10, hf⟩ := zb_e hf
  have m10 : FM lo hi I q10 := FM_t m9 (fm_X4_copyFrom lo hi (zk_7_9 hk_x0) (zk_7_9 hk_x1) (by omega) hq10)
  obtain rfl := Option.some.inj hf
  exact m10
theorem fm_X2_copyFrom (lo hi : Nat) {I : zM} {x0 : Nat} {x1 : Nat} (hk_x0 : zK x0 = 2) (hk_x1 : zK x1 = 2) (hr : lo ≤ x0 ∧ x0 + 109 ≤ hi) {r : zM} (hf : f_X2_copyFrom I x0 x1 = some r) : FM lo hi I r := by
  have hm : FM lo hi I I := FM_r
  have L_f_X2_copyFrom_l50 : ∀ (K : zM → Option (zM)) (hKK : ∀ (k0 : zM), K k0 = some r → FM lo hi I k0 → FM lo hi I r) (n : Nat) (M : zM) (y2 : Int32), f_X2_copyFrom_l50 x0 x1 K n M y2 = some r → FM lo hi I M → FM lo hi I r := by
    intro K hKK n
    induction n with
    | zero =>
      intro M y2 hf
      rw [f_X2_copyFrom_l50] at hf
      cases hf
    | succ n ih =>
      intro M y2 hf hm
      rw [f_X2_copyFrom_l50] at hf
      rcases Classical.em ((M x0 5) ≤ y2) with c107 | c107
      · have hf := zif_t c107 hf
        exact hKK M hf hm
      · have hf := zif_f c107 hf
        obtain ⟨q8, hq8, hf⟩ := zb_e hf
        have hk_q8 : zK q8 = 3 := kd_X2_personAt hk_x0 hq8
        have hr_q8 := rg_X2_personAt hq8
        obtain ⟨q9, hq9, hf⟩ := zb_e hf
        have hk_q9 : zK q9 = 3 := kd_X2_personAt hk_x1 hq9
        have hr_q9 := rg_X2_personAt hq9
        obtain ⟨q10, hq10, hf⟩ := zb_e hf
        have m108 : FM lo hi I q10 := FM_t hm (fm_X3_copyFrom lo hi hk_q8 hk_q9 (by omega) hq10)
        exact ih q10 (y2 + 1) hf m108
  have L_f_X2_copyFrom_l79 : ∀ (n : Nat) (M : zM) (y2 : Int32), f_X2_copyFrom_l79 x0 x1 n M y2 = some r → FM lo hi I M → FM lo hi I r := by
    intro  n
    induction n with
    | zero =>
      intro M y2 hf
      rw [f_X2_copyFrom_l79] at hf
      cases hf
    | succ n ih =>
      intro M y2 hf hm
      rw [f_X2_copyFrom_l79] at hf
      rcases Classical.em ((M x0 6) ≤ y2) with c108 | c108
      · have hf := zif_t c108 hf
        obtain rfl := Option.some.inj hf
        exact hm
      · have hf := zif_f c108 hf
        obtain ⟨q13, hq13, hf⟩ := zb_e hf
        have hk_q13 : zK q13 = 7 := kd_X2_toolAt hk_x0 hq13
        have hr_q13 := rg_X2_toolAt hq13
        obtain ⟨q14, hq14, hf⟩ := zb_e hf
        have hk_q14 : zK q14 = 7 := kd_X2_toolAt hk_x1 hq14
        have hr_q14 := rg_X2_toolAt hq14
        obtain ⟨q15, hq15, hf⟩ := zb_e hf
        have m109 : FM lo hi I q15 := FM_t hm (fm_X7_copyFrom lo hi hk_q13 hk_q14 (by omega) hq15)
        exact ih q15 (y2 + 1) hf m109
  unfold f_X2_copyFrom at hf
  obtain ⟨M1, eM1, hf⟩ := zlet_e hf
  have m1 : FM lo hi I M1 := FM_w hm eM1 (by omega) (by omega) (Or.inl (by rw [hk_x0]; decide))
  obtain ⟨M2, eM2, hf⟩ := zlet_e hf
  have m2 : FM lo hi I M2 := FM_w m1 eM2 (by omega) (by omega) (Or.inl (by rw [hk_x0]; decide))
  obtain ⟨M3, eM3, hf⟩ := zlet_e hf
  have m3 : FM lo hi I M3 := FM_w m2 eM3 (by omega) (by omega) (Or.inl (by rw [hk_x0]; decide))
  obtain ⟨M4, eM4, hf⟩ := zlet_e hf
  have m4 : FM lo hi I M4 := FM_w m3 eM4 (by omega) (by omega) (Or.inl (by rw [hk_x0]; decide))
  obtain ⟨M5, eM5, hf⟩ := zlet_e hf
  have m5 : FM lo hi I M5 := FM_w m4 eM5 (by omega) (by omega) (Or.inl (by rw [hk_x0]; decide))
  obtain ⟨M6, eM6, hf⟩ := zlet_e hf
  have m6 : FM lo hi I M6 := FM_w m5 eM6 (by omega) (by omega) (Or.inl (by rw [hk_x0]; decide))
  refine L_f_X2_copyFrom_l50 _ (fun M11 hf m7 => ?_) zFu M6 0 hf m6
  exact L_f_X2_copyFrom_l79  zFu M11 0 hf m7
theorem fm_X4_remove (lo hi : Nat) {I : zM} {x0 : Nat} {x1 : Int32} (hk_x0 : zK x0 = 4) (hr : lo ≤ x0 ∧ x0 + 2 ≤ hi) {r : zM} (hf : f_X4_remove I x0 x1 = some r) : FM lo hi I r := by
  have hm : FM lo hi I I := FM_r
  have L_f_X4_remove_l20 : ∀ (n : Nat) (M : zM) (y2 : Int32), f_X4_remove_l20 x0 n M y2 = some r → FM lo hi I M → FM lo hi I r := by
    intro  n
    induction n with
    | zero =>
      intro M y2 hf
      rw [f_X4_remove_l20] at hf
      cases hf
    | succ n ih =>
      intro M y2 hf hm
      rw [f_X4_remove_l20] at hf
      rcases Classical.em (y2 < 0) with c103 | c103
      · have hf := zif_t c103 hf
        obtain ⟨M5, eM5, hf⟩ := zlet_e hf
        have m104 : FM lo hi I M5 := FM_w hm eM5 (by omega) (by omega) (Or.inr (by decide))
        obtain rfl := Option.some.inj hf
        exact m104
      · have hf := zif_f c103 hf
        rcases Classical.em ((Int32.ofNat (zLn (x0 + 1))) ≤ y2) with c105 | c105
        · have hf := zif_t c105 hf
          obtain ⟨M7, eM7, hf⟩ := zlet_e hf
          have m106 : FM lo hi I M7 := FM_w hm eM7 (by omega) (by omega) (Or.inr (by decide))
          obtain rfl := Option.some.inj hf
          exact m106
        · have hf := zif_f c105 hf
          obtain ⟨w8, ew8, hf⟩ := zlet_e hf
          rcases Classical.em (w8 < 0) with c107 | c107
          · have hf := zif_t c107 hf
            exact ih M (y2 + 1) hf hm
          · have hf := zif_f c107 hf
            rcases Classical.em ((Int32.ofNat (zLn (x0 + 1))) ≤ w8) with c108 | c108
            · have hf := zif_t c108 hf
              exact ih M (y2 + 1) hf hm
            · have hf := zif_f c108 hf
              have hf := (zck_e hf).2
              have hf := (zck_e hf).2
              obtain ⟨M12, eM12, hf⟩ := zlet_e hf
              have m109 : FM lo hi I M12 := FM_w hm eM12 (by omega) (by omega) (Or.inl (by rw [(zk_4_2 hk_x0)]; decide))
              exact ih M12 (y2 + 1) hf m109
  unfold f_X4_remove at hf
  rcases Classical.em (x1 < 0) with c1 | c1
  · have hf := zif_t c1 hf
    obtain rfl := Option.some.inj hf
    exact hm
  · have hf := zif_f c1 hf
    rcases Classical.em (x1 < (I x0 3)) with c2 | c2
    · have hf := zif_t c2 hf
      obtain ⟨w3, ew3, hf⟩ := zlet_e hf
      exact L_f_X4_remove_l20  zFu I w3 hf hm
    · have hf := zif_f c2 hf
      obtain rfl := Option.some.inj hf
      exact hm
theorem fm_X2_dropClaim (lo hi : Nat) {I : zM} {x0 : Nat} {x1 : Int32} {x2 : Int32} (hk_x0 : zK x0 = 2) (hr : lo ≤ x0 ∧ x0 + 109 ≤ hi) {r : Int32 × zM} (hf : f_X2_dropClaim I x0 x1 x2 = some r) : FM lo hi I r.2 := by
  have hm : FM lo hi I I := FM_r
  unfold f_X2_dropClaim at hf
  obtain ⟨q1, hq1, hf⟩ := zb_e hf
  rcases Classical.em (q1 = 0) with c1 | c1
  · have hf := zif_t c1 hf
    obtain rfl := Option.some.inj hf
    exact hm
  · have hf := zif_f c1 hf
    obtain ⟨q3, hq3, hf⟩ := zb_e hf
    rcases Classical.em (q3 = 0) with c2 | c2
    · have hf := zif_t c2 hf
      obtain rfl := Option.some.inj hf
      exact hm
    · have hf := zif_f c2 hf
      obtain ⟨q5, hq5, hf⟩ := zb_e hf
      have hk_q5 : zK q5 = 7 := kd_X2_toolAt hk_x0 hq5
      have hr_q5 := rg_X2_toolAt hq5
      obtain ⟨q6, hq6, hf⟩ := zb_e hf
      rcases Classical.em (0 ≤ q6) with c3 | c3
      · have hf := zif_t c3 hf
        obtain ⟨q8, hq8, hf⟩ := zb_e hf
        have m4 : FM lo hi I q8 := FM_t hm (fm_X4_remove lo hi (zk_7_9 hk_q5) (by omega) hq8)
        obtain ⟨q9, hq9, hf⟩ := zb_e hf
        obtain rfl := Option.some.inj hf
        exact m4
      · have hf := zif_f c3 hf
        obtain rfl := Option.some.inj hf
        exact hm
theorem fm_X4_insert (lo hi : Nat) {I : zM} {x0 : Nat} {x1 : Int32} (hk_x0 : zK x0 = 4) (hr : lo ≤ x0 ∧ x0 + 2 ≤ hi) {r : zM} (hf : f_X4_insert I x0 x1 = some r) : FM lo hi I r := by
  have hm : FM lo hi I I := FM_r
  have L_f_X4_insert_l24 : ∀ (y2 : Int32) (n : Nat) (M : zM) (y3 : Int32), f_X4_insert_l24 x0 y2 n M y3 = some r → FM lo hi I M → FM lo hi I r := by
    intro y2 n
    induction n with
    | zero =>
      intro M y3 hf
      rw [f_X4_insert_l24] at hf
      cases hf
    | succ n ih =>
      intro M y3 hf hm
      rw [f_X4_insert_l24] at hf
      rcases Classical.em (y3 < 0) with c102 | c102
      · have hf := zif_t c102 hf
        obtain rfl := Option.some.inj hf
        exact hm
      · have hf := zif_f c102 hf
        rcases Classical.em ((Int32.ofNat (zLn (x0 + 1))) ≤ y3) with c103 | c103
        · have hf := zif_t c103 hf
          obtain rfl := Option.some.inj hf
          exact hm
        · have hf := zif_f c103 hf
          obtain ⟨w7, ew7, hf⟩ := zlet_e hf
          rcases Classical.em (w7 < y2) with c104 | c104
          · have hf := zif_t c104 hf
            exact ih M (y3 + (-1)) hf hm
          · have hf := zif_f c104 hf
            rcases Classical.em (w7 < 0) with c105 | c105
            · have hf := zif_t c105 hf
              exact ih M (y3 + (-1)) hf hm
            · have hf := zif_f c105 hf
              rcases Classical.em ((Int32.ofNat (zLn (x0 + 1))) ≤ w7) with c106 | c106
              · have hf := zif_t c106 hf
                exact ih M (y3 + (-1)) hf hm
              · have hf := zif_f c106 hf
                have hf := (zck_e hf).2
                have hf := (zck_e hf).2
                obtain ⟨M12, eM12, hf⟩ := zlet_e hf
                have m107 : FM lo hi I M12 := FM_w hm eM12 (by omega) (by omega) (Or.inl (by rw [(zk_4_2 hk_x0)]; decide))
                exact ih M12 (y3 + (-1)) hf m107
  unfold f_X4_insert at hf
  obtain ⟨q1, hq1, hf⟩ := zb_e hf
  have m1 : FM lo hi I q1.2 := FM_t hm (fm_X4_append lo hi hk_x0 (by omega) hq1)
  obtain ⟨w2, ew2, hf⟩ := zlet_e hf
  obtain ⟨w3, ew3, hf⟩ := zlet_e hf
  obtain ⟨w4, ew4, hf⟩ := zlet_e hf
  exact L_f_X4_insert_l24 w3 zFu q1.2 w4 hf m1
theorem fm_X7_addClaim (lo hi : Nat) {I : zM} {x0 : Nat} {x1 : Int32} {x2 : Int32} {x3 : Int32} {x4 : Int32} (hk_x0 : zK x0 = 7) (hr : lo ≤ x0 ∧ x0 + 7 ≤ hi) {r : Int32 × zM} (hf : f_X7_addClaim I x0 x1 x2 x3 x4 = some r) : FM lo hi I r.2 := by
  have hm : FM lo hi I I := FM_r
  have L_f_X7_addClaim_l3 : ∀ (M : zM) (K : Int32 → Option (Int32 × zM)) (hKK : ∀ (k0 : Int32), K k0 = some r → FM lo hi I M → FM lo hi I r.2) (n : Nat) (y5 : Int32), f_X7_addClaim_l3 M x0 x1 x2 x3 x4 K n y5 = some r → FM lo hi I M → FM lo hi I r.2 := by
    intro M K hKK n
    induction n with
    | zero =>
      intro y5 hf
      rw [f_X7_addClaim_l3] at hf
      cases hf
    | succ n ih =>
      intro y5 hf hm
      rw [f_X7_addClaim_l3] at hf
      obtain ⟨q1, hq1, hf⟩ := zb_e hf
      rcases Classical.em (q1 ≤ y5) with c101 | c101
      · have hf := zif_t c101 hf
        exact hKK y5 hf hm
      · have hf := zif_f c101 hf
        obtain ⟨q3, hq3, hf⟩ := zb_e hf
        rcases Classical.em (q3 = 0) with c102 | c102
        · have hf := zif_t c102 hf
          exact hKK y5 hf hm
        · have hf := zif_f c102 hf
          exact ih (y5 + 1) hf hm
  have J_f_X7_addClaim_j34 : ∀ (M : zM) (y5 : Int32), f_X7_addClaim_j34 M x0 x1 x2 x3 x4 y5 = some r → FM lo hi I M → FM lo hi I r.2 := by
    intro M y5 hf hm
    unfold f_X7_addClaim_j34 at hf
    obtain ⟨q6, hq6, hf⟩ := zb_e hf
    have m102 : FM lo hi I q6 := FM_t hm (fm_X4_insert lo hi (zk_7_9 hk_x0) (by omega) hq6)
    obtain ⟨q7, hq7, hf⟩ := zb_e hf
    have m103 : FM lo hi I q7 := FM_t m102 (fm_X4_setCell lo hi (zk_7_9 hk_x0) (by omega) hq7)
    obtain ⟨q8, hq8, hf⟩ := zb_e hf
    have m104 : FM lo hi I q8 := FM_t m103 (fm_X4_setCell lo hi (zk_7_9 hk_x0) (by omega) hq8)
    obtain ⟨q9, hq9, hf⟩ := zb_e hf
    have m105 : FM lo hi I q9 := FM_t m104 (fm_X4_setCell lo hi (zk_7_9 hk_x0) (by omega) hq9)
    obtain ⟨q10, hq10, hf⟩ := zb_e hf
    have m106 : FM lo hi I q10 := FM_t m105 (fm_X4_setCell lo hi (zk_7_9 hk_x0) (by omega) hq10)
    obtain rfl := Option.some.inj hf
    exact m106
  unfold f_X7_addClaim at hf
  refine L_f_X7_addClaim_l3 I _ (fun z5 hf m1 => ?_) zFu 0 hf hm
  exact J_f_X7_addClaim_j34 I z5 hf m1
theorem fm_X2_enterClaim (lo hi : Nat) {I : zM} {x0 : Nat} {x1 : Int32} {x2 : Int32} {x3 : Int32} {x4 : Int32} (hk_x0 : zK x0 = 2) (hr : lo ≤ x0 ∧ x0 + 109 ≤ hi) {r : Int32 × zM} (hf : f_X2_enterClaim I x0 x1 x2 x3 x4 = some r) : FM lo hi I r.2 := by
  have hm : FM lo hi I I := FM_r
  have J_f_X2_enterClaim_j21 : ∀ (M : zM) (s0 : Int32), f_X2_enterClaim_j21 M x0 x1 x2 x3 x4 s0 = some r → FM lo hi I M → FM lo hi I r.2 := by
    intro M s0 hf hm
    unfold f_X2_enterClaim_j21 at hf
    rcases Classical.em (s0 = 0) with c202 | c202
    · have hf := zif_t c202 hf
      obtain rfl := Option.some.inj hf
      exact hm
    · have hf := zif_f c202 hf
      rcases Classical.em (x3 < 0) with c203 | c203
      · have hf := zif_t c203 hf
        obtain rfl := Option.some.inj hf
        exact hm
      · have hf := zif_f c203 hf
        rcases Classical.em (9 < x3) with c204 | c204
        · have hf := zif_t c204 hf
          obtain rfl := Option.some.inj hf
          exact hm
        · have hf := zif_f c204 hf
          rcases Classical.em (x4 < 1) with c205 | c205
          · have hf := zif_t c205 hf
            obtain rfl := Option.some.inj hf
            exact hm
          · have hf := zif_f c205 hf
            rcases Classical.em (x4 ≤ 30) with c206 | c206
            · have hf := zif_t c206 hf
              obtain ⟨q8, hq8, hf⟩ := zb_e hf
              have hk_q8 : zK q8 = 7 := kd_X2_toolAt hk_x0 hq8
              have hr_q8 := rg_X2_toolAt hq8
              obtain ⟨q9, hq9, hf⟩ := zb_e hf
              rcases Classical.em (0 ≤ q9) with c207 | c207
              · have hf := zif_t c207 hf
                obtain rfl := Option.some.inj hf
                exact hm
              · have hf := zif_f c207 hf
                rcases Classical.em ((M q8 2) = x1) with c208 | c208
                · have hf := zif_t c208 hf
                  obtain rfl := Option.some.inj hf
                  exact hm
                · have hf := zif_f c208 hf
                  obtain ⟨q12, hq12, hf⟩ := zb_e hf
                  rcases Classical.em (q12 < 8) with c209 | c209
                  · have hf := zif_t c209 hf
                    obtain ⟨q14, hq14, hf⟩ := zb_e hf
                    have m210 : FM lo hi I q14.2 := FM_t hm (fm_X7_addClaim lo hi hk_q8 (by omega) hq14)
                    obtain rfl := Option.some.inj hf
                    exact m210
                  · have hf := zif_f c209 hf
                    obtain rfl := Option.some.inj hf
                    exact hm
            · have hf := zif_f c206 hf
              obtain rfl := Option.some.inj hf
              exact hm
  have J_f_X2_enterClaim_j20 : ∀ (M : zM), f_X2_enterClaim_j20 M x0 x1 x2 x3 x4 = some r → FM lo hi I M → FM lo hi I r.2 := by
    intro M hf hm
    unfold f_X2_enterClaim_j20 at hf
    exact J_f_X2_enterClaim_j21 M 0 hf hm
  unfold f_X2_enterClaim at hf
  obtain ⟨q1, hq1, hf⟩ := zb_e hf
  rcases Classical.em (q1 = 0) with c1 | c1
  · have hf := zif_t c1 hf
    exact J_f_X2_enterClaim_j20 I hf hm
  · have hf := zif_f c1 hf
    obtain ⟨q15, hq15, hf⟩ := zb_e hf
    rcases Classical.em (q15 = 0) with c2 | c2
    · have hf := zif_t c2 hf
      exact J_f_X2_enterClaim_j20 I hf hm
    · have hf := zif_f c2 hf
      exact J_f_X2_enterClaim_j21 I 1 hf hm
theorem fm_X3_comeIn (lo hi : Nat) {I : zM} {x0 : Nat} {x1 : Int32} {x2 : Int32} (hk_x0 : zK x0 = 3) (hr : lo ≤ x0 ∧ x0 + 2 ≤ hi) {r : zM} (hf : f_X3_comeIn I x0 x1 x2 = some r) : FM lo hi I r := by
  have hm : FM lo hi I I := FM_r
  have L_f_X3_comeIn_l28 : ∀ (n : Nat) (M : zM) (y3 : Int32), f_X3_comeIn_l28 x0 n M y3 = some r → FM lo hi I M → FM lo hi I r := by
    intro  n
    induction n with
    | zero =>
      intro M y3 hf
      rw [f_X3_comeIn_l28] at hf
      cases hf
    | succ n ih =>
      intro M y3 hf hm
      rw [f_X3_comeIn_l28] at hf
      rcases Classical.em (10 ≤ y3) with c106 | c106
      · have hf := zif_t c106 hf
        obtain rfl := Option.some.inj hf
        exact hm
      · have hf := zif_f c106 hf
        have hf := (zck_e hf).2
        obtain ⟨M7, eM7, hf⟩ := zlet_e hf
        have m107 : FM lo hi I M7 := FM_w hm eM7 (by omega) (by omega) (Or.inl (by rw [(zk_3_5 hk_x0)]; decide))
        exact ih M7 (y3 + 1) hf m107
  unfold f_X3_comeIn at hf
  obtain ⟨M1, eM1, hf⟩ := zlet_e hf
  have m1 : FM lo hi I M1 := FM_w hm eM1 (by omega) (by omega) (Or.inl (by rw [hk_x0]; decide))
  obtain ⟨M2, eM2, hf⟩ := zlet_e hf
  have m2 : FM lo hi I M2 := FM_w m1 eM2 (by omega) (by omega) (Or.inl (by rw [hk_x0]; decide))
  obtain ⟨M3, eM3, hf⟩ := zlet_e hf
  have m3 : FM lo hi I M3 := FM_w m2 eM3 (by omega) (by omega) (Or.inl (by rw [hk_x0]; decide))
  obtain ⟨M4, eM4, hf⟩ := zlet_e hf
  have m4 : FM lo hi I M4 := FM_w m3 eM4 (by omega) (by omega) (Or.inl (by rw [hk_x0]; decide))
  obtain ⟨M5, eM5, hf⟩ := zlet_e hf
  have m5 : FM lo hi I M5 := FM_w m4 eM5 (by omega) (by omega) (Or.inl (by rw [hk_x0]; decide))
  exact L_f_X3_comeIn_l28  zFu M5 0 hf m5
theorem fm_X2_enterPerson (lo hi : Nat) {I : zM} {x0 : Nat} {x1 : Int32} {x2 : Int32} (hk_x0 : zK x0 = 2) (hr : lo ≤ x0 ∧ x0 + 109 ≤ hi) {r : Int32 × zM} (hf : f_X2_enterPerson I x0 x1 x2 = some r) : FM lo hi I r.2 := by
  have hm : FM lo hi I I := FM_r
  have L_f_X2_enterPerson_l22 : ∀ (M : zM) (K : Option (Int32 × zM)) (hKK : K = some r → FM lo hi I M → FM lo hi I r.2) (n : Nat) (y3 : Int32), f_X2_enterPerson_l22 M x0 x1 x2 K n y3 = some r → FM lo hi I M → FM lo hi I r.2 := by
    intro M K hKK n
    induction n with
    | zero =>
      intro y3 hf
      rw [f_X2_enterPerson_l22] at hf
      cases hf
    | succ n ih =>
      intro y3 hf hm
      rw [f_X2_enterPerson_l22] at hf
      rcases Classical.em ((M x0 5) ≤ y3) with c104 | c104
      · have hf := zif_t c104 hf
        exact hKK hf hm
      · have hf := zif_f c104 hf
        obtain ⟨q6, hq6, hf⟩ := zb_e hf
        have hk_q6 : zK q6 = 3 := kd_X2_personAt hk_x0 hq6
        have hr_q6 := rg_X2_personAt hq6
        rcases Classical.em ((M q6 0) = x1) with c105 | c105
        · have hf := zif_t c105 hf
          obtain rfl := Option.some.inj hf
          exact hm
        · have hf := zif_f c105 hf
          exact ih (y3 + 1) hf hm
  unfold f_X2_enterPerson at hf
  obtain ⟨q1, hq1, hf⟩ := zb_e hf
  rcases Classical.em (q1 = 0) with c1 | c1
  · have hf := zif_t c1 hf
    obtain rfl := Option.some.inj hf
    exact hm
  · have hf := zif_f c1 hf
    rcases Classical.em (x2 < 0) with c2 | c2
    · have hf := zif_t c2 hf
      obtain rfl := Option.some.inj hf
      exact hm
    · have hf := zif_f c2 hf
      rcases Classical.em (x2 ≤ 9999) with c3 | c3
      · have hf := zif_t c3 hf
        refine L_f_X2_enterPerson_l22 I _ (fun  hf m4 => ?_) zFu 0 hf hm
        rcases Classical.em ((I x0 5) < 12) with c5 | c5
        · have hf := zif_t c5 hf
          obtain ⟨q9, hq9, hf⟩ := zb_e hf
          have hk_q9 : zK q9 = 3 := kd_X2_personAt hk_x0 hq9
          have hr_q9 := rg_X2_personAt hq9
          obtain ⟨q10, hq10, hf⟩ := zb_e hf
          have m6 : FM lo hi I q10 := FM_t m4 (fm_X3_comeIn lo hi hk_q9 (by omega) hq10)
          obtain ⟨M11, eM11, hf⟩ := zlet_e hf
          have m7 : FM lo hi I M11 := FM_w m6 eM11 (by omega) (by omega) (Or.inl (by rw [hk_x0]; decide))
          obtain rfl := Option.some.inj hf
          exact m7
        · have hf := zif_f c5 hf
          obtain rfl := Option.some.inj hf
          exact m4
      · have hf := zif_f c3 hf
        obtain rfl := Option.some.inj hf
        exact hm
theorem fm_X7_stayAtOffice (lo hi : Nat) {I : zM} {x0 : Nat} (hk_x0 : zK x0 = 7) (hr : lo ≤ x0 ∧ x0 + 7 ≤ hi) {r : zM} (hf : f_X7_stayAtOffice I x0 = some r) : FM lo hi I r := by
  have hm : FM lo hi I I := FM_r
  unfold f_X7_stayAtOffice at hf
  obtain ⟨M1, eM1, hf⟩ := zlet_e hf
  have m1 : FM lo hi I M1 := FM_w hm eM1 (by omega) (by omega) (Or.inl (by rw [hk_x0]; decide))
  obtain ⟨M2, eM2, hf⟩ := zlet_e hf
  have m2 : FM lo hi I M2 := FM_w m1 eM2 (by omega) (by omega) (Or.inl (by rw [hk_x0]; decide))
  obtain ⟨M3, eM3, hf⟩ := zlet_e hf
  have m3 : FM lo hi I M3 := FM_w m2 eM3 (by omega) (by omega) (Or.inl (by rw [hk_x0]; decide))
  obtain ⟨M4, eM4, hf⟩ := zlet_e hf
  have m4 : FM lo hi I M4 := FM_w m3 eM4 (by omega) (by omega) (Or.inl (by rw [hk_x0]; decide))
  obtain rfl := Option.some.inj hf
  exact m4
theorem fm_X7_noteLook (lo hi : Nat) {I : zM} {x0 : Nat} {x1 : Int32} (hk_x0 : zK x0 = 7) (hr : lo ≤ x0 ∧ x0 + 7 ≤ hi) {r : zM} (hf : f_X7_noteLook I x0 x1 = some r) : FM lo hi I r := by
  have hm : FM lo hi I I := FM_r
  have J_f_X7_noteLook_j62 : ∀ (M : zM) (s0 : Int32) (s2 : Int32) (s3 : Nat) (hk_s3 : zK s3 = 4) (hr_s3 : lo ≤ s3 ∧ s3 + 2 ≤ hi), f_X7_noteLook_j62 M s0 s2 s3 = some r → FM lo hi I M → FM lo hi I r := by
    intro M s0 s2 s3 hk_s3 hr_s3 hf hm
    unfold f_X7_noteLook_j62 at hf
    obtain ⟨q7, hq7, hf⟩ := zb_e hf
    have m106 : FM lo hi I q7 := FM_t hm (fm_X4_setCell lo hi hk_s3 (by omega) hq7)
    obtain rfl := Option.some.inj hf
    exact m106
  unfold f_X7_noteLook at hf
  obtain ⟨q1, hq1, hf⟩ := zb_e hf
  have m1 : FM lo hi I q1.2 := FM_t hm (fm_X4_append lo hi (zk_7_8 hk_x0) (by omega) hq1)
  obtain ⟨q2, hq2, hf⟩ := zb_e hf
  have m2 : FM lo hi I q2 := FM_t m1 (fm_X4_setCell lo hi (zk_7_8 hk_x0) (by omega) hq2)
  obtain ⟨q3, hq3, hf⟩ := zb_e hf
  have m3 : FM lo hi I q3 := FM_t m2 (fm_X4_setCell lo hi (zk_7_8 hk_x0) (by omega) hq3)
  obtain ⟨q4, hq4, hf⟩ := zb_e hf
  have m4 : FM lo hi I q4 := FM_t m3 (fm_X4_setCell lo hi (zk_7_8 hk_x0) (by omega) hq4)
  obtain ⟨q5, hq5, hf⟩ := zb_e hf
  rcases Classical.em (q5 = 0) with c5 | c5
  · have hf := zif_t c5 hf
    exact J_f_X7_noteLook_j62 q4 0 q1.1 (x0 + 3) (zk_7_8 hk_x0) (by omega) hf m4
  · have hf := zif_f c5 hf
    exact J_f_X7_noteLook_j62 q4 1 q1.1 (x0 + 3) (zk_7_8 hk_x0) (by omega) hf m4
theorem fm_X7_comeIn (lo hi : Nat) {I : zM} {x0 : Nat} {x1 : Int32} {x2 : Int32} (hk_x0 : zK x0 = 7) (hr : lo ≤ x0 ∧ x0 + 7 ≤ hi) {r : zM} (hf : f_X7_comeIn I x0 x1 x2 = some r) : FM lo hi I r := by
  have hm : FM lo hi I I := FM_r
  unfold f_X7_comeIn at hf
  obtain ⟨M1, eM1, hf⟩ := zlet_e hf
  have m1 : FM lo hi I M1 := FM_w hm eM1 (by omega) (by omega) (Or.inl (by rw [hk_x0]; decide))
  obtain ⟨M2, eM2, hf⟩ := zlet_e hf
  have m2 : FM lo hi I M2 := FM_w m1 eM2 (by omega) (by omega) (Or.inl (by rw [hk_x0]; decide))
  obtain ⟨M3, eM3, hf⟩ := zlet_e hf
  have m3 : FM lo hi I M3 := FM_w m2 eM3 (by omega) (by omega) (Or.inl (by rw [hk_x0]; decide))
  obtain ⟨q4, hq4, hf⟩ := zb_e hf
  have m4 : FM lo hi I q4 := FM_t m3 (fm_X4_clear lo hi (zk_7_7 hk_x0) (by omega) hq4)
  obtain ⟨q5, hq5, hf⟩ := zb_e hf
  have m5 : FM lo hi I q5 := FM_t m4 (fm_X4_clear lo hi (zk_7_8 hk_x0) (by omega) hq5)
  obtain ⟨q6, hq6, hf⟩ := zb_e hf
  have m6 : FM lo hi I q6 := FM_t m5 (fm_X4_clear lo hi (zk_7_9 hk_x0) (by omega) hq6)
  obtain ⟨q7, hq7, hf⟩ := zb_e hf
  have m7 : FM lo hi I q7 := FM_t m6 (fm_X7_stayAtOffice lo hi hk_x0 (by omega) hq7)
  obtain ⟨q8, hq8, hf⟩ := zb_e hf
  have m8 : FM lo hi I q8 := FM_t m7 (fm_X7_noteLook lo hi hk_x0 (by omega) hq8)
  obtain rfl := Option.some.inj hf
  exact m8
theorem fm_X2_enterTool (lo hi : Nat) {I : zM} {x0 : Nat} {x1 : Int32} (hk_x0 : zK x0 = 2) (hr : lo ≤ x0 ∧ x0 + 109 ≤ hi) {r : Int32 × zM} (hf : f_X2_enterTool I x0 x1 = some r) : FM lo hi I r.2 := by
  have hm : FM lo hi I I := FM_r
  unfold f_X2_enterTool at hf
  rcases Classical.em (x1 < 1) with c1 | c1
  · have hf := zif_t c1 hf
    obtain rfl := Option.some.inj hf
    exact hm
  · have hf := zif_f c1 hf
    rcases Classical.em (x1 ≤ 99) with c2 | c2
    · have hf := zif_t c2 hf
      rcases Classical.em ((I x0 6) < 10) with c3 | c3
      · have hf := zif_t c3 hf
        obtain ⟨q4, hq4, hf⟩ := zb_e hf
        have hk_q4 : zK q4 = 7 := kd_X2_toolAt hk_x0 hq4
        have hr_q4 := rg_X2_toolAt hq4
        obtain ⟨q5, hq5, hf⟩ := zb_e hf
        have m4 : FM lo hi I q5 := FM_t hm (fm_X7_comeIn lo hi hk_q4 (by omega) hq5)
        obtain ⟨M6, eM6, hf⟩ := zlet_e hf
        have m5 : FM lo hi I M6 := FM_w m4 eM6 (by omega) (by omega) (Or.inl (by rw [hk_x0]; decide))
        obtain rfl := Option.some.inj hf
        exact m5
      · have hf := zif_f c3 hf
        obtain rfl := Option.some.inj hf
        exact hm
    · have hf := zif_f c2 hf
      obtain rfl := Option.some.inj hf
      exact hm
theorem fm_X2_refuse (lo hi : Nat) {I : zM} {x0 : Nat} {x1 : Int32} {x2 : Int32} (hk_x0 : zK x0 = 2) (hr : lo ≤ x0 ∧ x0 + 109 ≤ hi) {r : Int32 × zM} (hf : f_X2_refuse I x0 x1 x2 = some r) : FM lo hi I r.2 := by
  have hm : FM lo hi I I := FM_r
  unfold f_X2_refuse at hf
  obtain ⟨M1, eM1, hf⟩ := zlet_e hf
  have m1 : FM lo hi I M1 := FM_w hm eM1 (by omega) (by omega) (Or.inl (by rw [hk_x0]; decide))
  obtain ⟨M2, eM2, hf⟩ := zlet_e hf
  have m2 : FM lo hi I M2 := FM_w m1 eM2 (by omega) (by omega) (Or.inl (by rw [hk_x0]; decide))
  obtain rfl := Option.some.inj hf
  exact m2
theorem fm_X7_endLink (lo hi : Nat) {I : zM} {x0 : Nat} {x1 : Int32} (hk_x0 : zK x0 = 7) (hr : lo ≤ x0 ∧ x0 + 7 ≤ hi) {r : zM} (hf : f_X7_endLink I x0 x1 = some r) : FM lo hi I r := by
  have hm : FM lo hi I I := FM_r
  unfold f_X7_endLink at hf
  obtain ⟨q1, hq1, hf⟩ := zb_e hf
  obtain ⟨q2, hq2, hf⟩ := zb_e hf
  have m1 : FM lo hi I q2 := FM_t hm (fm_X4_setCell lo hi (zk_7_7 hk_x0) (by omega) hq2)
  obtain rfl := Option.some.inj hf
  exact m1
theorem fm_X7_goTo (lo hi : Nat) {I : zM} {x0 : Nat} {x1 : Int32} {x2 : Int32} (hk_x0 : zK x0 = 7) (hr : lo ≤ x0 ∧ x0 + 7 ≤ hi) {r : zM} (hf : f_X7_goTo I x0 x1 x2 = some r) : FM lo hi I r := by
  have hm : FM lo hi I I := FM_r
  unfold f_X7_goTo at hf
  obtain ⟨M1, eM1, hf⟩ := zlet_e hf
  have m1 : FM lo hi I M1 := FM_w hm eM1 (by omega) (by omega) (Or.inl (by rw [hk_x0]; decide))
  obtain ⟨M2, eM2, hf⟩ := zlet_e hf
  have m2 : FM lo hi I M2 := FM_w m1 eM2 (by omega) (by omega) (Or.inl (by rw [hk_x0]; decide))
  obtain ⟨q3, hq3, hf⟩ := zb_e hf
  have m3 : FM lo hi I q3.2 := FM_t m2 (fm_X4_append lo hi (zk_7_7 hk_x0) (by omega) hq3)
  obtain ⟨q4, hq4, hf⟩ := zb_e hf
  have m4 : FM lo hi I q4 := FM_t m3 (fm_X4_setCell lo hi (zk_7_7 hk_x0) (by omega) hq4)
  obtain ⟨q5, hq5, hf⟩ := zb_e hf
  have m5 : FM lo hi I q5 := FM_t m4 (fm_X4_setCell lo hi (zk_7_7 hk_x0) (by omega) hq5)
  obtain ⟨q6, hq6, hf⟩ := zb_e hf
  have m6 : FM lo hi I q6 := FM_t m5 (fm_X4_setCell lo hi (zk_7_7 hk_x0) (by omega) hq6)
  obtain ⟨M7, eM7, hf⟩ := zlet_e hf
  have m7 : FM lo hi I M7 := FM_w m6 eM7 (by omega) (by omega) (Or.inl (by rw [hk_x0]; decide))
  obtain rfl := Option.some.inj hf
  exact m7
theorem fm_X2_handOver (lo hi : Nat) {I : zM} {x0 : Nat} {x1 : Nat} {x2 : Int32} (hk_x0 : zK x0 = 2) (hk_x1 : zK x1 = 7) (hr : lo ≤ x0 ∧ x0 + 109 ≤ hi ∧ lo ≤ x1 ∧ x1 + 7 ≤ hi) {r : zM} (hf : f_X2_handOver I x0 x1 x2 = some r) : FM lo hi I r := by
  have hm : FM lo hi I I := FM_r
  unfold f_X2_handOver at hf
  obtain ⟨q1, hq1, hf⟩ := zb_e hf
  have hk_q1 : zK q1 = 3 := kd_X2_personAt hk_x0 hq1
  have hr_q1 := rg_X2_personAt hq1
  obtain ⟨M2, eM2, hf⟩ := zlet_e hf
  have m1 : FM lo hi I M2 := FM_w hm eM2 (by omega) (by omega) (Or.inl (by rw [hk_q1]; decide))
  obtain ⟨q3, hq3, hf⟩ := zb_e hf
  have hk_q3 : zK q3 = 3 := kd_X2_personAt hk_x0 hq3
  have hr_q3 := rg_X2_personAt hq3
  obtain ⟨M4, eM4, hf⟩ := zlet_e hf
  have m2 : FM lo hi I M4 := FM_w m1 eM4 (by omega) (by omega) (Or.inl (by rw [hk_q3]; decide))
  obtain ⟨q5, hq5, hf⟩ := zb_e hf
  have m3 : FM lo hi I q5 := FM_t m2 (fm_X7_endLink lo hi hk_x1 (by omega) hq5)
  obtain ⟨q6, hq6, hf⟩ := zb_e hf
  have m4 : FM lo hi I q6 := FM_t m3 (fm_X7_goTo lo hi hk_x1 (by omega) hq6)
  obtain rfl := Option.some.inj hf
  exact m4
theorem fm_X2_exchange (lo hi : Nat) {I : zM} {x0 : Nat} {x1 : Int32} {x2 : Int32} (hk_x0 : zK x0 = 2) (hr : lo ≤ x0 ∧ x0 + 109 ≤ hi) {r : Int32 × zM} (hf : f_X2_exchange I x0 x1 x2 = some r) : FM lo hi I r.2 := by
  have hm : FM lo hi I I := FM_r
  unfold f_X2_exchange at hf
  obtain ⟨q1, hq1, hf⟩ := zb_e hf
  rcases Classical.em (q1 = 0) with c1 | c1
  · have hf := zif_t c1 hf
    obtain rfl := Option.some.inj hf
    exact hm
  · have hf := zif_f c1 hf
    obtain ⟨q3, hq3, hf⟩ := zb_e hf
    rcases Classical.em (q3 = 0) with c2 | c2
    · have hf := zif_t c2 hf
      obtain ⟨q14, hq14, hf⟩ := zb_e hf
      have m3 : FM lo hi I q14.2 := FM_t hm (fm_X2_refuse lo hi hk_x0 (by omega) hq14)
      obtain rfl := Option.some.inj hf
      exact m3
    · have hf := zif_f c2 hf
      obtain ⟨q5, hq5, hf⟩ := zb_e hf
      rcases Classical.em (q5 = 0) with c4 | c4
      · have hf := zif_t c4 hf
        obtain ⟨q7, hq7, hf⟩ := zb_e hf
        have hk_q7 : zK q7 = 7 := kd_X2_toolAt hk_x0 hq7
        have hr_q7 := rg_X2_toolAt hq7
        obtain ⟨q8, hq8, hf⟩ := zb_e hf
        have hk_q8 : zK q8 = 7 := kd_X2_toolAt hk_x0 hq8
        have hr_q8 := rg_X2_toolAt hq8
        obtain ⟨q9, hq9, hf⟩ := zb_e hf
        have hk_q9 : zK q9 = 7 := kd_X2_toolAt hk_x0 hq9
        have hr_q9 := rg_X2_toolAt hq9
        obtain ⟨q10, hq10, hf⟩ := zb_e hf
        have m5 : FM lo hi I q10 := FM_t hm (fm_X2_handOver lo hi hk_x0 hk_q8 (by omega) hq10)
        obtain ⟨q11, hq11, hf⟩ := zb_e hf
        have hk_q11 : zK q11 = 7 := kd_X2_toolAt hk_x0 hq11
        have hr_q11 := rg_X2_toolAt hq11
        obtain ⟨q12, hq12, hf⟩ := zb_e hf
        have m6 : FM lo hi I q12 := FM_t m5 (fm_X2_handOver lo hi hk_x0 hk_q11 (by omega) hq12)
        obtain rfl := Option.some.inj hf
        exact m6
      · have hf := zif_f c4 hf
        obtain ⟨q13, hq13, hf⟩ := zb_e hf
        have m7 : FM lo hi I q13.2 := FM_t hm (fm_X2_refuse lo hi hk_x0 (by omega) hq13)
        obtain rfl := Option.some.inj hf
        exact m7
theorem fm_X3_payOrOwe (lo hi : Nat) {I : zM} {x0 : Nat} {x1 : Int32} (hk_x0 : zK x0 = 3) (hr : lo ≤ x0 ∧ x0 + 2 ≤ hi) {r : Int32 × zM} (hf : f_X3_payOrOwe I x0 x1 = some r) : FM lo hi I r.2 := by
  have hm : FM lo hi I I := FM_r
  unfold f_X3_payOrOwe at hf
  obtain ⟨w1, ew1, hf⟩ := zlet_e hf
  obtain ⟨M2, eM2, hf⟩ := zlet_e hf
  have m1 : FM lo hi I M2 := FM_w hm eM2 (by omega) (by omega) (Or.inl (by rw [hk_x0]; decide))
  obtain ⟨M3, eM3, hf⟩ := zlet_e hf
  have m2 : FM lo hi I M3 := FM_w m1 eM3 (by omega) (by omega) (Or.inl (by rw [hk_x0]; decide))
  obtain rfl := Option.some.inj hf
  exact m2
theorem fm_X3_loseTrust (lo hi : Nat) {I : zM} {x0 : Nat} {x1 : Int32} (hk_x0 : zK x0 = 3) (hr : lo ≤ x0 ∧ x0 + 2 ≤ hi) {r : zM} (hf : f_X3_loseTrust I x0 x1 = some r) : FM lo hi I r := by
  have hm : FM lo hi I I := FM_r
  unfold f_X3_loseTrust at hf
  obtain ⟨w1, ew1, hf⟩ := zlet_e hf
  obtain ⟨M2, eM2, hf⟩ := zlet_e hf
  have m1 : FM lo hi I M2 := FM_w hm eM2 (by omega) (by omega) (Or.inl (by rw [hk_x0]; decide))
  obtain rfl := Option.some.inj hf
  exact m1
theorem fm_X2_lookAt (lo hi : Nat) {I : zM} {x0 : Nat} {x1 : Int32} (hk_x0 : zK x0 = 2) (hr : lo ≤ x0 ∧ x0 + 109 ≤ hi) {r : Int32 × zM} (hf : f_X2_lookAt I x0 x1 = some r) : FM lo hi I r.2 := by
  have hm : FM lo hi I I := FM_r
  have L_f_X2_lookAt_l52 : ∀ (y3 : Int32) (y4 : Int32) (K : zM → Option (Int32 × zM)) (hKK : ∀ (k0 : zM), K k0 = some r → FM lo hi I k0 → FM lo hi I r.2) (n : Nat) (M : zM) (y5 : Int32), f_X2_lookAt_l52 x0 y3 y4 K n M y5 = some r → FM lo hi I M → FM lo hi I r.2 := by
    intro y3 y4 K hKK n
    induction n with
    | zero =>
      intro M y5 hf
      rw [f_X2_lookAt_l52] at hf
      cases hf
    | succ n ih =>
      intro M y5 hf hm
      rw [f_X2_lookAt_l52] at hf
      obtain ⟨q9, hq9, hf⟩ := zb_e hf
      rcases Classical.em (q9 ≤ y5) with c105 | c105
      · have hf := zif_t c105 hf
        exact hKK M hf hm
      · have hf := zif_f c105 hf
        obtain ⟨q11, hq11, hf⟩ := zb_e hf
        obtain ⟨q12, hq12, hf⟩ := zb_e hf
        have hk_q12 : zK q12 = 3 := kd_X2_personAt hk_x0 hq12
        have hr_q12 := rg_X2_personAt hq12
        obtain ⟨q13, hq13, hf⟩ := zb_e hf
        obtain ⟨q14, hq14, hf⟩ := zb_e hf
        obtain ⟨q15, hq15, hf⟩ := zb_e hf
        have m106 : FM lo hi I q15.2 := FM_t hm (fm_X3_payOrOwe lo hi hk_q12 (by omega) hq15)
        obtain ⟨M16, eM16, hf⟩ := zlet_e hf
        have m107 : FM lo hi I M16 := FM_w m106 eM16 (by omega) (by omega) (Or.inl (by rw [hk_x0]; decide))
        obtain ⟨q17, hq17, hf⟩ := zb_e hf
        have m108 : FM lo hi I q17 := FM_t m107 (fm_X3_loseTrust lo hi hk_q12 (by omega) hq17)
        exact ih q17 (y5 + 1) hf m108
  unfold f_X2_lookAt at hf
  obtain ⟨q1, hq1, hf⟩ := zb_e hf
  rcases Classical.em (q1 = 0) with c1 | c1
  · have hf := zif_t c1 hf
    obtain rfl := Option.some.inj hf
    exact hm
  · have hf := zif_f c1 hf
    obtain ⟨q3, hq3, hf⟩ := zb_e hf
    have hk_q3 : zK q3 = 7 := kd_X2_toolAt hk_x0 hq3
    have hr_q3 := rg_X2_toolAt hq3
    obtain ⟨q4, hq4, hf⟩ := zb_e hf
    obtain ⟨q5, hq5, hf⟩ := zb_e hf
    obtain ⟨q6, hq6, hf⟩ := zb_e hf
    have m2 : FM lo hi I q6 := FM_t hm (fm_X0_findFor lo hi (zk_2_4 hk_x0) hk_q3 (by omega) hq6)
    obtain ⟨q7, hq7, hf⟩ := zb_e hf
    have m3 : FM lo hi I q7 := FM_t m2 (fm_X7_noteLook lo hi hk_q3 (by omega) hq7)
    rcases Classical.em (0 < q4) with c4 | c4
    · have hf := zif_t c4 hf
      refine L_f_X2_lookAt_l52 q4 q5 _ (fun M18 hf m5 => ?_) zFu q7 0 hf m3
      obtain ⟨q19, hq19, hf⟩ := zb_e hf
      obtain rfl := Option.some.inj hf
      exact m5
    · have hf := zif_f c4 hf
      obtain rfl := Option.some.inj hf
      exact m3
theorem fm_X3_gainTrust (lo hi : Nat) {I : zM} {x0 : Nat} {x1 : Int32} (hk_x0 : zK x0 = 3) (hr : lo ≤ x0 ∧ x0 + 2 ≤ hi) {r : zM} (hf : f_X3_gainTrust I x0 x1 = some r) : FM lo hi I r := by
  have hm : FM lo hi I I := FM_r
  unfold f_X3_gainTrust at hf
  obtain ⟨w1, ew1, hf⟩ := zlet_e hf
  obtain ⟨M2, eM2, hf⟩ := zlet_e hf
  have m1 : FM lo hi I M2 := FM_w hm eM2 (by omega) (by omega) (Or.inl (by rw [hk_x0]; decide))
  obtain rfl := Option.some.inj hf
  exact m1
theorem fm_X2_handOut (lo hi : Nat) {I : zM} {x0 : Nat} {x1 : Nat} {x2 : Int32} {x3 : Int32} (hk_x0 : zK x0 = 2) (hk_x1 : zK x1 = 7) (hr : lo ≤ x0 ∧ x0 + 109 ≤ hi ∧ lo ≤ x1 ∧ x1 + 7 ≤ hi) {r : zM} (hf : f_X2_handOut I x0 x1 x2 x3 = some r) : FM lo hi I r := by
  have hm : FM lo hi I I := FM_r
  unfold f_X2_handOut at hf
  obtain ⟨q1, hq1, hf⟩ := zb_e hf
  have hk_q1 : zK q1 = 3 := kd_X2_personAt hk_x0 hq1
  have hr_q1 := rg_X2_personAt hq1
  obtain ⟨M2, eM2, hf⟩ := zlet_e hf
  have m1 : FM lo hi I M2 := FM_w hm eM2 (by omega) (by omega) (Or.inl (by rw [hk_q1]; decide))
  obtain ⟨M3, eM3, hf⟩ := zlet_e hf
  have m2 : FM lo hi I M3 := FM_w m1 eM3 (by omega) (by omega) (Or.inl (by rw [hk_x1]; decide))
  obtain ⟨M4, eM4, hf⟩ := zlet_e hf
  have m3 : FM lo hi I M4 := FM_w m2 eM4 (by omega) (by omega) (Or.inl (by rw [hk_x1]; decide))
  obtain ⟨q5, hq5, hf⟩ := zb_e hf
  have m4 : FM lo hi I q5 := FM_t m3 (fm_X7_goTo lo hi hk_x1 (by omega) hq5)
  obtain rfl := Option.some.inj hf
  exact m4
theorem fm_X2_offer (lo hi : Nat) {I : zM} {x0 : Nat} {x1 : Nat} (hk_x0 : zK x0 = 2) (hk_x1 : zK x1 = 7) (hr : lo ≤ x0 ∧ x0 + 109 ≤ hi ∧ lo ≤ x1 ∧ x1 + 7 ≤ hi) {r : zM} (hf : f_X2_offer I x0 x1 = some r) : FM lo hi I r := by
  have hm : FM lo hi I I := FM_r
  unfold f_X2_offer at hf
  obtain ⟨q1, hq1, hf⟩ := zb_e hf
  rcases Classical.em (q1 < 0) with c1 | c1
  · have hf := zif_t c1 hf
    obtain rfl := Option.some.inj hf
    exact hm
  · have hf := zif_f c1 hf
    obtain ⟨q3, hq3, hf⟩ := zb_e hf
    obtain ⟨q4, hq4, hf⟩ := zb_e hf
    obtain ⟨q5, hq5, hf⟩ := zb_e hf
    have m2 : FM lo hi I q5 := FM_t hm (fm_X4_remove lo hi (zk_7_9 hk_x1) (by omega) hq5)
    obtain ⟨q6, hq6, hf⟩ := zb_e hf
    have m3 : FM lo hi I q6 := FM_t m2 (fm_X2_handOut lo hi hk_x0 hk_x1 (by omega) hq6)
    obtain rfl := Option.some.inj hf
    exact m3
theorem fm_X2_giveBack (lo hi : Nat) {I : zM} {x0 : Nat} {x1 : Int32} (hk_x0 : zK x0 = 2) (hr : lo ≤ x0 ∧ x0 + 109 ≤ hi) {r : Int32 × zM} (hf : f_X2_giveBack I x0 x1 = some r) : FM lo hi I r.2 := by
  have hm : FM lo hi I I := FM_r
  have J_f_X2_giveBack_j112 : ∀ (M : zM) (y2 : Nat) (y4 : Int32) (hk_y2 : zK y2 = 7) (hr_y2 : lo ≤ y2 ∧ y2 + 7 ≤ hi), f_X2_giveBack_j112 M x0 y2 y4 = some r → FM lo hi I M → FM lo hi I r.2 := by
    intro M y2 y4 hk_y2 hr_y2 hf hm
    unfold f_X2_giveBack_j112 at hf
    obtain ⟨q14, hq14, hf⟩ := zb_e hf
    have m108 : FM lo hi I q14 := FM_t hm (fm_X7_endLink lo hi hk_y2 (by omega) hq14)
    obtain ⟨q15, hq15, hf⟩ := zb_e hf
    have m109 : FM lo hi I q15 := FM_t m108 (fm_X7_stayAtOffice lo hi hk_y2 (by omega) hq15)
    obtain ⟨q16, hq16, hf⟩ := zb_e hf
    have m110 : FM lo hi I q16 := FM_t m109 (fm_X2_offer lo hi hk_x0 hk_y2 (by omega) hq16)
    obtain rfl := Option.some.inj hf
    exact m110
  unfold f_X2_giveBack at hf
  obtain ⟨q1, hq1, hf⟩ := zb_e hf
  rcases Classical.em (q1 = 0) with c1 | c1
  · have hf := zif_t c1 hf
    obtain rfl := Option.some.inj hf
    exact hm
  · have hf := zif_f c1 hf
    obtain ⟨q3, hq3, hf⟩ := zb_e hf
    have hk_q3 : zK q3 = 7 := kd_X2_toolAt hk_x0 hq3
    have hr_q3 := rg_X2_toolAt hq3
    obtain ⟨q4, hq4, hf⟩ := zb_e hf
    rcases Classical.em (q4 = 0) with c2 | c2
    · have hf := zif_t c2 hf
      obtain rfl := Option.some.inj hf
      exact hm
    · have hf := zif_f c2 hf
      obtain ⟨q6, hq6, hf⟩ := zb_e hf
      have m3 : FM lo hi I q6.2 := FM_t hm (fm_X2_lookAt lo hi hk_x0 (by omega) hq6)
      obtain ⟨q7, hq7, hf⟩ := zb_e hf
      have hk_q7 : zK q7 = 3 := kd_X2_personAt hk_x0 hq7
      have hr_q7 := rg_X2_personAt hq7
      obtain ⟨q8, hq8, hf⟩ := zb_e hf
      obtain ⟨M9, eM9, hf⟩ := zlet_e hf
      have m4 : FM lo hi I M9 := FM_w m3 eM9 (by omega) (by omega) (Or.inl (by rw [hk_x0]; decide))
      obtain ⟨M10, eM10, hf⟩ := zlet_e hf
      have m5 : FM lo hi I M10 := FM_w m4 eM10 (by omega) (by omega) (Or.inl (by rw [hk_q7]; decide))
      obtain ⟨q11, hq11, hf⟩ := zb_e hf
      rcases Classical.em (q11 ≤ 0) with c6 | c6
      · have hf := zif_t c6 hf
        obtain ⟨q13, hq13, hf⟩ := zb_e hf
        have m7 : FM lo hi I q13 := FM_t m5 (fm_X3_gainTrust lo hi hk_q7 (by omega) hq13)
        exact J_f_X2_giveBack_j112 q13 q3 q8 hk_q3 (by omega) hf m7
      · have hf := zif_f c6 hf
        obtain ⟨M17, eM17, hf⟩ := zlet_e hf
        have m8 : FM lo hi I M17 := FM_w m5 eM17 (by omega) (by omega) (Or.inl (by rw [hk_q7]; decide))
        obtain ⟨q18, hq18, hf⟩ := zb_e hf
        have m9 : FM lo hi I q18 := FM_t m8 (fm_X3_loseTrust lo hi hk_q7 (by omega) hq18)
        exact J_f_X2_giveBack_j112 q18 q3 q8 hk_q3 (by omega) hf m9
theorem fm_X2_leaseTo (lo hi : Nat) {I : zM} {x0 : Nat} {x1 : Int32} {x2 : Int32} {x3 : Int32} (hk_x0 : zK x0 = 2) (hr : lo ≤ x0 ∧ x0 + 109 ≤ hi) {r : Int32 × zM} (hf : f_X2_leaseTo I x0 x1 x2 x3 = some r) : FM lo hi I r.2 := by
  have hm : FM lo hi I I := FM_r
  have J_f_X2_leaseTo_j54 : ∀ (M : zM), f_X2_leaseTo_j54 M x0 = some r → FM lo hi I M → FM lo hi I r.2 := by
    intro M hf hm
    unfold f_X2_leaseTo_j54 at hf
    obtain ⟨q10, hq10, hf⟩ := zb_e hf
    have m110 : FM lo hi I q10.2 := FM_t hm (fm_X2_refuse lo hi hk_x0 (by omega) hq10)
    obtain rfl := Option.some.inj hf
    exact m110
  unfold f_X2_leaseTo at hf
  obtain ⟨q1, hq1, hf⟩ := zb_e hf
  rcases Classical.em (q1 = 0) with c1 | c1
  · have hf := zif_t c1 hf
    obtain rfl := Option.some.inj hf
    exact hm
  · have hf := zif_f c1 hf
    obtain ⟨q3, hq3, hf⟩ := zb_e hf
    rcases Classical.em (q3 = 0) with c2 | c2
    · have hf := zif_t c2 hf
      obtain rfl := Option.some.inj hf
      exact hm
    · have hf := zif_f c2 hf
      rcases Classical.em (x3 < 1) with c3 | c3
      · have hf := zif_t c3 hf
        obtain rfl := Option.some.inj hf
        exact hm
      · have hf := zif_f c3 hf
        rcases Classical.em (x3 ≤ 30) with c4 | c4
        · have hf := zif_t c4 hf
          obtain ⟨q7, hq7, hf⟩ := zb_e hf
          have hk_q7 : zK q7 = 7 := kd_X2_toolAt hk_x0 hq7
          have hr_q7 := rg_X2_toolAt hq7
          obtain ⟨q8, hq8, hf⟩ := zb_e hf
          rcases Classical.em (q8 = 0) with c5 | c5
          · have hf := zif_t c5 hf
            rcases Classical.em ((I q7 1) < 9) with c6 | c6
            · have hf := zif_t c6 hf
              obtain ⟨q12, hq12, hf⟩ := zb_e hf
              have hk_q12 : zK q12 = 3 := kd_X2_personAt hk_x0 hq12
              have hr_q12 := rg_X2_personAt hq12
              rcases Classical.em ((I q7 0) ≤ (I q12 1)) with c7 | c7
              · have hf := zif_t c7 hf
                obtain ⟨q14, hq14, hf⟩ := zb_e hf
                have m8 : FM lo hi I q14 := FM_t hm (fm_X2_handOut lo hi hk_x0 hk_q7 (by omega) hq14)
                obtain rfl := Option.some.inj hf
                exact m8
              · have hf := zif_f c7 hf
                obtain ⟨q15, hq15, hf⟩ := zb_e hf
                have m9 : FM lo hi I q15.2 := FM_t hm (fm_X2_refuse lo hi hk_x0 (by omega) hq15)
                obtain rfl := Option.some.inj hf
                exact m9
            · have hf := zif_f c6 hf
              exact J_f_X2_leaseTo_j54 I hf hm
          · have hf := zif_f c5 hf
            exact J_f_X2_leaseTo_j54 I hf hm
        · have hf := zif_f c4 hf
          obtain rfl := Option.some.inj hf
          exact hm
theorem fm_X2_passDays (lo hi : Nat) {I : zM} {x0 : Nat} {x1 : Int32} (hk_x0 : zK x0 = 2) (hr : lo ≤ x0 ∧ x0 + 109 ≤ hi) {r : Int32 × zM} (hf : f_X2_passDays I x0 x1 = some r) : FM lo hi I r.2 := by
  have hm : FM lo hi I I := FM_r
  unfold f_X2_passDays at hf
  rcases Classical.em (x1 < 1) with c1 | c1
  · have hf := zif_t c1 hf
    obtain rfl := Option.some.inj hf
    exact hm
  · have hf := zif_f c1 hf
    rcases Classical.em (x1 ≤ 99) with c2 | c2
    · have hf := zif_t c2 hf
      obtain ⟨M3, eM3, hf⟩ := zlet_e hf
      have m3 : FM lo hi I M3 := FM_w hm eM3 (by omega) (by omega) (Or.inl (by rw [hk_x0]; decide))
      obtain rfl := Option.some.inj hf
      exact m3
    · have hf := zif_f c2 hf
      obtain rfl := Option.some.inj hf
      exact hm
theorem fm_X2_passOn (lo hi : Nat) {I : zM} {x0 : Nat} {x1 : Int32} {x2 : Int32} (hk_x0 : zK x0 = 2) (hr : lo ≤ x0 ∧ x0 + 109 ≤ hi) {r : Int32 × zM} (hf : f_X2_passOn I x0 x1 x2 = some r) : FM lo hi I r.2 := by
  have hm : FM lo hi I I := FM_r
  unfold f_X2_passOn at hf
  obtain ⟨q1, hq1, hf⟩ := zb_e hf
  rcases Classical.em (q1 = 0) with c1 | c1
  · have hf := zif_t c1 hf
    obtain rfl := Option.some.inj hf
    exact hm
  · have hf := zif_f c1 hf
    obtain ⟨q3, hq3, hf⟩ := zb_e hf
    rcases Classical.em (q3 = 0) with c2 | c2
    · have hf := zif_t c2 hf
      obtain rfl := Option.some.inj hf
      exact hm
    · have hf := zif_f c2 hf
      obtain ⟨q5, hq5, hf⟩ := zb_e hf
      have hk_q5 : zK q5 = 7 := kd_X2_toolAt hk_x0 hq5
      have hr_q5 := rg_X2_toolAt hq5
      rcases Classical.em ((I q5 2) = x2) with c3 | c3
      · have hf := zif_t c3 hf
        obtain rfl := Option.some.inj hf
        exact hm
      · have hf := zif_f c3 hf
        obtain ⟨q7, hq7, hf⟩ := zb_e hf
        have hk_q7 : zK q7 = 7 := kd_X2_toolAt hk_x0 hq7
        have hr_q7 := rg_X2_toolAt hq7
        obtain ⟨q8, hq8, hf⟩ := zb_e hf
        rcases Classical.em (q8 = 0) with c4 | c4
        · have hf := zif_t c4 hf
          obtain rfl := Option.some.inj hf
          exact hm
        · have hf := zif_f c4 hf
          obtain ⟨q10, hq10, hf⟩ := zb_e hf
          have hk_q10 : zK q10 = 3 := kd_X2_personAt hk_x0 hq10
          have hr_q10 := rg_X2_personAt hq10
          obtain ⟨q11, hq11, hf⟩ := zb_e hf
          rcases Classical.em (q11 = 0) with c5 | c5
          · have hf := zif_t c5 hf
            obtain ⟨q13, hq13, hf⟩ := zb_e hf
            have m6 : FM lo hi I q13 := FM_t hm (fm_X2_handOver lo hi hk_x0 hk_q7 (by omega) hq13)
            obtain rfl := Option.some.inj hf
            exact m6
          · have hf := zif_f c5 hf
            obtain ⟨q14, hq14, hf⟩ := zb_e hf
            have m7 : FM lo hi I q14.2 := FM_t hm (fm_X2_refuse lo hi hk_x0 (by omega) hq14)
            obtain rfl := Option.some.inj hf
            exact m7
theorem fm_X2_setWish (lo hi : Nat) {I : zM} {x0 : Nat} {x1 : Int32} {x2 : Int32} {x3 : Int32} (hk_x0 : zK x0 = 2) (hr : lo ≤ x0 ∧ x0 + 109 ≤ hi) {r : Int32 × zM} (hf : f_X2_setWish I x0 x1 x2 x3 = some r) : FM lo hi I r.2 := by
  have hm : FM lo hi I I := FM_r
  unfold f_X2_setWish at hf
  obtain ⟨q1, hq1, hf⟩ := zb_e hf
  rcases Classical.em (q1 = 0) with c1 | c1
  · have hf := zif_t c1 hf
    obtain rfl := Option.some.inj hf
    exact hm
  · have hf := zif_f c1 hf
    obtain ⟨q3, hq3, hf⟩ := zb_e hf
    rcases Classical.em (q3 = 0) with c2 | c2
    · have hf := zif_t c2 hf
      obtain rfl := Option.some.inj hf
      exact hm
    · have hf := zif_f c2 hf
      rcases Classical.em (x3 < 0) with c3 | c3
      · have hf := zif_t c3 hf
        obtain rfl := Option.some.inj hf
        exact hm
      · have hf := zif_f c3 hf
        rcases Classical.em (x3 ≤ 9) with c4 | c4
        · have hf := zif_t c4 hf
          obtain ⟨q7, hq7, hf⟩ := zb_e hf
          have hk_q7 : zK q7 = 3 := kd_X2_personAt hk_x0 hq7
          have hr_q7 := rg_X2_personAt hq7
          obtain ⟨q8, hq8, hf⟩ := zb_e hf
          obtain ⟨q9, hq9, hf⟩ := zb_e hf
          have hk_q9 : zK q9 = 3 := kd_X2_personAt hk_x0 hq9
          have hr_q9 := rg_X2_personAt hq9
          obtain ⟨q10, hq10, hf⟩ := zb_e hf
          have m5 : FM lo hi I q10 := FM_t hm (fm_X3_setWishOf lo hi hk_q9 (by omega) hq10)
          obtain rfl := Option.some.inj hf
          exact m5
        · have hf := zif_f c4 hf
          obtain rfl := Option.some.inj hf
          exact hm
theorem fm_X2_wearDown (lo hi : Nat) {I : zM} {x0 : Nat} {x1 : Int32} {x2 : Int32} (hk_x0 : zK x0 = 2) (hr : lo ≤ x0 ∧ x0 + 109 ≤ hi) {r : Int32 × zM} (hf : f_X2_wearDown I x0 x1 x2 = some r) : FM lo hi I r.2 := by
  have hm : FM lo hi I I := FM_r
  unfold f_X2_wearDown at hf
  obtain ⟨q1, hq1, hf⟩ := zb_e hf
  rcases Classical.em (q1 = 0) with c1 | c1
  · have hf := zif_t c1 hf
    obtain rfl := Option.some.inj hf
    exact hm
  · have hf := zif_f c1 hf
    rcases Classical.em (x2 < 1) with c2 | c2
    · have hf := zif_t c2 hf
      obtain rfl := Option.some.inj hf
      exact hm
    · have hf := zif_f c2 hf
      rcases Classical.em (x2 ≤ 9) with c3 | c3
      · have hf := zif_t c3 hf
        obtain ⟨q5, hq5, hf⟩ := zb_e hf
        have hk_q5 : zK q5 = 7 := kd_X2_toolAt hk_x0 hq5
        have hr_q5 := rg_X2_toolAt hq5
        obtain ⟨q6, hq6, hf⟩ := zb_e hf
        rcases Classical.em (q6 = 0) with c4 | c4
        · have hf := zif_t c4 hf
          obtain rfl := Option.some.inj hf
          exact hm
        · have hf := zif_f c4 hf
          obtain ⟨w8, ew8, hf⟩ := zlet_e hf
          obtain ⟨M9, eM9, hf⟩ := zlet_e hf
          have m5 : FM lo hi I M9 := FM_w hm eM9 (by omega) (by omega) (Or.inl (by rw [hk_q5]; decide))
          obtain rfl := Option.some.inj hf
          exact m5
      · have hf := zif_f c3 hf
        obtain rfl := Option.some.inj hf
        exact hm
theorem fm_X5_readByte (lo hi : Nat) {I : zM} {x1 : Int32} (hr : lo ≤ 334 ∧ 337 ≤ hi) {r : Int32 × zM} (hf : f_X5_readByte I x1 = some r) : FM lo hi I r.2 := by
  have hm : FM lo hi I I := FM_r
  unfold f_X5_readByte at hf
  obtain ⟨q1, hq1, hf⟩ := zb_e hf
  rcases Classical.em (q1 = x1) with c1 | c1
  · have hf := zif_t c1 hf
    obtain ⟨M3, eM3, hf⟩ := zlet_e hf
    have m2 : FM lo hi I M3 := FM_w hm eM3 (by omega) (by omega) (Or.inl (by decide +kernel))
    obtain rfl := Option.some.inj hf
    exact m2
  · have hf := zif_f c1 hf
    obtain rfl := Option.some.inj hf
    exact hm
theorem fm_X5_readPart (lo hi : Nat) {I : zM} {x1 : Int32} {x2 : Int32} {x3 : Int32} (hr : lo ≤ 334 ∧ 337 ≤ hi) {r : Int32 × zM} (hf : f_X5_readPart I x1 x2 x3 = some r) : FM lo hi I r.2 := by
  have hm : FM lo hi I I := FM_r
  have L_f_X5_readPart_l32 : ∀ (y4 : Int32) (y5 : Int32) (K : zM → Int32 → Int32 → Option (Int32 × zM)) (hKK : ∀ (k0 : zM) (k1 : Int32) (k2 : Int32), K k0 k1 k2 = some r → FM lo hi I k0 → FM lo hi I r.2) (n : Nat) (M : zM) (y6 : Int32) (y7 : Int32), f_X5_readPart_l32 x1 x2 x3 y4 y5 K n M y6 y7 = some r → FM lo hi I M → FM lo hi I r.2 := by
    intro y4 y5 K hKK n
    induction n with
    | zero =>
      intro M y6 y7 hf
      rw [f_X5_readPart_l32] at hf
      cases hf
    | succ n ih =>
      intro M y6 y7 hf hm
      rw [f_X5_readPart_l32] at hf
      rcases Classical.em (3 ≤ y7) with c303 | c303
      · have hf := zif_t c303 hf
        exact hKK M y6 y7 hf hm
      · have hf := zif_f c303 hf
        obtain ⟨q4, hq4, hf⟩ := zb_e hf
        rcases Classical.em (q4 < y4) with c304 | c304
        · have hf := zif_t c304 hf
          exact hKK M y6 y7 hf hm
        · have hf := zif_f c304 hf
          obtain ⟨q6, hq6, hf⟩ := zb_e hf
          rcases Classical.em (y5 < q6) with c305 | c305
          · have hf := zif_t c305 hf
            exact hKK M y6 y7 hf hm
          · have hf := zif_f c305 hf
            rcases Classical.em (x3 = 0) with c306 | c306
            · have hf := zif_t c306 hf
              obtain ⟨q9, hq9, hf⟩ := zb_e hf
              obtain ⟨w10, ew10, hf⟩ := zlet_e hf
              obtain ⟨M11, eM11, hf⟩ := zlet_e hf
              have m307 : FM lo hi I M11 := FM_w hm eM11 (by omega) (by omega) (Or.inl (by decide +kernel))
              exact ih M11 w10 (y7 + 1) hf m307
            · have hf := zif_f c306 hf
              obtain ⟨q12, hq12, hf⟩ := zb_e hf
              obtain ⟨w13, ew13, hf⟩ := zlet_e hf
              obtain ⟨M14, eM14, hf⟩ := zlet_e hf
              have m308 : FM lo hi I M14 := FM_w hm eM14 (by omega) (by omega) (Or.inl (by decide +kernel))
              exact ih M14 w13 (y7 + 1) hf m308
  have J_f_X5_readPart_j109 : ∀ (M : zM) (y6 : Int32) (y7 : Int32), f_X5_readPart_j109 M x1 x2 y6 y7 = some r → FM lo hi I M → FM lo hi I r.2 := by
    intro M y6 y7 hf hm
    unfold f_X5_readPart_j109 at hf
    obtain ⟨q18, hq18, hf⟩ := zb_e hf
    have m304 : FM lo hi I q18 := FM_t hm (fm_X4_setCell lo hi (by decide +kernel) (by omega) hq18)
    rcases Classical.em (y7 ≤ 0) with c305 | c305
    · have hf := zif_t c305 hf
      obtain rfl := Option.some.inj hf
      exact m304
    · have hf := zif_f c305 hf
      obtain rfl := Option.some.inj hf
      exact m304
  have J_f_X5_readPart_j24 : ∀ (M : zM) (y4 : Int32) (s0 : Int32), f_X5_readPart_j24 M x1 x2 x3 y4 s0 = some r → FM lo hi I M → FM lo hi I r.2 := by
    intro M y4 s0 hf hm
    unfold f_X5_readPart_j24 at hf
    refine L_f_X5_readPart_l32 y4 s0 _ (fun M15 z16 z17 hf m203 => ?_) zFu M 0 0 hf hm
    exact J_f_X5_readPart_j109 M15 z16 z17 hf m203
  have J_f_X5_readPart_j11 : ∀ (M : zM) (s0 : Int32), f_X5_readPart_j11 M x1 x2 x3 s0 = some r → FM lo hi I M → FM lo hi I r.2 := by
    intro M s0 hf hm
    unfold f_X5_readPart_j11 at hf
    rcases Classical.em (x3 = 0) with c102 | c102
    · have hf := zif_t c102 hf
      exact J_f_X5_readPart_j24 M s0 57 hf hm
    · have hf := zif_f c102 hf
      exact J_f_X5_readPart_j24 M s0 122 hf hm
  unfold f_X5_readPart at hf
  rcases Classical.em (x3 = 0) with c1 | c1
  · have hf := zif_t c1 hf
    exact J_f_X5_readPart_j11 I 48 hf hm
  · have hf := zif_f c1 hf
    exact J_f_X5_readPart_j11 I 97 hf hm
theorem fm_X5_readLine (lo hi : Nat) {I : zM} (hr : lo ≤ 334 ∧ 337 ≤ hi) {r : Int32 × zM} (hf : f_X5_readLine I = some r) : FM lo hi I r.2 := by
  have hm : FM lo hi I I := FM_r
  have L_f_X5_readLine_l47 : ∀ (y1 : Int32) (y2 : Int32) (y3 : Int32) (n : Nat) (M : zM) (y4 : Int32), f_X5_readLine_l47 y1 y2 y3 n M y4 = some r → FM lo hi I M → FM lo hi I r.2 := by
    intro y1 y2 y3 n
    induction n with
    | zero =>
      intro M y4 hf
      rw [f_X5_readLine_l47] at hf
      cases hf
    | succ n ih =>
      intro M y4 hf hm
      rw [f_X5_readLine_l47] at hf
      rcases Classical.em (y2 ≤ y4) with c105 | c105
      · have hf := zif_t c105 hf
        obtain rfl := Option.some.inj hf
        exact hm
      · have hf := zif_f c105 hf
        rcases Classical.em (y1 = 112) with c106 | c106
        · have hf := zif_t c106 hf
          rcases Classical.em (y4 = 0) with c107 | c107
          · have hf := zif_t c107 hf
            obtain ⟨q18, hq18, hf⟩ := zb_e hf
            have m108 : FM lo hi I q18.2 := FM_t hm (fm_X5_readByte lo hi (by omega) hq18)
            rcases Classical.em (q18.1 = 0) with c109 | c109
            · have hf := zif_t c109 hf
              obtain rfl := Option.some.inj hf
              exact m108
            · have hf := zif_f c109 hf
              obtain ⟨q20, hq20, hf⟩ := zb_e hf
              have m110 : FM lo hi I q20.2 := FM_t m108 (fm_X5_readPart lo hi (by omega) hq20)
              rcases Classical.em (q20.1 = 0) with c111 | c111
              · have hf := zif_t c111 hf
                obtain rfl := Option.some.inj hf
                exact m110
              · have hf := zif_f c111 hf
                exact ih q20.2 (y4 + 1) hf m110
          · have hf := zif_f c107 hf
            obtain ⟨q14, hq14, hf⟩ := zb_e hf
            have m112 : FM lo hi I q14.2 := FM_t hm (fm_X5_readByte lo hi (by omega) hq14)
            rcases Classical.em (q14.1 = 0) with c113 | c113
            · have hf := zif_t c113 hf
              obtain rfl := Option.some.inj hf
              exact m112
            · have hf := zif_f c113 hf
              obtain ⟨q16, hq16, hf⟩ := zb_e hf
              have m114 : FM lo hi I q16.2 := FM_t m112 (fm_X5_readPart lo hi (by omega) hq16)
              rcases Classical.em (q16.1 = 0) with c115 | c115
              · have hf := zif_t c115 hf
                obtain rfl := Option.some.inj hf
                exact m114
              · have hf := zif_f c115 hf
                exact ih q16.2 (y4 + 1) hf m114
        · have hf := zif_f c106 hf
          obtain ⟨q9, hq9, hf⟩ := zb_e hf
          have m116 : FM lo hi I q9.2 := FM_t hm (fm_X5_readByte lo hi (by omega) hq9)
          rcases Classical.em (q9.1 = 0) with c117 | c117
          · have hf := zif_t c117 hf
            obtain rfl := Option.some.inj hf
            exact m116
          · have hf := zif_f c117 hf
            obtain ⟨q11, hq11, hf⟩ := zb_e hf
            have m118 : FM lo hi I q11.2 := FM_t m116 (fm_X5_readPart lo hi (by omega) hq11)
            rcases Classical.em (q11.1 = 0) with c119 | c119
            · have hf := zif_t c119 hf
              obtain rfl := Option.some.inj hf
              exact m118
            · have hf := zif_f c119 hf
              exact ih q11.2 (y4 + 1) hf m118
  unfold f_X5_readLine at hf
  obtain ⟨q1, hq1, hf⟩ := zb_e hf
  obtain ⟨q2, hq2, hf⟩ := zb_e hf
  rcases Classical.em (q2 = 0) with c1 | c1
  · have hf := zif_t c1 hf
    obtain rfl := Option.some.inj hf
    exact hm
  · have hf := zif_f c1 hf
    obtain ⟨M4, eM4, hf⟩ := zlet_e hf
    have m2 : FM lo hi I M4 := FM_w hm eM4 (by omega) (by omega) (Or.inl (by decide +kernel))
    obtain ⟨q5, hq5, hf⟩ := zb_e hf
    have m3 : FM lo hi I q5.2 := FM_t m2 (fm_X4_append lo hi (by decide +kernel) (by omega) hq5)
    obtain ⟨q6, hq6, hf⟩ := zb_e hf
    have m4 : FM lo hi I q6 := FM_t m3 (fm_X4_setCell lo hi (by decide +kernel) (by omega) hq6)
    exact L_f_X5_readLine_l47 q1 q2 q5.1 zFu q6 0 hf m4
theorem fm_X5_readText (lo hi : Nat) {I : zM} (hr : lo ≤ 334 ∧ 337 ≤ hi) {r : Int32 × zM} (hf : f_X5_readText I = some r) : FM lo hi I r.2 := by
  have hm : FM lo hi I I := FM_r
  have L_f_X5_readText_l19 : ∀ (n : Nat) (M : zM) (y1 : Int32) (y2 : Int32), f_X5_readText_l19 n M y1 y2 = some r → FM lo hi I M → FM lo hi I r.2 := by
    intro  n
    induction n with
    | zero =>
      intro M y1 y2 hf
      rw [f_X5_readText_l19] at hf
      cases hf
    | succ n ih =>
      intro M y1 y2 hf hm
      rw [f_X5_readText_l19] at hf
      rcases Classical.em (120 ≤ y2) with c104 | c104
      · have hf := zif_t c104 hf
        have hf := (zck_e hf).2
        obtain rfl := Option.some.inj hf
        exact hm
      · have hf := zif_f c104 hf
        rcases Classical.em (y1 = 0) with c105 | c105
        · have hf := zif_t c105 hf
          have hf := (zck_e hf).2
          obtain rfl := Option.some.inj hf
          exact hm
        · have hf := zif_f c105 hf
          obtain ⟨q8, hq8, hf⟩ := zb_e hf
          rcases Classical.em (q8 ≤ (M 334 2)) with c106 | c106
          · have hf := zif_t c106 hf
            have hf := (zck_e hf).2
            obtain rfl := Option.some.inj hf
            exact hm
          · have hf := zif_f c106 hf
            obtain ⟨q11, hq11, hf⟩ := zb_e hf
            have m107 : FM lo hi I q11.2 := FM_t hm (fm_X5_readByte lo hi (by omega) hq11)
            rcases Classical.em (q11.1 = 0) with c108 | c108
            · have hf := zif_t c108 hf
              exact ih q11.2 0 (y2 + 1) hf m107
            · have hf := zif_f c108 hf
              obtain ⟨q13, hq13, hf⟩ := zb_e hf
              have m109 : FM lo hi I q13.2 := FM_t m107 (fm_X5_readLine lo hi (by omega) hq13)
              rcases Classical.em (q13.1 = 0) with c110 | c110
              · have hf := zif_t c110 hf
                exact ih q13.2 0 (y2 + 1) hf m109
              · have hf := zif_f c110 hf
                exact ih q13.2 1 (y2 + 1) hf m109
  unfold f_X5_readText at hf
  obtain ⟨q1, hq1, hf⟩ := zb_e hf
  have m1 : FM lo hi I q1 := FM_t hm (fm_X4_clear lo hi (by decide +kernel) (by omega) hq1)
  obtain ⟨M2, eM2, hf⟩ := zlet_e hf
  have m2 : FM lo hi I M2 := FM_w m1 eM2 (by omega) (by omega) (Or.inl (by decide +kernel))
  obtain ⟨q3, hq3, hf⟩ := zb_e hf
  have m3 : FM lo hi I q3.2 := FM_t m2 (fm_X5_readLine lo hi (by omega) hq3)
  exact L_f_X5_readText_l19  zFu q3.2 q3.1 0 hf m3
theorem fm_X6_shareOf (lo hi : Nat) {I : zM} {x1 : Int32} {x2 : Int32} (hr : lo ≤ 328 ∧ 332 ≤ hi) {r : Int32 × zM} (hf : f_X6_shareOf I x1 x2 = some r) : FM lo hi I r.2 := by
  have hm : FM lo hi I I := FM_r
  unfold f_X6_shareOf at hf
  obtain ⟨q1, hq1, hf⟩ := zb_e hf
  have hk_q1 : zK q1 = 7 := kd_X2_toolAt (by decide +kernel) hq1
  have hr_q1 := rg_X2_toolAt hq1
  obtain ⟨q2, hq2, hf⟩ := zb_e hf
  have m1 : FM lo hi I q2 := FM_t hm (fm_X0_findFor lo hi (by decide +kernel) hk_q1 (by omega) hq2)
  obtain ⟨q3, hq3, hf⟩ := zb_e hf
  obtain ⟨q4, hq4, hf⟩ := zb_e hf
  obtain rfl := Option.some.inj hf
  exact m1
theorem fm_X6_suspectsOf (lo hi : Nat) {I : zM} {x1 : Int32} (hr : lo ≤ 328 ∧ 332 ≤ hi) {r : Int32 × zM} (hf : f_X6_suspectsOf I x1 = some r) : FM lo hi I r.2 := by
  have hm : FM lo hi I I := FM_r
  unfold f_X6_suspectsOf at hf
  obtain ⟨q1, hq1, hf⟩ := zb_e hf
  have hk_q1 : zK q1 = 7 := kd_X2_toolAt (by decide +kernel) hq1
  have hr_q1 := rg_X2_toolAt hq1
  obtain ⟨q2, hq2, hf⟩ := zb_e hf
  have m1 : FM lo hi I q2 := FM_t hm (fm_X0_findFor lo hi (by decide +kernel) hk_q1 (by omega) hq2)
  obtain ⟨q3, hq3, hf⟩ := zb_e hf
  obtain rfl := Option.some.inj hf
  exact m1
