/-! PURE 47: what holds between the calls; every call keeps it -/
def zP (n : Nat) (I J : zM) : Prop := ∃ B, B ≤ 64 * n ∧ PV B I J
theorem zP_mono {n : Nat} {I J : zM} (h : zP n I J) : zP (n + 1) I J := by
  obtain ⟨B, h1, h2⟩ := h
  exact ⟨B, by omega, h2⟩
theorem St_m {I J : zM} {B B2 B3 : Nat} {fI fJ : Option (Int32 × zM)} (h : St B B2 I J fI fJ) (h2 : B2 ≤ B3) : St B B3 I J fI fJ := fun hV => by
  obtain ⟨r, I2, J2, a, b, c⟩ := h hV
  exact ⟨r, I2, J2, a, b, PV_m c h2⟩
theorem St_deed {I J : zM} {B : Nat} {fI fJ : Option (Int32 × zM)} (h : Deed2 I J 1 B fI fJ) (hf : ∀ r, fI = some r → FM 1 110 I r.2) : St B (B + 2) I J fI fJ := by
  intro hV
  obtain ⟨np, nt, hR, hH, m1, m2, m3, hT, hI, b1, b2⟩ := hV
  obtain ⟨r, I2, J2, np2, nt2, q1, q2, q3, q4, q5, q6, q7⟩ := h np nt m1 hR
  have kI : ∀ k, (k < 1 ∨ 110 ≤ k) → I2 k = I k := (hf _ q1).1
  refine ⟨r, I2, J2, q1, q2, np2, nt2, q6, ?_, q5, ?_, ?_, ?_, ?_, ?_, ?_⟩
  · exact HS_c hH q3 q4 (fun k c1 c2 => kI k (by omega)) (fun a c1 c2 => q7.1 a (by omega) (by omega) (by omega) (by omega))
  · exact MT_c m2 (fun k c1 c2 => kI k (by omega))
  · exact MT_c m3 (fun k c1 c2 => kI k (by omega))
  · exact TP_c hT (kI _ (by omega)) (kI _ (by omega)) (q7.2 8 (by decide)) (q7.1 6 (by decide) (by decide) (by decide) (by decide))
  · exact IM_c hI (by omega) (by rw [kI 0 (by omega)]) (q7.2 4 (by decide)) (fun k c1 c2 => kI k (by omega)) (q7.1 4 (by decide) (by decide) (by decide) (by decide))
  · exact TM_c b1 (kI _ (by omega))
  · exact TM_c b2 (kI _ (by omega))
theorem St_hold {I J : zM} {B : Nat} {fI fJ : Option (Int32 × zM)} (h : ∀ np nt, RO I 1 (J 1) np nt B → HS I J np nt → HD I J np nt fI fJ) : St B B I J fI fJ := by
  intro hV
  obtain ⟨np, nt, hR, hH, m1, m2, m3, hT, hI, b1, b2⟩ := hV
  obtain ⟨r, I2, J2, q1, q2, q3, q4, q5⟩ := h np nt hR hH
  refine ⟨r, I2, J2, q1, q2, np, nt, ?_, q3, ?_, ?_, ?_, ?_, ?_, ?_, ?_⟩
  · exact RO_c hR (fun k c1 c2 => q4 k (by omega)) (fun k c1 c2 => by rw [q5 1 (by omega)])
  · exact MT_c m1 (fun k c1 c2 => q4 k (by omega))
  · exact MT_c m2 (fun k c1 c2 => q4 k (by omega))
  · exact MT_c m3 (fun k c1 c2 => q4 k (by omega))
  · exact TP_c hT (q4 _ (by omega)) (q4 _ (by omega)) (by rw [q5 0 (by omega)]) (q5 6 (by omega))
  · exact IM_c hI (Nat.le_refl _) (by rw [q4 0 (by omega)]) (by rw [q5 0 (by omega)]) (fun k c1 c2 => q4 k (by omega)) (q5 4 (by omega))
  · exact TM_c b1 (q4 _ (by omega))
  · exact TM_c b2 (q4 _ (by omega))
theorem St_feed {I J : zM} {B : Nat} (x : Int32) : St B B I J (f_X8_feed I x) (f_X9_feed J x) := by
  intro hV
  obtain ⟨np, nt, hR, hH, m1, m2, m3, hT, hI, b1, b2⟩ := hV
  obtain ⟨r, I2, J2, q1, q2, q3, q4, q5, q6⟩ := d_feed hT x
  refine ⟨r, I2, J2, q1, q2, np, nt, ?_, ?_, ?_, ?_, ?_, q3, ?_, ?_, ?_⟩
  · exact RO_c hR (fun k c1 c2 => q4 k (by omega) (by omega)) (fun k c1 c2 => by rw [q5 1 (by decide) (by decide)])
  · exact HS_c hH (Nat.le_refl _) (Nat.le_refl _) (fun k c1 c2 => q4 k (by omega) (by omega)) (fun a c1 c2 => q5 a (by omega) (by omega))
  · exact MT_c m1 (fun k c1 c2 => q4 k (by omega) (by omega))
  · exact MT_c m2 (fun k c1 c2 => q4 k (by omega) (by omega))
  · exact MT_c m3 (fun k c1 c2 => q4 k (by omega) (by omega))
  · exact IM_c hI (Nat.le_refl _) (by rw [q4 0 (by decide) (by decide)]) (q6 4 (by decide)) (fun k c1 c2 => q4 k (by omega) (by omega)) (q5 4 (by decide) (by decide))
  · exact TM_c b1 (q4 _ (by decide) (by decide))
  · exact TM_c b2 (q4 _ (by decide) (by decide))
-- what is asked with a thought's table for help
theorem St_ask {I J : zM} {B : Nat} {fI fJ : Option (Int32 × zM)} (h : ∀ np nt, RO I 1 (J 1) np nt B → TM I 330 12 1 → ∃ r I2 J2, fI = some (r, I2) ∧ fJ = some (r, J2) ∧ FB I I2 329 ∧ FBJ J J2 ∧ TM I2 330 12 1) : St B B I J fI fJ := by
  intro hV
  obtain ⟨np, nt, hR, hH, m1, m2, m3, hT, hI, b1, b2⟩ := hV
  obtain ⟨r, I2, J2, q1, q2, q3, q4, q5⟩ := h np nt hR b1
  have kI : ∀ k, k ≠ 329 → k ≠ 330 → k ≠ 331 → I2 k = I k := fun k a b c => q3 k a b c
  refine ⟨r, I2, J2, q1, q2, np, nt, ?_, ?_, ?_, ?_, ?_, ?_, ?_, q5, ?_⟩
  · exact RO_c hR (fun k c1 c2 => kI k (by omega) (by omega) (by omega)) (fun k c1 c2 => by rw [q4.1 1 (by decide) (by decide)])
  · exact HS_c hH (Nat.le_refl _) (Nat.le_refl _) (fun k c1 c2 => kI k (by omega) (by omega) (by omega)) (fun a c1 c2 => q4.1 a (by omega) (by omega))
  · exact MT_c m1 (fun k c1 c2 => kI k (by omega) (by omega) (by omega))
  · exact MT_c m2 (fun k c1 c2 => kI k (by omega) (by omega) (by omega))
  · exact MT_c m3 (fun k c1 c2 => kI k (by omega) (by omega) (by omega))
  · exact TP_c hT (kI _ (by decide) (by decide) (by decide)) (kI _ (by decide) (by decide) (by decide)) (q4.2 8 (by decide)) (q4.1 6 (by decide) (by decide))
  · exact IM_c hI (Nat.le_refl _) (by rw [kI 0 (by decide) (by decide) (by decide)]) (q4.2 4 (by decide)) (fun k c1 c2 => kI k (by omega) (by omega) (by omega)) (q4.1 4 (by decide) (by decide))
  · exact TM_c b2 (kI _ (by decide) (by decide) (by decide))
theorem zP_st {n : Nat} {I J : zM} {fI fJ : Option (Int32 × zM)} (hn : n < 512) (h : ∀ B, B + 64 ≤ 2 ^ 20 → St B (B + 64) I J fI fJ) (hP : zP n I J) : ∃ (r : Int32) (I2 : zM) (J2 : zM), fI = some (r, I2) ∧ fJ = some (r, J2) ∧ zP (n + 1) I2 J2 := by
  obtain ⟨B, hB, hV⟩ := hP
  obtain ⟨r, I2, J2, h1, h2, h3⟩ := h B (by omega) hV
  exact ⟨r, I2, J2, h1, h2, B + 64, by omega, h3⟩
theorem zP_deed {n : Nat} {I J : zM} {fI fJ : Option (Int32 × zM)} (hn : n < 512) (h : ∀ B, B + 64 ≤ 2 ^ 20 → Deed2 I J 1 B fI fJ) (hf : ∀ r, fI = some r → FM 1 110 I r.2) (hP : zP n I J) : ∃ (r : Int32) (I2 : zM) (J2 : zM), fI = some (r, I2) ∧ fJ = some (r, J2) ∧ zP (n + 1) I2 J2 := zP_st hn (fun B hB => St_m (St_deed (h B hB) hf) (by omega)) hP
theorem zP_ask {n : Nat} {I J : zM} {fI fJ : Option Int32} (hn : n < 512) (h : ∀ B np nt, B + 64 ≤ 2 ^ 20 → RO I 1 (J 1) np nt B → HS I J np nt → TP I J → Ask fI fJ) (hP : zP n I J) : ∃ (r : Int32), fI = some r ∧ fJ = some r ∧ zP (n + 1) I J := by
  obtain ⟨B, hB, hV⟩ := hP
  have hV' := hV
  obtain ⟨np, nt, hR, hH, m1, m2, m3, hT, hI, b1, b2⟩ := hV
  obtain ⟨r, h1, h2⟩ := h B np nt (by omega) hR hH hT
  exact ⟨r, h1, h2, B, by omega, hV'⟩
theorem zP_swaps {n : Nat} {I J : zM} (hn : n < 512) (x : Int32) (hP : zP n I J) : ∃ (r : Int32) (J2 : zM), f_X8_swaps I x = some r ∧ f_X9_swaps J x = some (r, J2) ∧ zP (n + 1) I J2 := by
  obtain ⟨B, hB, np, nt, hR, hH, m1, m2, m3, hT, hI, b1, b2⟩ := hP
  obtain ⟨r, J2, h1, h2, h3, h4⟩ := q_swaps (by omega) m1 hR x
  exact ⟨r, J2, h1, h2, B, by omega, np, nt, h3, HS_c hH (Nat.le_refl _) (Nat.le_refl _) (fun _ _ _ => rfl) (fun a c1 c2 => h4.1 a (by omega) (by omega) (by omega) (by omega)), m1, m2, m3, TP_c hT rfl rfl (h4.2 8 (by decide)) (h4.1 6 (by decide) (by decide) (by decide) (by decide)), IM_c hI (Nat.le_refl _) rfl (h4.2 4 (by decide)) (fun _ _ _ => rfl) (h4.1 4 (by decide) (by decide) (by decide) (by decide)), b1, b2⟩
-- at the beginning
theorem zMT0 {o : Nat} (h7 : ∀ t, t < 10 → zK (o + 39 + 7 * t) = 7) (h0 : zK (o + 12) = 0) : MT zI0 o := by
  refine ⟨fun t ht => ?_, ?_⟩
  · obtain ⟨-, a1, a2, -, a3⟩ := zf_7a (h7 t ht)
    obtain ⟨-, b1, b2, -, b3⟩ := zf_7b (h7 t ht)
    obtain ⟨-, c1, c2, -, c3⟩ := zf_7c (h7 t ht)
    exact ⟨⟨a1, a2, a3, by decide, by decide, by decide, by decide⟩, ⟨b1, b2, b3, by decide, by decide, by decide, by decide⟩, ⟨c1, c2, c3, by decide, by decide, by decide, by decide⟩⟩
  · obtain ⟨-, a1, a2, -, a3⟩ := zf_0 h0
    exact ⟨a1, a2, a3, by decide, by decide, by decide, by decide⟩
theorem zP_0 : zP 0 zI0 zJ0 := by
  have k1 : zI0 1 = fun _ => 0 := zI0_f (show zK 1 = 2 by decide +kernel) (by decide)
  have k0 : zI0 0 = fun _ => 0 := zI0_f (show zK 0 = 8 by decide +kernel) (by decide)
  have k338 : zI0 338 = fun _ => 0 := zI0_f (show zK 338 = 1 by decide +kernel) (by decide)
  have kh : ∀ h, h < 6 → zK (341 + 3 * h) = 1 := by decide +kernel
  obtain ⟨-, a1, a2, -, a3⟩ := zf_0 (k := 329) (by decide +kernel)
  obtain ⟨-, b1, b2, -, b3⟩ := zf_5 (k := 334) (by decide +kernel)
  obtain ⟨t1, t2, -, t3⟩ := zi_332
  refine ⟨0, Nat.le_refl _, 0, 0, ⟨⟨by decide, by decide, by rw [k1]; rfl, rfl, by rw [k1]; rfl, rfl, ⟨0, Nat.le_refl _, by rw [k1]; rfl, rfl⟩, by rw [k1]; rfl, Or.inl ⟨rfl, by rw [k1], by rw [k1]⟩⟩, fun q hq => absurd hq (Nat.not_lt_zero _), fun q hq => absurd hq (Nat.not_lt_zero _)⟩, ⟨by rw [k338], fun h hh => ?_⟩, zMT0 (by decide +kernel) (by decide +kernel), zMT0 (by decide +kernel) (by decide +kernel), zMT0 (by decide +kernel) (by decide +kernel), ⟨0, ⟨t1, t2, ?_, by decide, t3, by decide, by decide, by decide, by decide⟩, rfl, fun i hi => absurd hi (Nat.not_lt_zero _)⟩, Or.inl ⟨by rw [k0], rfl⟩, ⟨a1, a2, a3, by decide, by decide, by decide, by decide⟩, ⟨b1, b2, b3, by decide, by decide, by decide, by decide⟩⟩
  · obtain ⟨-, c1, c2, -, c3⟩ := zf_1 (kh h hh)
    refine ⟨⟨c1, c2, c3, by decide, by decide, by decide, by decide⟩, ?_, Or.inl rfl⟩
    rw [zI0_f (kh h hh) (by decide)]
    rfl
  · show zI0 332 3 = nI 0
    unfold zI0
    rw [if_pos (by decide +kernel), if_neg (by decide), if_neg (by decide)]
    rfl
