/-! PURE: of whole, what is wanted here -/
theorem PV_m {I J : zM} {B B2 : Nat} (h : PV B I J) (hB : B ≤ B2) : PV B2 I J := by
  obtain ⟨np, nt, hR, hH, m1, m2, m3, hT, hI, b1, b2⟩ := h
  exact ⟨np, nt, RO_m hR hB, hH, m1, m2, m3, hT, IM_c hI hB rfl rfl (fun _ _ _ => rfl) rfl, b1, b2⟩
theorem zL1 : ∀ q, q < 12 → zLn (1 + 15 + 2 * q + 1) = 10 := by decide +kernel
theorem St_m {I J : zM} {B B2 B3 : Nat} {fI fJ : Option (Int32 × zM)} (h : St B B2 I J fI fJ) (h2 : B2 ≤ B3) : St B B3 I J fI fJ := fun hV => by
  obtain ⟨r, I2, J2, a, b, c⟩ := h hV
  exact ⟨r, I2, J2, a, b, PV_m c h2⟩
theorem St_deed {I J : zM} {B : Nat} {fI fJ : Option (Int32 × zM)} (h : Deed2 I J 1 B fI fJ) (hf : ∀ r, fI = some r → FM 1 110 I r.2) : St B (B + 2) I J fI fJ := by
  intro hV
  obtain ⟨np, nt, hR, hH, m1, m2, m3, hT, hI, b1, b2⟩ := hV
  obtain ⟨r, I2, J2, np2, nt2, q1, q2, q3, q4, q5, q6, q7⟩ := h np nt m1 hR
  have kI : ∀ k, (k < 1 ∨ 110 ≤ k) → I2 k = I k := (hf _ q1).1
  refine ⟨r, I2, J2, q1, q2, np2, nt2, q6, ?_, q5, ?_, ?_, ?_, ?_, ?_, ?_⟩
  · exact HS_c hH q3 q4 (fun k c1 c2 => kI k (by omega)) (fun a c1 c2 => q7.1 a (by omega) (by omega) (by omega) (by omega))
  · exact MT_c m2 (fun k c1 c2 => kI k (by omega))
  · exact MT_c m3 (fun k c1 c2 => kI k (by omega))
  · exact TP_c hT (kI _ (by omega)) (kI _ (by omega)) (q7.2 8 (by decide)) (q7.1 6 (by decide) (by decide) (by decide) (by decide))
  · exact IM_c hI (by omega) (by rw [kI 0 (by omega)]) (q7.2 4 (by decide)) (fun k c1 c2 => kI k (by omega)) (q7.1 4 (by decide) (by decide) (by decide) (by decide))
  · exact TM_c b1 (kI _ (by omega))
  · exact TM_c b2 (kI _ (by omega))
