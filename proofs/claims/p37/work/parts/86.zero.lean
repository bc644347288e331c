/-! at the beginning -/
def zP (n : Nat) (I J : zM) : Prop := ∃ B, B ≤ 64 * n ∧ PV B I J
theorem zMT0 {o : Nat} (h7 : ∀ t, t < 10 → zK (o + 39 + 7 * t) = 7) (h0 : zK (o + 12) = 0) : MT zI0 o := by
  refine ⟨fun t ht => ?_, ?_⟩
  · obtain ⟨-, a1, a2, -, a3⟩ := zf_7a (h7 t ht)
    obtain ⟨-, b1, b2, -, b3⟩ := zf_7b (h7 t ht)
    obtain ⟨-, c1, c2, -, c3⟩ := zf_7c (h7 t ht)
    exact ⟨⟨a1, a2, a3, by decide, by decide, by decide, by decide⟩, ⟨b1, b2, b3, by decide, by decide, by decide, by decide⟩, ⟨c1, c2, c3, by decide, by decide, by decide, by decide⟩⟩
  · obtain ⟨-, a1, a2, -, a3⟩ := zf_0 h0
    exact ⟨a1, a2, a3, by decide, by decide, by decide, by decide⟩
theorem zP_0 : zP 0 zI0 zJ0 := by
  have k1 : zI0 1 = fun _ => 0 := zI0_f (show zK 1 = 2 by decide +kernel) (by decide)
  have k0 : zI0 0 = fun _ => 0 := zI0_f (show zK 0 = 8 by decide +kernel) (by decide)
  have k338 : zI0 338 = fun _ => 0 := zI0_f (show zK 338 = 1 by decide +kernel) (by decide)
  have kh : ∀ h, h < 6 → zK (341 + 3 * h) = 1 := by decide +kernel
  obtain ⟨-, a1, a2, -, a3⟩ := zf_0 (k := 329) (by decide +kernel)
  obtain ⟨-, b1, b2, -, b3⟩ := zf_5 (k := 334) (by decide +kernel)
  obtain ⟨t1, t2, -, t3⟩ := zi_332
  refine ⟨0, Nat.le_refl _, 0, 0, ⟨⟨by decide, by decide, by rw [k1]; rfl, rfl, by rw [k1]; rfl, rfl, ⟨0, Nat.le_refl _, by rw [k1]; rfl, rfl⟩, by rw [k1]; rfl, Or.inl ⟨rfl, by rw [k1], by rw [k1]⟩⟩, fun q hq => absurd hq (Nat.not_lt_zero _), fun q hq => absurd hq (Nat.not_lt_zero _)⟩, ⟨by rw [k338], fun h hh => ?_⟩, zMT0 (by decide +kernel) (by decide +kernel), zMT0 (by decide +kernel) (by decide +kernel), zMT0 (by decide +kernel) (by decide +kernel), ⟨0, ⟨t1, t2, ?_, by decide, t3, by decide, by decide, by decide, by decide⟩, rfl, fun i hi => absurd hi (Nat.not_lt_zero _)⟩, Or.inl ⟨by rw [k0], rfl⟩, ⟨a1, a2, a3, by decide, by decide, by decide, by decide⟩, ⟨b1, b2, b3, by decide, by decide, by decide, by decide⟩⟩
  · obtain ⟨-, c1, c2, -, c3⟩ := zf_1 (kh h hh)
    refine ⟨⟨c1, c2, c3, by decide, by decide, by decide, by decide⟩, ?_, Or.inl rfl⟩
    rw [zI0_f (kh h hh) (by decide)]
    rfl
  · show zI0 332 3 = nI 0
    unfold zI0
    rw [if_pos (by decide +kernel), if_neg (by decide), if_neg (by decide)]
    rfl
theorem KQ_0 : KQ 0 0 zI0 zJ0 := by
  obtain ⟨B, hB, hV⟩ := zP_0
  refine ⟨B, 0, hB, Nat.zero_le _, hV, 0, 0, by decide, by decide, rfl, rfl, fun q hq => absurd hq (Nat.not_lt_zero q), fun q u hq => absurd hq (Nat.not_lt_zero q), ⟨0, Nat.zero_le _, rfl, fun t ht => absurd ht (Nat.not_lt_zero t)⟩, ⟨0, by decide, rfl⟩, ?_⟩
  show 0 + 0 + cN (nI 0) = 0
  rw [cN_n (by decide)]
