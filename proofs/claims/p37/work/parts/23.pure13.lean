/-! PURE 13: swap -/
theorem l_take {a c : Nat} (hac : c ≠ a) : ∀ (d y fuel : Nat) (M : zM), 1087 = y + d → d < fuel → f_X9_take_l2 a c fuel M (nI y) = some (cp M c a y 1087) := by
  intro d
  induction d with
  | zero =>
    intro y fuel M hd hf
    obtain ⟨m, rfl⟩ : ∃ m, fuel = m + 1 := ⟨fuel - 1, by omega⟩
    rw [f_X9_take_l2]
    simp (disch := omega) only [zlit, zofN, zneg, zle, zlt, zeq, pk_mul, pk_sub, nI_add, nI_clamp, zb_s, zlet_s, if_false, if_true, if_pos, if_neg, zck_1, zin_t]
    refine congrArg some (zM_ext1 c (fun b hb => (cp_n hb).symm) (fun k => ?_))
    rw [cp_s, if_neg (by omega)]
  | succ d ih =>
    intro y fuel M hd hf
    obtain ⟨m, rfl⟩ : ∃ m, fuel = m + 1 := ⟨fuel - 1, by omega⟩
    rw [f_X9_take_l2]
    simp (disch := omega) only [zlit, zofN, zneg, zle, zlt, zeq, pk_mul, pk_sub, nI_add, nI_clamp, zb_s, zlet_s, if_false, if_true, if_pos, if_neg, zck_1, zin_t]
    rw [ih (y + 1) m _ (by omega) (by omega)]
    refine congrArg some (zM_ext1 c (fun b hb => by rw [cp_n hb, cp_n hb, ms_n hb]) (fun k => ?_))
    rw [cp_s, cp_s, ms_at, ms_n (Ne.symm hac)]
    by_cases c1 : k = y
    · subst c1
      rw [if_neg (by omega), if_pos rfl, if_pos (by omega)]
    · by_cases c2 : y ≤ k ∧ k < 1087
      · rw [if_pos (by omega), if_pos c2]
      · rw [if_neg (by omega), if_neg c2, if_neg c1]
theorem sp_take {J : zM} {a c : Nat} (hac : c ≠ a) : f_X9_take J a c = some (cp J c a 0 1087) := by
  have hz := zFu_big
  unfold f_X9_take
  exact l_take hac 1087 0 zFu J (by omega) (by omega)
def Deed2 (I J : zM) (o B : Nat) (fI fJ : Option (Int32 × zM)) : Prop := ∀ np nt, MT I o → RO I o (J 1) np nt B → ∃ r I2 J2 np2 nt2, fI = some (r, I2) ∧ fJ = some (r, J2) ∧ np ≤ np2 ∧ nt ≤ nt2 ∧ MT I2 o ∧ RO I2 o (J2 1) np2 nt2 (B + 2) ∧ FJ J J2
theorem Deed.two {I J : zM} {o B : Nat} {fI fJ : Option (Int32 × zM)} (h : Deed I J o B fI fJ) : Deed2 I J o B fI fJ := by
  intro np nt hM hR
  obtain ⟨r, I2, J2, np2, nt2, h1, h2, h3, h4, h5, h6, h7⟩ := h np nt hM hR
  exact ⟨r, I2, J2, np2, nt2, h1, h2, h3, h4, h5, RO_m h6 (Nat.le_succ _), h7⟩
theorem dd_two {J : zM} {o B : Nat} {np nt : Nat} {fI fJ : Option (Int32 × zM)} (h : ∃ r I2 J2 np2 nt2, fI = some (r, I2) ∧ fJ = some (r, J2) ∧ np ≤ np2 ∧ nt ≤ nt2 ∧ MT I2 o ∧ RO I2 o (J2 1) np2 nt2 (B + 1) ∧ FJ J J2) : ∃ r I2 J2 np2 nt2, fI = some (r, I2) ∧ fJ = some (r, J2) ∧ np ≤ np2 ∧ nt ≤ nt2 ∧ MT I2 o ∧ RO I2 o (J2 1) np2 nt2 (B + 2) ∧ FJ J J2 := by
  obtain ⟨r, I2, J2, np2, nt2, h1, h2, h3, h4, h5, h6, h7⟩ := h
  exact ⟨r, I2, J2, np2, nt2, h1, h2, h3, h4, h5, RO_m h6 (Nat.le_succ _), h7⟩
-- two tools with two holders
theorem pr_may {I J : zM} {o B np nt u v : Nat} (hR : RO I o (J 1) np nt B) (hu : u < nt) (hv : v < nt) : (f_X2_haveTwoHolders I o (nI u) (nI v) = some 0 ∧ f_X9_mayBeSwapped J (nI u) (nI v) = some 0) ∨ ∃ p q, p < np ∧ q < np ∧ p ≠ q ∧ u ≠ v ∧ I (o + 39 + 7 * u) 2 = nI p ∧ J 1 (180 + u * 90 + 2) = nI p ∧ I (o + 39 + 7 * v) 2 = nI q ∧ J 1 (180 + v * 90 + 2) = nI q ∧ f_X2_haveTwoHolders I o (nI u) (nI v) = some 1 ∧ f_X9_mayBeSwapped J (nI u) (nI v) = some 1 := by
  obtain ⟨c1, c2, c3, c4, c5, c6, -⟩ := hR.1
  have iu : f_X2_isTool I o (nI u) = some 1 := by
    unfold f_X2_isTool
    rw [if_neg (nI_pos (by omega)), c5, if_neg (nI_ge hu (by omega))]
  have iv : f_X2_isTool I o (nI v) = some 1 := by
    unfold f_X2_isTool
    rw [if_neg (nI_pos (by omega)), c5, if_neg (nI_ge hv (by omega))]
  have q2 : f_X9_t J (nI u) 2 = some (J 1 (180 + u * 90 + 2)) := sp_t J (t := u) (f := 2) (by omega)
  have q3 : f_X9_t J (nI v) 2 = some (J 1 (180 + v * 90 + 2)) := sp_t J (t := v) (f := 2) (by omega)
  unfold f_X2_haveTwoHolders f_X9_mayBeSwapped
  rw [iu, zb_s, if_neg one0, iv, zb_s, if_neg one0]
  simp only [sp_toolAt I o (show u < 10 by omega), sp_toolAt I o (show v < 10 by omega), zb_s]
  rcases RO_out hR hu with ⟨b1, b2, -, -, -, b6, b7⟩ | ⟨p, d, b0, -, b1, b2, b3, b4, b5, b6, b7⟩
  · rw [b6, zb_s, if_pos rfl, b7, zb_s, if_pos rfl]
    left
    refine ⟨rfl, ?_⟩
    split <;> rfl
  · rw [b6, zb_s, if_neg one0, b7, zb_s, if_neg one0]
    rcases RO_out hR hv with ⟨b1', b2', -, -, -, b6', b7'⟩ | ⟨q, d', b0', -, b1', b2', b3', b4', b5', b6', b7'⟩
    · rw [b6', zb_s, if_pos rfl, b7', zb_s, if_pos rfl]
      left
      refine ⟨rfl, ?_⟩
      split <;> rfl
    · rw [b6', zb_s, if_neg one0, b7', zb_s, if_neg one0, q2, q3, zb_s, zb_s, b1, b2, b1', b2']
      by_cases hpq : p = q
      · subst hpq
        rw [if_pos rfl]
        left
        refine ⟨rfl, ?_⟩
        split <;> rfl
      · have hne : ¬ nI p = nI q := fun h => hpq ((nI_eq (by omega) (by omega)).mp h)
        have huv : u ≠ v := by
          intro h
          subst h
          exact hpq ((nI_eq (by omega) (by omega)).mp (b1.symm.trans b1'))
        have huv2 : ¬ nI u = nI v := fun h => huv ((nI_eq (by omega) (by omega)).mp h)
        rw [if_neg hne, if_neg huv2]
        exact Or.inr ⟨p, q, b0, b0', hpq, huv, rfl, rfl, rfl, rfl, rfl, rfl⟩
def gainV (a b : Int32) : Int32 := if a ≤ 0 then 0 else if b ≤ 0 then 0 else a + b
theorem sp_wishOf (I : zM) (P : Nat) {t : Nat} (ht : t < 10) : f_X3_wishOf I P (nI t) = some (I (P + 1) t) := by
  unfold f_X3_wishOf
  simp (disch := omega) only [zlit, zofN, zneg, zle, zlt, zeq, pk_mul, pk_sub, nI_add, nI_clamp, zb_s, zlet_s, if_false, if_true, if_pos, if_neg, zck_1, zin_t]
theorem sp_riseOf {I : zM} {o u v p : Nat} (hu : u < 10) (hv : v < 10) (hp : p < 12) (h : I (o + 39 + 7 * u) 2 = nI p) : f_X2_riseOf I o (nI u) (nI v) = some (I (o + 15 + 2 * p + 1) v - I (o + 15 + 2 * p + 1) u) := by
  unfold f_X2_riseOf
  rw [sp_toolAt I o hu, zb_s, h, sp_personAt I o hp, zb_s, sp_wishOf I _ hv, zb_s, sp_wishOf I _ hu, zb_s]
theorem sp_more {J : zM} {u v p : Nat} (hu : u < 10) (hv : v < 10) (hp : p < 12) : f_X9_more J (nI p) (nI u) (nI v) = some (J 1 (p * 15 + (5 + v)) - J 1 (p * 15 + (5 + u))) := by
  unfold f_X9_more
  simp (disch := omega) only [sp_p, zlit, zofN, zneg, zle, zlt, zeq, pk_mul, pk_sub, nI_add, nI_clamp, zb_s, zlet_s, if_false, if_true, if_pos, if_neg, zck_1, zin_t]
theorem pr_rise {I J : zM} {o B np nt u v p : Nat} (hR : RO I o (J 1) np nt B) (hu : u < nt) (hv : v < nt) (hp : p < np) (h1 : I (o + 39 + 7 * u) 2 = nI p) : ∃ a, f_X2_riseOf I o (nI u) (nI v) = some a ∧ f_X9_more J (nI p) (nI u) (nI v) = some a := by
  have hnp := hR.1.1
  have hnt := hR.1.2.1
  have hw := (hR.2.1 p hp).2.1
  exact ⟨_, sp_riseOf (by omega) (by omega) (by omega) h1, by rw [sp_more (by omega) (by omega) (by omega), hw v (by omega), hw u (by omega)]⟩
theorem pr_gain {I J : zM} {o B np nt u v p q : Nat} (hR : RO I o (J 1) np nt B) (hu : u < nt) (hv : v < nt) (hp : p < np) (hq : q < np) (h1 : I (o + 39 + 7 * u) 2 = nI p) (h2 : J 1 (180 + u * 90 + 2) = nI p) (h3 : I (o + 39 + 7 * v) 2 = nI q) (h4 : J 1 (180 + v * 90 + 2) = nI q) : ∃ g, f_X2_gainOf I o (nI u) (nI v) = some g ∧ f_X9_gain J (nI u) (nI v) = some g := by
  have hnt := hR.1.2.1
  obtain ⟨a, a1, a2⟩ := pr_rise hR hu hv hp h1
  obtain ⟨b, b1, b2⟩ := pr_rise hR hv hu hq h3
  have q2 : f_X9_t J (nI u) 2 = some (nI p) := by rw [← h2]; exact sp_t J (t := u) (f := 2) (by omega)
  have q3 : f_X9_t J (nI v) 2 = some (nI q) := by rw [← h4]; exact sp_t J (t := v) (f := 2) (by omega)
  refine ⟨gainV a b, ?_, ?_⟩
  · unfold f_X2_gainOf gainV
    rw [a1, zb_s, b1, zb_s]
    split
    · rfl
    · split <;> rfl
  · unfold f_X9_gain gainV
    rw [q2, zb_s, a2, zb_s, q3, zb_s, b2, zb_s]
    split
    · rfl
    · split <;> rfl
theorem whyV_c (a b c d : Int32) : whyV a b c d = 0 ∨ whyV a b c d = 2 ∨ whyV a b c d = 3 := by
  unfold whyV
  split
  · split
    · exact Or.inl rfl
    · exact Or.inr (Or.inl rfl)
  · exact Or.inr (Or.inr rfl)
-- why two can't be swapped; the swap
theorem pr_swapped {I J : zM} {o B np nt u v p q : Nat} (hB : B + 1 ≤ 2 ^ 20) (hM : MT I o) (hR : RO I o (J 1) np nt B) (hu : u < nt) (hv : v < nt) (hp : p < np) (hq : q < np) (hpq : p ≠ q) (huv : u ≠ v) (h1 : I (o + 39 + 7 * u) 2 = nI p) (h2 : J 1 (180 + u * 90 + 2) = nI p) (h3 : I (o + 39 + 7 * v) 2 = nI q) (h4 : J 1 (180 + v * 90 + 2) = nI q) : ∃ g y, f_X2_gainOf I o (nI u) (nI v) = some g ∧ f_X9_gain J (nI u) (nI v) = some g ∧ f_X2_whyNotBothPassed I o (nI u) (nI v) = some y ∧ (g = 0 → f_X9_swapped J (nI u) (nI v) = some (40, J)) ∧ (g ≠ 0 → y ≠ 0 → (y = 2 ∨ y = 3) ∧ ∃ N, f_X9_swapped J (nI u) (nI v) = some (50 + y, N) ∧ ∀ a, a ≠ 1 → N a = J a) ∧ (g ≠ 0 → y = 0 → ∃ M1 M N, f_X2_handOver I o (o + 39 + 7 * u) (nI q) = some M1 ∧ f_X2_handOver M1 o (o + 39 + 7 * v) (nI p) = some M ∧ f_X9_swapped J (nI u) (nI v) = some (0, N) ∧ MT M o ∧ RO M o (N 1) np nt (B + 2) ∧ ∀ a, a ≠ 1 → N a = J a) := by
  have hnp := hR.1.1
  have hnt := hR.1.2.1
  have hday := RO_dayE hR
  obtain ⟨g, g1, g2⟩ := pr_gain hR hu hv hp hq h1 h2 h3 h4
  obtain ⟨M1, N1, r1, r2, r3, r4, r5, r6, r7, r8, r9⟩ := RO_over (by omega) hM hR hu hq hp h1
  have r9 := r9 (fun h => hpq h.symm)
  have h3' : M1 (o + 39 + 7 * v) 2 = nI q := by rw [r7 _ (by omega) (by omega) (by omega), h3]
  obtain ⟨M, N, s1, s2, s3, s4, s5, -⟩ := RO_over hB r3 r4 hv hp hq h3'
  have n2 : f_X9_t J (nI u) 2 = some (nI p) := by rw [← h2]; exact sp_t J (t := u) (f := 2) (by omega)
  have n3 : f_X9_t J (nI v) 2 = some (nI q) := by rw [← h4]; exact sp_t J (t := v) (f := 2) (by omega)
  have y1 := sp_noPass (J := J) (t := u) (q := q) (by omega) (by omega)
  have y2 := sp_noPass (J := N1) (t := v) (q := p) (by omega) (by omega)
  have r82 : N1 1 1082 = J 1 1082 := r8 _ (by omega) (by omega) (by omega)
  have rd4 : N1 1 (180 + v * 90 + 4) = J 1 (180 + v * 90 + 4) := r8 _ (by omega) (by omega) (by omega)
  have rd5 : N1 1 (180 + v * 90 + 5) = J 1 (180 + v * 90 + 5) := r8 _ (by omega) (by omega) (by omega)
  rw [r82, rd4, rd5, r9] at y2
  obtain ⟨wu, xu, ku, _, _, _, _, _, _, _, _, ku5, ku6⟩ := RO_num hR hu
  obtain ⟨wv, xv, kv, _, _, _, _, _, _, _, _, kv5, kv6⟩ := RO_num hR hv
  have du : I (o + 39 + 7 * u) 4 = J 1 (180 + u * 90 + 4) := by
    rcases RO_out hR hu with ⟨b1, -⟩ | ⟨p', d, -, -, -, -, -, b4, b5, -⟩
    · exact absurd (show nI p < 0 by rw [← h1, b1]; decide) (nI_pos (by omega))
    · rw [b4, b5]
  have dv : I (o + 39 + 7 * v) 4 = J 1 (180 + v * 90 + 4) := by
    rcases RO_out hR hv with ⟨b1, -⟩ | ⟨p', d, -, -, -, -, -, b4, b5, -⟩
    · exact absurd (show nI q < 0 by rw [← h3, b1]; decide) (nI_pos (by omega))
    · rw [b4, b5]
  have hpq1 := (hR.2.1 q hq).1 1 (by decide)
  have hpp1 := (hR.2.1 p hp).1 1 (by decide)
  generalize e1 : whyV (J 1 1082) (J 1 (180 + u * 90 + 4)) (J 1 (180 + u * 90 + 5)) (J 1 (q * 15 + 1)) = w1 at y1
  generalize e2 : whyV (J 1 1082) (J 1 (180 + v * 90 + 4)) (J 1 (180 + v * 90 + 5)) (J 1 (p * 15 + 1) + J 1 (180 + u * 90 + 5)) = w2 at y2
  have w1c := whyV_c (J 1 1082) (J 1 (180 + u * 90 + 4)) (J 1 (180 + u * 90 + 5)) (J 1 (q * 15 + 1))
  have w2c := whyV_c (J 1 1082) (J 1 (180 + v * 90 + 4)) (J 1 (180 + v * 90 + 5)) (J 1 (p * 15 + 1) + J 1 (180 + u * 90 + 5))
  rw [e1] at w1c
  rw [e2] at w2c
  have hcl : f_X2_whyNotBothPassed I o (nI u) (nI v) = some (if w1 = 0 then w2 else w1) := by
    unfold f_X2_whyNotBothPassed
    rw [sp_toolAt I o (by omega), zb_s, sp_toolAt I o (by omega), zb_s, h3, sp_personAt I o (by omega), zb_s, sp_why, zb_s, hday, du, ku5, ← ku6, hpq1, e1]
    by_cases c : w1 = 0
    · rw [if_pos c, if_pos c, h1, sp_personAt I o (by omega), zb_s, sp_why, zb_s, hday, dv, kv5, ← kv6, hpp1, e2]
    · rw [if_neg c, if_neg c]
  refine ⟨g, if w1 = 0 then w2 else w1, g1, g2, hcl, fun hg => ?_, fun hg hy => ?_, fun hg hy => ?_⟩
  · unfold f_X9_swapped
    rw [g2, zb_s, if_pos hg]
  · by_cases c : w1 = 0
    · rw [if_pos c] at hy ⊢
      refine ⟨w2c.resolve_left hy, N1, ?_, r5⟩
      · unfold f_X9_swapped
        rw [g2, zb_s, if_neg hg, n2, zb_s, n3, zb_s, y1, zb_s, if_pos c, r2, zb_s, y2, zb_s, if_neg hy]
    · rw [if_neg c] at hy ⊢
      refine ⟨w1c.resolve_left c, J, ?_, fun a _ => rfl⟩
      unfold f_X9_swapped
      rw [g2, zb_s, if_neg hg, n2, zb_s, n3, zb_s, y1, zb_s, if_neg c]
  · by_cases c : w1 = 0
    · rw [if_pos c] at hy
      refine ⟨M1, M, N, r1, s1, ?_, s3, s4, fun a ha => (s5 a ha).trans (r5 a ha)⟩
      · unfold f_X9_swapped
        rw [g2, zb_s, if_neg hg, n2, zb_s, n3, zb_s, y1, zb_s, if_pos c, r2, zb_s, y2, zb_s, if_pos hy, s2, zb_s]
    · rw [if_neg c] at hy
      exact absurd hy c
theorem d_swap {I J : zM} {o B : Nat} (hB : B + 1 ≤ 2 ^ 20) (x y : Int32) : Deed2 I J o B (f_X2_exchange I o x y) (f_X9_swap J x y) := by
  intro np nt hM hR
  obtain ⟨c1, c2, c3, c4, c5, c6, -⟩ := hR.1
  unfold f_X2_exchange f_X9_swap
  rcases pr_isTool c5 c6 c2 x with ⟨e1, e2⟩ | ⟨u, hu, rfl, e1, e2⟩
  · have eh : f_X2_haveTwoHolders I o x y = some 0 := by
      unfold f_X2_haveTwoHolders
      rw [e1, zb_s, if_pos rfl]
    rw [eh, e2]
    exact dd_two (dd_same hM hR (-1) rfl rfl)
  · rw [e2, zb_s, if_neg one0]
    rcases pr_isTool c5 c6 c2 y with ⟨e3, e4⟩ | ⟨v, hv, rfl, e3, e4⟩
    · have eh : f_X2_haveTwoHolders I o (nI u) y = some 0 := by
        unfold f_X2_haveTwoHolders
        rw [e1, zb_s, if_neg one0, e3, zb_s, if_pos rfl]
      rw [eh, e4]
      exact dd_two (dd_same hM hR (-1) rfl rfl)
    · rw [e4, zb_s, if_neg one0]
      rcases pr_may hR hu hv with ⟨m1, m2⟩ | ⟨p, q, hp, hq, hpq, huv, h1, h2, h3, h4, m1, m2⟩
      · rw [m1, m2]
        exact dd_two (dd_same hM hR (-1) rfl rfl)
      · rw [m1, m2, zb_s, zb_s, if_neg one0, if_neg one0, sp_take (by decide)]
        have hrow : ∀ a, a ≠ 2 → cp J 2 1 0 1087 a = J a := fun a ha => cp_n ha
        have hR' : RO I o (cp J 2 1 0 1087 1) np nt B := by rw [hrow 1 (by decide)]; exact hR
        have hrow2 : ∀ k, k < 1087 → cp J 2 1 0 1087 2 k = J 1 k := fun k hk => by rw [cp_s, if_pos (by omega)]
        have hg : f_X9_gain J (nI u) (nI v) = f_X9_gain (cp J 2 1 0 1087) (nI u) (nI v) := by
          obtain ⟨g, a1, a2⟩ := pr_gain hR hu hv hp hq h1 h2 h3 h4
          obtain ⟨g', b1, b2⟩ := pr_gain (J := cp J 2 1 0 1087) hR' hu hv hp hq h1 (by rw [hrow 1 (by decide)]; exact h2) h3 (by rw [hrow 1 (by decide)]; exact h4)
          rw [a2, b2, ← a1, ← b1]
        rw [hg]
        generalize cp J 2 1 0 1087 = K at *
        have hK1 : K 1 = J 1 := hrow 1 (by decide)
        obtain ⟨g, z, g1, g2, z1, s1, s2, s3⟩ := pr_swapped hB hM hR' hu hv hp hq hpq huv h1 (by rw [hK1]; exact h2) h3 (by rw [hK1]; exact h4)
        rw [g1, g2, zb_s, zb_s, zb_s]
        have hback : ∀ N : zM, (∀ a, a ≠ 1 → N a = K a) → ∃ R, f_X9_take N 2 1 = some R ∧ RO I o (R 1) np nt B ∧ FJ J R := by
          intro N hN
          refine ⟨_, sp_take (by decide), ?_, ?_, fun s hs => ?_⟩
          · refine RO_c hR (fun k a b => rfl) (fun k a b => ?_)
            rw [cp_s, if_pos (by omega), hN 2 (by decide), hrow2 k b]
          · intro a d1 d2 d3 d4
            rw [cp_n d2, hN a d2, hrow a d3]
          · rw [cp_n (by decide), hN 0 (by decide), hrow 0 (by decide)]
        by_cases cg : g = 0
        · rw [if_pos cg, s1 cg, zb_s, if_neg (show ¬ (40 : Int32) = 0 by decide)]
          obtain ⟨R, t1, t2, t3⟩ := hback K (fun a _ => rfl)
          rw [t1, zb_s, show ((40 : Int32) / 10) = 4 by decide, show ((40 : Int32) - 4 * 10) = 0 by decide]
          obtain ⟨r, I2, J2, np2, nt2, r1, r2, r3, r4, r5, r6, r7⟩ := d_refuse (x := 4) (y := 0) (by decide) hM t2
          rw [r1, r2]
          exact ⟨r, I2, J2, np2, nt2, rfl, rfl, r3, r4, r5, RO_m r6 (Nat.le_succ _), FJ_t t3 r7⟩
        · rw [if_neg cg, z1, zb_s]
          by_cases cz : z = 0
          · obtain ⟨M1, M, N, r1, r2, r3, r4, r5, r6⟩ := s3 cg cz
            rw [if_pos cz, sp_toolAt I o (by omega), zb_s, zb_s, sp_toolAt I o (by omega), zb_s, h3, r1, zb_s, sp_toolAt M1 o (by omega), zb_s, h1, r2, zb_s, r3, zb_s, if_pos rfl]
            refine ⟨g, M, N, np, nt, rfl, rfl, Nat.le_refl _, Nat.le_refl _, r4, r5, ?_⟩
            exact ⟨fun a d1 d2 d3 d4 => by rw [r6 a d2, hrow a d3], fun s hs => by rw [r6 0 (by decide), hrow 0 (by decide)]⟩
          · obtain ⟨zc, N, r1, r2⟩ := s2 cg cz
            obtain ⟨R, t1, t2, t3⟩ := hback N r2
            rw [if_neg cz, r1, zb_s]
            obtain ⟨r, I2, J2, np2, nt2, q1, q2, q3, q4, q5, q6, q7⟩ := d_refuse (x := 5) (y := z) (by decide) hM t2
            have e5 : (50 + z) / 10 = 5 ∧ (50 + z) - 5 * 10 = z ∧ ¬ 50 + z = 0 := by
              rcases zc with rfl | rfl
              · exact ⟨by decide, by decide, by decide⟩
              · exact ⟨by decide, by decide, by decide⟩
            rw [if_neg e5.2.2, t1, zb_s, e5.1, e5.2.1, q1, q2]
            exact ⟨r, I2, J2, np2, nt2, rfl, rfl, q3, q4, q5, RO_m q6 (Nat.le_succ _), FJ_t t3 q7⟩
