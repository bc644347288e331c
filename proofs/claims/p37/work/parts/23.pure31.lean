/-! PURE 31: what one's share would be -/
theorem l_share {J : zM} {P : List Nat} {q : Nat} (h6 : J 0 6 = nI P.length) (h5 : ∀ i q, P[i]? = some q → J 5 i = nI q) (hlen : P.length ≤ 12) (hP : ∀ q, q ∈ P → q < 12) (hq : q < 12) (x1 : Int32) (K : Int32 → Option (Int32 × zM)) : ∀ (d y fuel : Nat), P.length = y + d → d < fuel → (∃ i, P[i]? = some q ∧ f_X9_share_l25 J x1 (nI q) K fuel (nI y) = K (nI i)) ∨ ((∀ i, y ≤ i → P[i]? ≠ some q) ∧ f_X9_share_l25 J x1 (nI q) K fuel (nI y) = some (0, J)) := by
  intro d
  induction d with
  | zero =>
    intro y fuel hd hf
    obtain ⟨m, rfl⟩ : ∃ m, fuel = m + 1 := ⟨fuel - 1, by omega⟩
    rw [f_X9_share_l25, h6, if_pos (nI_le (by omega) (by omega))]
    refine Or.inr ⟨fun i hi hc => ?_, rfl⟩
    have := (List.getElem?_eq_some_iff.mp hc).1
    omega
  | succ d ih =>
    intro y fuel hd hf
    obtain ⟨m, rfl⟩ : ∃ m, fuel = m + 1 := ⟨fuel - 1, by omega⟩
    have hy : y < P.length := by omega
    have hg := List.getElem?_eq_getElem hy
    have hp := h5 y P[y] hg
    have hp12 : P[y] < 12 := hP _ (List.getElem_mem hy)
    rw [f_X9_share_l25, h6, if_neg (nI_ge (by omega) (by omega)), zck_t (zin_t (by omega) (by decide)), nI_clamp (by omega), hp, nI_1]
    by_cases e : P[y] = q
    · rw [if_pos (by rw [e])]
      exact Or.inl ⟨y, by rw [hg, e], rfl⟩
    · rw [if_neg (show ¬ nI P[y] = nI q from fun h => e ((nI_eq (by omega) (by omega)).mp h))]
      rcases ih (y + 1) m (by omega) (by omega) with h | ⟨h1, h2⟩
      · exact Or.inl h
      · refine Or.inr ⟨fun i hi hc => ?_, h2⟩
        by_cases ei : i = y
        · subst ei
          rw [hg] at hc
          exact e (Option.some.inj hc)
        · exact h1 i (by omega) hc
theorem q_share {I J : zM} {np nt B : Nat} (hB : B ≤ 2 ^ 20) (hR : RO I 1 (J 1) np nt B) (hM : TM I 330 12 1) (x w : Int32) : ∃ r I2 J2, f_X8_share I x w = some (r, I2) ∧ f_X9_share J x w = some (r, J2) ∧ FB I I2 329 ∧ FBJ J J2 ∧ TM I2 330 12 1 := by
  have hz := zFu_big
  obtain ⟨c1, c2, c3, c4, c5, c6, -⟩ := hR.1
  have same : ∀ (r : Int32) (f g : Option (Int32 × zM)), f = some (r, I) → g = some (r, J) → ∃ r I2 J2, f = some (r, I2) ∧ g = some (r, J2) ∧ FB I I2 329 ∧ FBJ J J2 ∧ TM I2 330 12 1 := fun r f g h1 h2 => ⟨r, I, J, h1, h2, fun _ _ _ _ => rfl, ⟨fun _ _ _ => rfl, fun _ _ => rfl⟩, hM⟩
  unfold f_X8_share f_X9_share
  rcases pr_isTool c5 c6 c2 x with ⟨e1, e2⟩ | ⟨u, hu, rfl, e1, e2⟩
  · rw [e1, e2]
    exact same (-1) _ _ rfl rfl
  · rw [e1, e2, zb_s, zb_s, if_neg one0, if_neg one0]
    rcases pr_isPerson c3 c4 c1 w with ⟨e1, e2⟩ | ⟨q, hq, rfl, e1, e2⟩
    · rw [e1, e2]
      exact same (-1) _ _ rfl rfl
    · obtain ⟨P, I2, J2, hP, b1, b2, b3, b4, b5⟩ := pr_blame hB hR hu (h := 329) hM (Or.inr (by decide))
      have hlen := b3.len
      have hR2 : RO I2 1 (J2 1) np nt B := by
        rw [b5.1 1 (by decide) (by decide)]
        exact RO_c hR (fun k h1 h2 => b4 k (by omega) (by omega) (by omega)) (fun k _ _ => rfl)
      obtain ⟨c, k1, k2⟩ := pr_cost hR2 hu
      rw [e1, e2, zb_s, zb_s, if_neg one0, if_neg one0]
      unfold f_X6_shareOf
      rw [sp_toolAt I 1 (by omega), zb_s, b1, zb_s, k1, zb_s, b2, zb_s, k2]
      rcases l_share (J := J2) (P := P) (q := q) b3.2.2.2.1 (fun i q hi => (b3.2.1 i q hi).2) hlen b3.2.2.2.2.2 (by omega) (nI u) (fun z9 => zb (some c) (fun q10 => zb (f_X9_shareOf J2 q10 z9) (fun q11 => some (q11, J2)))) P.length 0 zFu (by omega) (by omega) with ⟨i, h1, h2⟩ | ⟨h1, h2⟩
      · have h2 : f_X9_share_l25 J2 (nI u) (nI q) _ zFu 0 = _ := h2
        have hil := (List.getElem?_eq_some_iff.mp h1)
        have sC := sp_shareC b3 hil.1 c
        rw [hil.2] at sC
        have sR := sp_shareR b3.2.2.2.1 (Nat.lt_of_le_of_lt (Nat.zero_le i) hil.1) hlen hil.1 c
        rw [h2, sC, zb_s, zb_s, zb_s, sR, zb_s]
        exact ⟨_, I2, J2, rfl, rfl, b4, b5, b3.1.m⟩
      · have h2 : f_X9_share_l25 J2 (nI u) (nI q) _ zFu 0 = _ := h2
        have hno : ¬ q ∈ P := fun hm => by
          obtain ⟨i, hi⟩ := List.mem_iff_getElem?.mp hm
          exact h1 i (Nat.zero_le _) hi
        have sC : f_X0_shareOf I2 329 (nI q) c = some 0 := by
          unfold f_X0_shareOf
          rw [sp_size b3.1, zb_s]
          by_cases z : nI P.length ≤ 0
          · rw [if_pos z]
          · rw [if_neg z, sp_isBlamed b3.2.2.1 b3.2.2.2.2.2 (by omega), if_neg hno, zb_s, if_pos rfl]
        rw [h2, sC, zb_s, zb_s]
        exact ⟨0, I2, J2, rfl, rfl, b4, b5, b3.1.m⟩
