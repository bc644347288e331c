/-! PURE 30: what is told of a tool -/
theorem l_bits {J : zM} {P : List Nat} (h6 : J 0 6 = nI P.length) (h5 : ∀ i q, P[i]? = some q → J 5 i = nI q) (hlen : P.length ≤ 12) (hP : ∀ q, q ∈ P → q < 12) : ∀ (d y fuel : Nat), P.length = y + d → d < fuel → f_X9_told_l87 J fuel (nI (bitN (P.take y))) (nI y) = some (nI (bitN P), J) := by
  intro d
  induction d with
  | zero =>
    intro y fuel hd hf
    obtain ⟨m, rfl⟩ : ∃ m, fuel = m + 1 := ⟨fuel - 1, by omega⟩
    rw [f_X9_told_l87, h6, if_pos (nI_le (by omega) (by omega)), List.take_of_length_le (by omega)]
  | succ d ih =>
    intro y fuel hd hf
    obtain ⟨m, rfl⟩ : ∃ m, fuel = m + 1 := ⟨fuel - 1, by omega⟩
    have hy : y < P.length := by omega
    have hp := h5 y P[y] (List.getElem?_eq_getElem hy)
    have hp12 : P[y] < 12 := hP _ (List.getElem_mem hy)
    have ih := ih (y + 1) m (by omega) (by omega)
    rw [show P.take (y + 1) = P.take y ++ [P[y]] from (List.take_append_getElem hy).symm, bitN_app] at ih
    rw [f_X9_told_l87, h6, if_neg (nI_ge (by omega) (by omega)), zck_t (zin_t (by omega) (by decide)), nI_clamp (by omega), hp, zlet_s, sh_one _ hp12, or_nI, nI_1]
    exact ih
theorem q_told {I J : zM} {np nt B : Nat} (hB : B ≤ 2 ^ 20) (hR : RO I 1 (J 1) np nt B) (hM : TM I 330 12 1) (x w : Int32) : ∃ r I2 J2, f_X8_told I x w = some (r, I2) ∧ f_X9_told J x w = some (r, J2) ∧ FB I I2 329 ∧ FBJ J J2 ∧ TM I2 330 12 1 := by
  have hz := zFu_big
  obtain ⟨c1, c2, c3, c4, c5, c6, -⟩ := hR.1
  have same : ∀ (r : Int32) (f g : Option (Int32 × zM)), f = some (r, I) → g = some (r, J) → ∃ r I2 J2, f = some (r, I2) ∧ g = some (r, J2) ∧ FB I I2 329 ∧ FBJ J J2 ∧ TM I2 330 12 1 := fun r f g h1 h2 => ⟨r, I, J, h1, h2, fun _ _ _ _ => rfl, ⟨fun _ _ _ => rfl, fun _ _ => rfl⟩, hM⟩
  unfold f_X8_told f_X9_told
  rcases pr_isTool c5 c6 c2 x with ⟨e1, e2⟩ | ⟨u, hu, rfl, e1, e2⟩
  · rw [e1, e2]
    exact same (-1) _ _ rfl rfl
  · rw [e1, e2, zb_s, zb_s, if_neg one0, if_neg one0, in_e]
    have no : ∀ k : Int32, (w < 0 ∨ ¬ w ≤ 2) → (0 ≤ k ∧ k ≤ 2) → ¬ w = k := fun k h hk e => by
      subst e
      rcases h with h | h
      · exact absurd hk.1 (Int32.not_le.mpr h)
      · exact h hk.2
    by_cases g : w < 0 ∨ ¬ w ≤ 2
    · rw [if_neg (no 0 g (by decide)), if_neg (no 1 g (by decide)), if_neg (no 2 g (by decide))]
      by_cases g1 : w < 0
      · rw [if_pos g1, zb_s, if_pos rfl]
        exact same (-1) _ _ rfl rfl
      · rw [if_neg g1]
        rcases g with g | g
        · exact absurd g g1
        · rw [if_neg g, zb_s, if_pos rfl]
          exact same (-1) _ _ rfl rfl
    · have g1 : ¬ w < 0 := fun h => g (Or.inl h)
      have g2 : w ≤ 2 := Classical.byContradiction (fun h => g (Or.inr h))
      obtain ⟨k, hk, rfl⟩ := nI_of2 (M := 2) (n := 2) (by decide) g1 g2
      rw [if_neg g1, if_pos g2, zb_s, if_neg one0]
      rcases (show k = 0 ∨ k = 1 ∨ k = 2 by omega) with rfl | rfl | rfl
      · rw [if_pos (by decide), if_pos (by decide)]
        obtain ⟨e, n, m, L, S, -, -, -, hc⟩ := hR.2.2 u hu
        have h8 : L.length ≤ 8 := hc.1.2.2.2.1
        have hpl := hc.2.2.2.2.1.length_eq
        unfold f_X6_nextOf
        rw [sp_toolAt I 1 (by omega), zb_s]
        rcases pr_served hB hR hu hc with ⟨p, j, c, k1, k2, k3, k4⟩ | ⟨k3, k4⟩
        · have hpl1 := (List.getElem?_eq_some_iff.mp k1).1
          have hjl := (List.getElem?_eq_some_iff.mp k2).1
          rw [k3, k4, zb_s, zb_s, if_pos (nI_pos' (by omega)), if_pos (nI_pos' (by omega)), (sp_clC hc k1).1, (sp_clR (show u < 10 by omega) hc k2).1, zb_s, zb_s, zb_s]
          exact same _ _ _ rfl rfl
        · rw [k3, k4, zb_s, zb_s, if_neg (show ¬ (0 : Int32) ≤ -1 by decide), if_neg (show ¬ (0 : Int32) ≤ -2 by decide), zb_s]
          exact same _ _ _ rfl rfl
      · rw [if_neg (by decide), if_pos (by decide), if_neg (by decide), if_neg (by decide)]
        obtain ⟨P, I2, J2, hP, b1, b2, b3, b4, b5⟩ := pr_blame hB hR hu (h := 329) hM (Or.inr (by decide))
        have hlen := b3.len
        have hb := l_bits b3.2.2.2.1 (fun i q hi => (b3.2.1 i q hi).2) hlen b3.2.2.2.2.2 P.length 0 zFu (by omega) (by omega)
        have hb : f_X9_told_l87 J2 zFu 0 0 = _ := hb
        unfold f_X6_suspectsOf f_X0_bits
        rw [sp_toolAt I 1 (by omega), zb_s, b1, zb_s, zb_s, zb_s, b2, zb_s, hb, b3.2.2.1]
        exact ⟨_, I2, J2, rfl, rfl, b4, b5, b3.1.m⟩
      · rw [if_neg (by decide), if_neg (by decide), if_pos (by decide), if_neg (by decide), if_pos (by decide), sp_toolAt I 1 (by omega), zb_s]
        rcases RO_out hR hu with ⟨-, -, -, -, b5, b6, b7⟩ | ⟨p, d, -, -, -, -, -, b4, b5, b6, b7⟩
        · obtain ⟨v0, v1, g0, -, -, -, -, -, -, -, -, z5, z6⟩ := RO_num hR hu
          unfold f_X7_feeOn f_X7_daysLateOn
          rw [b6, zb_s, if_pos rfl, zb_s, zlet_s, Int32.zero_mul, z5, ← z6, b5, b7, zb_s, zb_s, if_pos rfl]
          exact same 0 _ _ rfl rfl
        · obtain ⟨f, f1, f2⟩ := pr_fee hR hu (I 1 7) b6 (b4.trans b5.symm)
          have f2' : f_X9_fee J (nI u) (J 1 1082) = some f := by rw [← RO_dayE hR]; exact f2
          rw [f1, zb_s, b7, zb_s, if_neg one0, f2', zb_s]
          exact same f _ _ rfl rfl
