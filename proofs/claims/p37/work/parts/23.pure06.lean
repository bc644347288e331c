/-! PURE 6: fund, wish, days -/
theorem d_days {I J : zM} {o B : Nat} (hB : B ≤ 2 ^ 20) (x : Int32) : Deed I J o B (f_X2_passDays I o x) (f_X9_days J x) := by
  intro np nt hM hR
  obtain ⟨c1, c2, c3, c4, c5, c6, ⟨d, hd, c7, c8⟩, -⟩ := hR.1
  unfold f_X2_passDays f_X9_days
  rw [in_e]
  by_cases e1 : x < 1
  · rw [if_pos e1, if_pos e1]
    exact dd_same hM hR (-1) rfl rfl
  · rw [if_neg e1, if_neg e1]
    by_cases e2 : x ≤ 99
    · rw [if_pos e2, if_pos e2, zb_s, if_neg one0, c7, c8]
      have e0 : ¬ x < 0 := fun h => e1 (Int32.lt_of_lt_of_le h (by decide))
      obtain ⟨k, hk, rfl⟩ := nI_of2 (M := 99) (n := 99) (by decide) e0 e2
      rw [nI_add]
      refine ⟨nI (d + k), ms I o 7 (nI (d + k)), ms J 1 1082 (nI (d + k)), np, nt, ?_, ?_, Nat.le_refl _, Nat.le_refl _, MT_o hM, ?_, FJ_g FJ_r⟩
      · rw [zlet_s, ms_ss]
      · rw [zlet_s, ms_ss]
      · rw [ms_s]
        exact RO_day hR (Nat.le_succ B) (by omega)
    · rw [if_neg e2, if_neg e2]
      exact dd_same hM hR (-1) rfl rfl
theorem d_wish {I J : zM} {o B : Nat} (x t v : Int32) : Deed I J o B (f_X2_setWish I o x t v) (f_X9_wish J x t v) := by
  intro np nt hM hR
  obtain ⟨c1, c2, c3, c4, c5, c6, -⟩ := hR.1
  unfold f_X2_setWish f_X9_wish
  rcases pr_isPerson c3 c4 c1 x with ⟨e1, e2⟩ | ⟨q, hq, rfl, e1, e2⟩
  · rw [e1, e2]
    exact dd_same hM hR (-1) rfl rfl
  · rw [e1, e2, zb_s, zb_s, if_neg one0, if_neg one0]
    rcases pr_isTool c5 c6 c2 t with ⟨e1, e2⟩ | ⟨u, hu, rfl, e1, e2⟩
    · rw [e1, e2]
      exact dd_same hM hR (-1) rfl rfl
    · rw [e1, e2, zb_s, zb_s, if_neg one0, if_neg one0, in_e]
      by_cases d1 : v < 0
      · rw [if_pos d1, if_pos d1]
        exact dd_same hM hR (-1) rfl rfl
      · rw [if_neg d1, if_neg d1]
        by_cases d2 : v ≤ 9
        · rw [if_pos d2, if_pos d2, zb_s, if_neg one0]
          have hw := (hR.2.1 q hq).2.1 u (by omega)
          unfold f_X3_wishOf f_X3_setWishOf
          simp (disch := omega) only [sp_personAt, sp_p, sp_setP, zlit, zofN, zneg, zle, zlt, zeq, pk_mul, pk_sub, nI_add, nI_clamp, zb_s, zlet_s, if_false, if_true, if_pos, if_neg, zck_1, zin_t]
          rw [hw]
          refine ⟨_, _, _, np, nt, rfl, rfl, Nat.le_refl _, Nat.le_refl _, MT_w hM (by omega), ?_, FJ_g FJ_r⟩
          rw [ms_s]
          exact RO_m (RO_wish hR hq hu (by obtain ⟨w, hw, rfl⟩ := nI_of2 (M := 9) (n := 9) (by decide) d1 d2; exact ⟨w, by omega, rfl⟩)) (Nat.le_succ B)
        · rw [if_neg d2, if_neg d2]
          exact dd_same hM hR (-1) rfl rfl
theorem d_fund {I J : zM} {o B : Nat} (x n : Int32) : Deed I J o B (f_X2_bringCoins I o x n) (f_X9_fund J x n) := by
  intro np nt hM hR
  obtain ⟨c1, c2, c3, c4, c5, c6, -, c8, -⟩ := hR.1
  unfold f_X2_bringCoins f_X9_fund
  rcases pr_isPerson c3 c4 c1 x with ⟨e1, e2⟩ | ⟨q, hq, rfl, e1, e2⟩
  · rw [e1, e2]
    exact dd_same hM hR (-1) rfl rfl
  · rw [e1, e2, zb_s, zb_s, if_neg one0, if_neg one0, in_e]
    by_cases d1 : n < 1
    · rw [if_pos d1, if_pos d1]
      exact dd_same hM hR (-1) rfl rfl
    · rw [if_neg d1, if_neg d1]
      by_cases d2 : n ≤ 999
      · rw [if_pos d2, if_pos d2, zb_s, if_neg one0, sp_personAt I o (by omega), zb_s]
        have hp1 := (hR.2.1 q hq).1 1 (by decide)
        have hp4 := (hR.2.1 q hq).1 4 (by decide)
        have q4 : f_X9_p J (nI q) 4 = some (I (o + 15 + 2 * q) 4) := by rw [hp4]; exact sp_p J (q := q) (f := 4) (by omega)
        have q1 : f_X9_p J (nI q) 1 = some (I (o + 15 + 2 * q) 1) := by rw [hp1]; exact sp_p J (q := q) (f := 1) (by omega)
        rw [q4, zb_s, zb_s, zlet_s, ← apply_ite (fun s => f_X9_fund_j41 J (nI q) n s)]
        have em : (if n < I (o + 15 + 2 * q) 4 then n else I (o + 15 + 2 * q) 4) = (if n ≤ I (o + 15 + 2 * q) 4 then n else I (o + 15 + 2 * q) 4) := by
          by_cases z : n < I (o + 15 + 2 * q) 4
          · rw [if_pos z, if_pos (Int32.le_of_lt z)]
          · rw [if_neg z]
            by_cases z2 : n ≤ I (o + 15 + 2 * q) 4
            · rw [if_pos z2]
              exact Int32.le_antisymm (Int32.not_lt.mp z) z2
            · rw [if_neg z2]
        rw [em]
        generalize (if n ≤ I (o + 15 + 2 * q) 4 then n else I (o + 15 + 2 * q) 4) = w
        unfold f_X9_fund_j41
        simp only [q1, q4, zb_s, zlet_s]
        by_cases d3 : I (o + 15 + 2 * q) 1 + n - w ≤ 9999
        · rw [if_pos d3, if_pos d3]
          have s4 : f_X9_setP J (nI q) 4 (I (o + 15 + 2 * q) 4 - w) = some (ms J 1 (q * 15 + 4) (I (o + 15 + 2 * q) 4 - w)) := sp_setP J (q := q) (f := 4) (by omega) _
          have s1 : ∀ M : zM, f_X9_setP M (nI q) 1 (I (o + 15 + 2 * q) 1 + n - w) = some (ms M 1 (q * 15 + 1) (I (o + 15 + 2 * q) 1 + n - w)) := fun M => sp_setP M (q := q) (f := 1) (by omega) _
          rw [s4, zb_s, s1, zb_s]
          have t1 : ms (ms I (o + 15 + 2 * q) 4 (I (o + 15 + 2 * q) 4 - w)) (o + 15 + 2 * q) 1 (I (o + 15 + 2 * q) 1 + n - w) o 8 = J 1 1083 := by rw [ms_n (by omega), ms_n (by omega)]; exact c8
          have t2 : ms J 1 (q * 15 + 4) (I (o + 15 + 2 * q) 4 - w) 1 1083 = J 1 1083 := ms_sn (by omega)
          rw [t1, t2]
          refine ⟨_, _, _, np, nt, rfl, rfl, Nat.le_refl _, Nat.le_refl _, MT_o (MT_p (MT_p hM (by omega)) (by omega)), ?_, FJ_g (FJ_g (FJ_g FJ_r))⟩
          rw [ms_s, ms_s, ms_s, upd_c _ _ _ (by omega)]
          exact RO_m (RO_till (RO_setP (RO_setP hR hq (by decide) (by decide)) hq (by decide) (by decide))) (Nat.le_succ B)
        · rw [if_neg d3, if_neg d3]
          exact dd_same hM hR (-5) rfl rfl
      · rw [if_neg d2, if_neg d2]
        exact dd_same hM hR (-1) rfl rfl
