/-! PURE 8: a link and a look more, in the class -/
theorem sp_goTo {I : zM} {T n e : Nat} (hT : TB I (T + 1) 8 3 n) (p d : Int32) : ∃ M, f_X7_goTo I T p d = some M ∧ (∀ k, k ≠ T → k ≠ T + 1 → k ≠ T + 1 + 1 → M k = I k) ∧ M T 0 = I T 0 ∧ M T 1 = I T 1 ∧ M T 2 = p ∧ M T 3 = d ∧ M T 4 = I T 4 ∧ M T 5 = I T 5 ∧ M T 6 = I T 6 + 1 ∧ TB M (T + 1) 8 3 (pushN n 8) ∧ ∀ i j, i < pushN n 8 → j < 3 → M (T + 1 + 1) (i * 3 + j) = pushR n 8 (fun i j => I (T + 1 + 1) (i * 3 + j)) (n3 p d (-2)) i j := by
  have hn8 : n ≤ 8 := hT.2.2.2.1
  have hT' : TB (ms (ms I T 2 p) T 3 d) (T + 1) 8 3 n := TB_c hT (by rw [ms_n (by omega), ms_n (by omega)])
  obtain ⟨M, ha, hTB, hfr, hrow⟩ := sp_append hT' (by decide)
  have hP1 := pushN_pos (n := n) (m := 8) (by decide)
  have hP8 := pushN_le hn8
  have hr0 : (fun i j => ms (ms I T 2 p) T 3 d (T + 1 + 1) (i * 3 + j)) = (fun i j => I (T + 1 + 1) (i * 3 + j)) := by
    funext i j
    rw [ms_n (by omega), ms_n (by omega)]
  rw [hr0] at hrow
  have hlast : ∀ j, pushR n 8 (fun i j => I (T + 1 + 1) (i * 3 + j)) (n3 p d (-2)) (pushN n 8 - 1) j = n3 p d (-2) j := fun j => pushR_last (by decide)
  have hnew : ∀ i j, i + 1 < pushN n 8 → j < 3 → M (T + 1 + 1) (i * 3 + j) = pushR n 8 (fun i j => I (T + 1 + 1) (i * 3 + j)) (n3 p d (-2)) i j := fun i j a b => (hrow i j (by omega) b).trans (pushR_new a)
  generalize pushN n 8 = P at *
  have hMT : M T = ms (ms I T 2 p) T 3 d T := hfr T (by omega) (by omega)
  unfold f_X7_goTo
  rw [zlet_s, zlet_s, ha, zb_s]
  have s0 := sp_setCell hTB (i := P - 1) (j := 0) (by omega) (by decide) p
  have hTB1 : TB (ms M (T + 1 + 1) ((P - 1) * 3 + 0) p) (T + 1) 8 3 P := TB_c hTB (ms_n (by omega))
  have s1 := sp_setCell hTB1 (i := P - 1) (j := 1) (by omega) (by decide) d
  have hTB2 := TB_c (I2 := ms (ms M (T + 1 + 1) ((P - 1) * 3 + 0) p) (T + 1 + 1) ((P - 1) * 3 + 1) d) hTB1 (ms_n (by omega))
  have s2 := sp_setCell hTB2 (i := P - 1) (j := 2) (by omega) (by decide) (-2)
  have s0 : f_X4_setCell M (T + 1) (nI (P - 1)) 0 p = _ := s0
  have s1 : f_X4_setCell _ (T + 1) (nI (P - 1)) 1 d = _ := s1
  have s2 : f_X4_setCell _ (T + 1) (nI (P - 1)) 2 (-2) = _ := s2
  rw [s0, zb_s, s1, zb_s, s2, zb_s, zlet_s]
  have e6 : ms (ms (ms M (T + 1 + 1) ((P - 1) * 3 + 0) p) (T + 1 + 1) ((P - 1) * 3 + 1) d) (T + 1 + 1) ((P - 1) * 3 + 2) (-2) T 6 = I T 6 := by
    rw [ms_n (by omega), ms_n (by omega), ms_n (by omega), hMT, ms_sn (by decide), ms_sn (by decide)]
  rw [e6]
  refine ⟨_, rfl, fun k h1 h2 h3 => ?_, ?_, ?_, ?_, ?_, ?_, ?_, ?_, ?_, fun i j hi hj => ?_⟩
  · rw [ms_n h1, ms_n h3, ms_n h3, ms_n h3, hfr k h2 h3, ms_n h1, ms_n h1]
  · rw [ms_sn (by decide), ms_n (by omega), ms_n (by omega), ms_n (by omega), hMT, ms_sn (by decide), ms_sn (by decide)]
  · rw [ms_sn (by decide), ms_n (by omega), ms_n (by omega), ms_n (by omega), hMT, ms_sn (by decide), ms_sn (by decide)]
  · rw [ms_sn (by decide), ms_n (by omega), ms_n (by omega), ms_n (by omega), hMT, ms_sn (by decide), ms_ss]
  · rw [ms_sn (by decide), ms_n (by omega), ms_n (by omega), ms_n (by omega), hMT, ms_ss]
  · rw [ms_sn (by decide), ms_n (by omega), ms_n (by omega), ms_n (by omega), hMT, ms_sn (by decide), ms_sn (by decide)]
  · rw [ms_sn (by decide), ms_n (by omega), ms_n (by omega), ms_n (by omega), hMT, ms_sn (by decide), ms_sn (by decide)]
  · rw [ms_ss]
  · exact TB_c hTB2 (by rw [ms_n (by omega), ms_n (by omega)])
  · rw [ms_n (by omega)]
    by_cases c : i + 1 < P
    · rw [ms_sn (by omega), ms_sn (by omega), ms_sn (by omega)]
      exact hnew i j c hj
    · have hi2 : i = P - 1 := by omega
      subst hi2
      refine Eq.trans ?_ (hlast j).symm
      rcases (show j = 0 ∨ j = 1 ∨ j = 2 by omega) with rfl | rfl | rfl
      · rw [ms_sn (by omega), ms_sn (by omega), ms_ss]
        rfl
      · rw [ms_sn (by omega), ms_ss]
        rfl
      · rw [ms_ss]
        rfl
theorem sp_noteLook {I : zM} {T m : Nat} (hT : TB I (T + 3) 6 4 m) (d : Int32) : ∃ M, f_X7_noteLook I T d = some M ∧ (∀ k, k ≠ T + 3 → k ≠ T + 3 + 1 → M k = I k) ∧ TB M (T + 3) 6 4 (pushN m 6) ∧ ∀ i j, i < pushN m 6 → j < 4 → M (T + 3 + 1) (i * 4 + j) = pushR m 6 (fun i j => I (T + 3 + 1) (i * 4 + j)) (n4 d (I T 1) (I T 6) (if I T 2 < 0 then 0 else 1)) i j := by
  have hn8 : m ≤ 6 := hT.2.2.2.1
  obtain ⟨M, ha, hTB, hfr, hrow⟩ := sp_append hT (by decide)
  have hP1 := pushN_pos (n := m) (m := 6) (by decide)
  have hP8 := pushN_le hn8
  generalize hop : (if I T 2 < 0 then (0 : Int32) else 1) = op
  have hlast : ∀ j, pushR m 6 (fun i j => I (T + 3 + 1) (i * 4 + j)) (n4 d (I T 1) (I T 6) op) (pushN m 6 - 1) j = n4 d (I T 1) (I T 6) op j := fun j => pushR_last (by decide)
  have hnew : ∀ i j, i + 1 < pushN m 6 → j < 4 → M (T + 3 + 1) (i * 4 + j) = pushR m 6 (fun i j => I (T + 3 + 1) (i * 4 + j)) (n4 d (I T 1) (I T 6) op) i j := fun i j a b => (hrow i j (by omega) b).trans (pushR_new a)
  generalize pushN m 6 = P at *
  have hMT : M T = I T := hfr T (by omega) (by omega)
  unfold f_X7_noteLook
  rw [ha, zb_s]
  have s0 := sp_setCell hTB (i := P - 1) (j := 0) (by omega) (by decide) d
  have hTB1 : TB (ms M (T + 3 + 1) ((P - 1) * 4 + 0) d) (T + 3) 6 4 P := TB_c hTB (ms_n (by omega))
  have s1 := sp_setCell hTB1 (i := P - 1) (j := 1) (by omega) (by decide) (I T 1)
  have hTB2 := TB_c (I2 := ms (ms M (T + 3 + 1) ((P - 1) * 4 + 0) d) (T + 3 + 1) ((P - 1) * 4 + 1) (I T 1)) hTB1 (ms_n (by omega))
  have s2 := sp_setCell hTB2 (i := P - 1) (j := 2) (by omega) (by decide) (I T 6)
  have hTB3 := TB_c (I2 := ms (ms (ms M (T + 3 + 1) ((P - 1) * 4 + 0) d) (T + 3 + 1) ((P - 1) * 4 + 1) (I T 1)) (T + 3 + 1) ((P - 1) * 4 + 2) (I T 6)) hTB2 (ms_n (by omega))
  have s3 := sp_setCell hTB3 (i := P - 1) (j := 3) (by omega) (by decide) op
  have s0 : f_X4_setCell M (T + 3) (nI (P - 1)) 0 d = _ := s0
  have s1 : f_X4_setCell _ (T + 3) (nI (P - 1)) 1 (I T 1) = _ := s1
  have s2 : f_X4_setCell _ (T + 3) (nI (P - 1)) 2 (I T 6) = _ := s2
  have s3 : f_X4_setCell _ (T + 3) (nI (P - 1)) 3 op = _ := s3
  have e1 : ms M (T + 3 + 1) ((P - 1) * 4 + 0) d T 1 = I T 1 := by rw [ms_n (by omega), hMT]
  have e6 : ms (ms M (T + 3 + 1) ((P - 1) * 4 + 0) d) (T + 3 + 1) ((P - 1) * 4 + 1) (I T 1) T 6 = I T 6 := by rw [ms_n (by omega), ms_n (by omega), hMT]
  rw [s0, zb_s, e1, s1, zb_s, e6, s2, zb_s]
  have el : f_X7_isLeased (ms (ms (ms M (T + 3 + 1) ((P - 1) * 4 + 0) d) (T + 3 + 1) ((P - 1) * 4 + 1) (I T 1)) (T + 3 + 1) ((P - 1) * 4 + 2) (I T 6)) T = some op := by
    unfold f_X7_isLeased
    rw [ms_n (by omega), ms_n (by omega), ms_n (by omega), hMT, ← hop]
    by_cases c : I T 2 < 0
    · rw [if_pos c, if_pos c]
    · rw [if_neg c, if_neg c]
  have ej : ∀ N : zM, (if op = 0 then f_X7_noteLook_j62 N 0 (nI (P - 1)) (T + 3) else f_X7_noteLook_j62 N 1 (nI (P - 1)) (T + 3)) = f_X7_noteLook_j62 N op (nI (P - 1)) (T + 3) := by
    intro N
    rw [← hop]
    by_cases c : I T 2 < 0
    · rw [if_pos c, if_pos rfl]
    · rw [if_neg c, if_neg one0]
  rw [el, zb_s, ej]
  unfold f_X7_noteLook_j62
  rw [s3, zb_s]
  refine ⟨_, rfl, fun k h2 h3 => ?_, ?_, fun i j hi hj => ?_⟩
  · rw [ms_n h3, ms_n h3, ms_n h3, ms_n h3, hfr k h2 h3]
  · exact TB_c hTB3 (ms_n (by omega))
  · by_cases c : i + 1 < P
    · rw [ms_sn (by omega), ms_sn (by omega), ms_sn (by omega), ms_sn (by omega)]
      exact hnew i j c hj
    · have hi2 : i = P - 1 := by omega
      subst hi2
      refine Eq.trans ?_ (hlast j).symm
      rcases (show j = 0 ∨ j = 1 ∨ j = 2 ∨ j = 3 by omega) with rfl | rfl | rfl | rfl
      · rw [ms_sn (by omega), ms_sn (by omega), ms_sn (by omega), ms_ss]
        rfl
      · rw [ms_sn (by omega), ms_sn (by omega), ms_ss]
        rfl
      · rw [ms_sn (by omega), ms_ss]
        rfl
      · rw [ms_ss]
        rfl
theorem sp_endLink {I : zM} {T n : Nat} (hT : TB I (T + 1) 8 3 n) (hn : 1 ≤ n) (d : Int32) : f_X7_endLink I T d = some (ms I (T + 1 + 1) ((n - 1) * 3 + 2) d) := by
  have hn8 : n ≤ 8 := hT.2.2.2.1
  obtain ⟨z, rfl⟩ : ∃ z, n = z + 1 := ⟨n - 1, by omega⟩
  unfold f_X7_endLink
  rw [sp_size hT, zb_s, nI_pred]
  have s2 := sp_setCell hT (i := z) (j := 2) (by omega) (by decide) d
  have s2 : f_X4_setCell I (T + 1) (nI z) 2 d = _ := s2
  rw [s2, zb_s]
  rfl
theorem sp_ends {J : zM} {t n : Nat} (ht : t < 10) (hn : 1 ≤ n) (hn8 : n ≤ 8) (h6 : J 1 (180 + t * 90 + 6) = nI n) : f_X9_ends J (nI t) = some (ms (ms J 1 (180 + t * 90 + (8 + 3 * (n - 1) + 2)) (J 1 1082)) 1 (180 + t * 90 + 2) (-1)) := by
  unfold f_X9_ends
  simp (disch := omega) only [sp_t, sp_setT, h6, zlit, zofN, zneg, zle, zlt, zeq, pk_mul, pk_sub, nI_add, nI_clamp, zb_s, zlet_s, if_false, if_true, if_pos, if_neg, zck_1, zin_t]
