set_option maxRecDepth 100000 in
set_option maxHeartbeats 4000000 in
theorem c_X6_feesOn (l : Launch) (G : zGT) (hG : zOK G) (I J : zM) (x1 : Int32) {r : Int32} (hf : f_X6_feesOn I x1 = some r) : Met l yX6_feesOn wsX6_feesOn (zrm 3 63) (va_Pc [.ref (G.2.1 328), .int x1] (zS G I J)) (zQi G r I J) 0 0 (zA G) := by
  refine zMet (cc := cX6_feesOn) (n := 4) (ret := (some .int)) (by decide) rfl (Nat.le_of_ble_eq_true rfl) ?_
  intro p e s m args below meth c H locs ls F hK hP hS hl
  obtain ⟨hx, hb, hr, hml, hts, hown, hlocks⟩ := F
  have hown : s.vm.findClass RX6 = some m.cls := hown
  have hl : lv_has ls 4 [(0, .ref (G.2.1 328)), (1, .int x1)] := hl
  have hi2 : ∀ w ∈ wsX20, w ∈ wsX6_feesOn := fun _ h => List.mem_cons_of_mem _ (List.mem_append_left _ (List.mem_append_right _ h))
  have hi6 : ∀ w ∈ wsX60, w ∈ wsX6_feesOn := fun _ h => List.mem_cons_of_mem _ (List.mem_append_left _ (List.mem_append_left _ (List.mem_append_right _ h)))
  have L4 : ∀ (n : Nat) (y2 : Int32) (y3 : Int32) (H : Heap) (locs : List Loc) (ls : Array Slot), f_X6_feesOn_l4 I x1 n y2 y3 = some r → va_P G.1 vwCl (zW G I J) H → va_S (zA G) s.heap H locs → lv_has ls 4 [(0, .ref (G.2.1 328)), (1, .int x1), (2, .int y2), (3, .int y3)] → W p l e (zrm 3 63) s m args below meth c H locs 0 0 (MQ below (zQi G r I J) args s 0 0 (zA G)) (F0 m 4 ls []) := by
    intro n
    induction n with
    | zero =>
      intro y2 y3 H locs ls hf
      rw [f_X6_feesOn_l4] at hf
      cases hf
    | succ n ih =>
      intro y2 y3 H locs ls hf hP hS hl
      rw [f_X6_feesOn_l4] at hf
      refine lv_iload_n hx hb dX6_feesOn_4 rfl (lv_at hl 3 rfl) ?_
      refine lv_aload_n hx hb dX6_feesOn_5 rfl (lv_at hl 0 rfl) ?_
      refine x_get (j := 0) (v := .ref (G.2.1 1)) hx hb hts hi6 hown hK hP zkL_328 rfl (by decide) (hts (.fieldLink RX6 12 "LeaseOffice$Thought" "office" "LLeaseOffice$Office;") (by decide +kernel)) rfl (by decide) dX6_feesOn_6 ?_
      refine x_get (j := 6) (v := .int (I 1 6)) hx hb hts hi2 hown hK hP zkL_1 rfl (by decide) (hts (.fieldLink RX6 69 "LeaseOffice$Office" "toolCount" "I") (by decide +kernel)) rfl (by decide) dX6_feesOn_9 ?_
      refine lv_icmp_ge (tgt := 36) hx hb dX6_feesOn_12 (by decide) (fun c1 => ?_) (fun c1 => ?_)
      · have hf := zif_t c1 hf
        refine lv_iload_n hx hb dX6_feesOn_36 rfl (lv_at hl 2 rfl) ?_
        obtain rfl := Option.some.inj hf
        exact x_iret hx hb hr hlocks hK hP hS dX6_feesOn_37
      · have hf := zif_f c1 hf
        refine lv_iload_n hx hb dX6_feesOn_15 rfl (lv_at hl 2 rfl) ?_
        refine lv_aload_n hx hb dX6_feesOn_16 rfl (lv_at hl 0 rfl) ?_
        refine x_get (j := 0) (v := .ref (G.2.1 1)) hx hb hts hi6 hown hK hP zkL_328 rfl (by decide) (hts (.fieldLink RX6 12 "LeaseOffice$Thought" "office" "LLeaseOffice$Office;") (by decide +kernel)) rfl (by decide) dX6_feesOn_17 ?_
        refine lv_iload_n hx hb dX6_feesOn_20 rfl (lv_at hl 3 rfl) ?_
        obtain ⟨q2, hq2, hf⟩ := zb_e hf
        refine x_callr (x_runV (As := [.int y3]) (rest := [.int y2]) ⟨hx, hb, hml, hown, hts⟩ (c_X2_toolAt l G hG I J 1 y3 zkL_1 hq2) (cwV 1 hts gX6_feesOn_X2_toolAt rfl rfl rfl (by decide +kernel) ⟨Nat.le_of_ble_eq_true rfl, Nat.le_of_ble_eq_true rfl⟩) hK hP zkL_1 (by decide) rfl rfl hl.1 rfl (Nat.le_of_ble_eq_true rfl) dX6_feesOn_21 ⟨Nat.zero_le _, Nat.zero_le _⟩) hS (fun H locs hP hS => ?_)
        refine lv_iload_n hx hb dX6_feesOn_24 rfl (lv_at hl 1 rfl) ?_
        obtain ⟨q3, hq3, hf⟩ := zb_e hf
        refine x_calli (x_runV (As := [.int x1]) (rest := [.int y2]) ⟨hx, hb, hml, hown, hts⟩ (c_X7_feeOn l G hG I J q2 x1 (kd_X2_toolAt zkL_1 hq2) hq3) (cwV 1 hts gX6_feesOn_X7_feeOn rfl rfl rfl (by decide +kernel) ⟨Nat.le_of_ble_eq_true rfl, Nat.le_of_ble_eq_true rfl⟩) hK hP (kd_X2_toolAt zkL_1 hq2) (by decide) rfl rfl hl.1 rfl (Nat.le_of_ble_eq_true rfl) dX6_feesOn_25 ⟨Nat.zero_le _, Nat.zero_le _⟩) hS (fun H locs hP hS => ?_)
        refine lv_iadd hx hb dX6_feesOn_28 ?_
        obtain ⟨w4, ew4, hf⟩ := zlet_e hf
        refine z_topi ew4 ?_
        refine lv_istore_n (lv' := [(2, .int w4), (0, .ref (G.2.1 328)), (1, .int x1), (3, .int y3)]) hx hb dX6_feesOn_29 rfl hl (by decide) rfl (fun ls hl => ?_)
        refine lv_iinc (v := (y3 + 1)) (lv' := [(3, .int (y3 + 1)), (2, .int w4), (0, .ref (G.2.1 328)), (1, .int x1)]) hx hb dX6_feesOn_30 hl (k := 3) rfl rfl (by decide) rfl (fun ls hl => ?_)
        refine lv_goto (tgt := 4) hx hb dX6_feesOn_33 (by decide) ?_
        exact ih w4 (y3 + 1) H locs ls hf hP hS (lv_sub hl [2, 3, 1, 0] rfl)
  unfold f_X6_feesOn at hf
  refine lv_iconst (v := 0) hx hb dX6_feesOn_0 (by decide) ?_
  refine lv_istore_n (lv' := [(2, .int 0), (0, .ref (G.2.1 328)), (1, .int x1)]) hx hb dX6_feesOn_1 rfl hl (by decide) rfl (fun ls hl => ?_)
  refine lv_iconst (v := 0) hx hb dX6_feesOn_2 (by decide) ?_
  refine lv_istore_n (lv' := [(3, .int 0), (2, .int 0), (0, .ref (G.2.1 328)), (1, .int x1)]) hx hb dX6_feesOn_3 rfl hl (by decide) rfl (fun ls hl => ?_)
  exact L4 zFu 0 0 H locs ls hf hP hS (lv_sub hl [2, 3, 1, 0] rfl)
set_option maxRecDepth 100000 in
set_option maxHeartbeats 4000000 in
theorem c_X6_leasedCount (l : Launch) (G : zGT) (hG : zOK G) (I J : zM) {r : Int32} (hf : f_X6_leasedCount I = some r) : Met l yX6_leasedCount wsX6_leasedCount (zrm 1 21) (va_Pc [.ref (G.2.1 328)] (zS G I J)) (zQi G r I J) 0 0 (zA G) := by
  refine zMet (cc := cX6_leasedCount) (n := 3) (ret := (some .int)) (by decide) rfl (Nat.le_of_ble_eq_true rfl) ?_
  intro p e s m args below meth c H locs ls F hK hP hS hl
  obtain ⟨hx, hb, hr, hml, hts, hown, hlocks⟩ := F
  have hown : s.vm.findClass RX6 = some m.cls := hown
  have hl : lv_has ls 3 [(0, .ref (G.2.1 328))] := hl
  have hi2 : ∀ w ∈ wsX20, w ∈ wsX6_leasedCount := fun _ h => List.mem_cons_of_mem _ (List.mem_append_left _ (List.mem_append_right _ h))
  have hi6 : ∀ w ∈ wsX60, w ∈ wsX6_leasedCount := fun _ h => List.mem_cons_of_mem _ (List.mem_append_left _ (List.mem_append_left _ (List.mem_append_right _ h)))
  have L4 : ∀ (n : Nat) (y1 : Int32) (y2 : Int32) (H : Heap) (locs : List Loc) (ls : Array Slot), f_X6_leasedCount_l4 I n y1 y2 = some r → va_P G.1 vwCl (zW G I J) H → va_S (zA G) s.heap H locs → lv_has ls 3 [(0, .ref (G.2.1 328)), (1, .int y1), (2, .int y2)] → W p l e (zrm 1 21) s m args below meth c H locs 0 0 (MQ below (zQi G r I J) args s 0 0 (zA G)) (F0 m 4 ls []) := by
    intro n
    induction n with
    | zero =>
      intro y1 y2 H locs ls hf
      rw [f_X6_leasedCount_l4] at hf
      cases hf
    | succ n ih =>
      intro y1 y2 H locs ls hf hP hS hl
      rw [f_X6_leasedCount_l4] at hf
      refine lv_iload_n hx hb dX6_leasedCount_4 rfl (lv_at hl 2 rfl) ?_
      refine lv_aload_n hx hb dX6_leasedCount_5 rfl (lv_at hl 0 rfl) ?_
      refine x_get (j := 0) (v := .ref (G.2.1 1)) hx hb hts hi6 hown hK hP zkL_328 rfl (by decide) (hts (.fieldLink RX6 12 "LeaseOffice$Thought" "office" "LLeaseOffice$Office;") (by decide +kernel)) rfl (by decide) dX6_leasedCount_6 ?_
      refine x_get (j := 6) (v := .int (I 1 6)) hx hb hts hi2 hown hK hP zkL_1 rfl (by decide) (hts (.fieldLink RX6 69 "LeaseOffice$Office" "toolCount" "I") (by decide +kernel)) rfl (by decide) dX6_leasedCount_9 ?_
      refine lv_icmp_ge (tgt := 38) hx hb dX6_leasedCount_12 (by decide) (fun c1 => ?_) (fun c1 => ?_)
      · have hf := zif_t c1 hf
        refine lv_iload_n hx hb dX6_leasedCount_38 rfl (lv_at hl 1 rfl) ?_
        obtain rfl := Option.some.inj hf
        exact x_iret hx hb hr hlocks hK hP hS dX6_leasedCount_39
      · have hf := zif_f c1 hf
        refine lv_aload_n hx hb dX6_leasedCount_15 rfl (lv_at hl 0 rfl) ?_
        refine x_get (j := 0) (v := .ref (G.2.1 1)) hx hb hts hi6 hown hK hP zkL_328 rfl (by decide) (hts (.fieldLink RX6 12 "LeaseOffice$Thought" "office" "LLeaseOffice$Office;") (by decide +kernel)) rfl (by decide) dX6_leasedCount_16 ?_
        refine lv_iload_n hx hb dX6_leasedCount_19 rfl (lv_at hl 2 rfl) ?_
        obtain ⟨q2, hq2, hf⟩ := zb_e hf
        refine x_callr (x_runV (As := [.int y2]) (rest := []) ⟨hx, hb, hml, hown, hts⟩ (c_X2_toolAt l G hG I J 1 y2 zkL_1 hq2) (cwV 1 hts gX6_leasedCount_X2_toolAt rfl rfl rfl (by decide +kernel) ⟨Nat.le_of_ble_eq_true rfl, Nat.le_of_ble_eq_true rfl⟩) hK hP zkL_1 (by decide) rfl rfl hl.1 rfl (Nat.le_of_ble_eq_true rfl) dX6_leasedCount_20 ⟨Nat.zero_le _, Nat.zero_le _⟩) hS (fun H locs hP hS => ?_)
        obtain ⟨q3, hq3, hf⟩ := zb_e hf
        refine x_calli (x_runV (As := []) (rest := []) ⟨hx, hb, hml, hown, hts⟩ (c_X7_isLeased l G hG I J q2 (kd_X2_toolAt zkL_1 hq2) hq3) (cwV 0 hts gX6_leasedCount_X7_isLeased rfl rfl rfl (by decide +kernel) ⟨Nat.le_of_ble_eq_true rfl, Nat.le_of_ble_eq_true rfl⟩) hK hP (kd_X2_toolAt zkL_1 hq2) (by decide) rfl rfl hl.1 rfl (Nat.le_of_ble_eq_true rfl) dX6_leasedCount_23 ⟨Nat.zero_le _, Nat.zero_le _⟩) hS (fun H locs hP hS => ?_)
        refine lv_if_eq (tgt := 32) hx hb dX6_leasedCount_26 (by decide) (fun c4 => ?_) (fun c4 => ?_)
        · have hf := zif_t c4 hf
          refine lv_iinc (v := (y2 + 1)) (lv' := [(2, .int (y2 + 1)), (0, .ref (G.2.1 328)), (1, .int y1)]) hx hb dX6_leasedCount_32 hl (k := 2) rfl rfl (by decide) rfl (fun ls hl => ?_)
          refine lv_goto (tgt := 4) hx hb dX6_leasedCount_35 (by decide) ?_
          exact ih y1 (y2 + 1) H locs ls hf hP hS (lv_sub hl [1, 2, 0] rfl)
        · have hf := zif_f c4 hf
          refine lv_iinc (v := (y1 + 1)) (lv' := [(1, .int (y1 + 1)), (0, .ref (G.2.1 328)), (2, .int y2)]) hx hb dX6_leasedCount_29 hl (k := 1) rfl rfl (by decide) rfl (fun ls hl => ?_)
          refine lv_iinc (v := (y2 + 1)) (lv' := [(2, .int (y2 + 1)), (1, .int (y1 + 1)), (0, .ref (G.2.1 328))]) hx hb dX6_leasedCount_32 hl (k := 2) rfl rfl (by decide) rfl (fun ls hl => ?_)
          refine lv_goto (tgt := 4) hx hb dX6_leasedCount_35 (by decide) ?_
          exact ih (y1 + 1) (y2 + 1) H locs ls hf hP hS (lv_sub hl [2, 1, 0] rfl)
  unfold f_X6_leasedCount at hf
  refine lv_iconst (v := 0) hx hb dX6_leasedCount_0 (by decide) ?_
  refine lv_istore_n (lv' := [(1, .int 0), (0, .ref (G.2.1 328))]) hx hb dX6_leasedCount_1 rfl hl (by decide) rfl (fun ls hl => ?_)
  refine lv_iconst (v := 0) hx hb dX6_leasedCount_2 (by decide) ?_
  refine lv_istore_n (lv' := [(2, .int 0), (1, .int 0), (0, .ref (G.2.1 328))]) hx hb dX6_leasedCount_3 rfl hl (by decide) rfl (fun ls hl => ?_)
  exact L4 zFu 0 0 H locs ls hf hP hS (lv_sub hl [2, 1, 0] rfl)
set_option maxRecDepth 100000 in
set_option maxHeartbeats 4000000 in
theorem c_X6_nextOf (l : Launch) (G : zGT) (hG : zOK G) (I J : zM) (x1 : Int32) {r : Int32} (hf : f_X6_nextOf I x1 = some r) : Met l yX6_nextOf wsX6_nextOf (zrm 2 45) (va_Pc [.ref (G.2.1 328), .int x1] (zS G I J)) (zQi G r I J) 0 0 (zA G) := by
  refine zMet (cc := cX6_nextOf) (n := 4) (ret := (some .int)) (by decide) rfl (Nat.le_of_ble_eq_true rfl) ?_
  intro p e s m args below meth c H locs ls F hK hP hS hl
  obtain ⟨hx, hb, hr, hml, hts, hown, hlocks⟩ := F
  have hown : s.vm.findClass RX6 = some m.cls := hown
  have hl : lv_has ls 4 [(0, .ref (G.2.1 328)), (1, .int x1)] := hl
  have hi6 : ∀ w ∈ wsX60, w ∈ wsX6_nextOf := fun _ h => List.mem_cons_of_mem _ (List.mem_append_left _ (List.mem_append_left _ (List.mem_append_left _ (List.mem_append_left _ (List.mem_append_right _ h)))))
  have hi7 : ∀ w ∈ wsX70, w ∈ wsX6_nextOf := fun _ h => List.mem_cons_of_mem _ (List.mem_append_left _ (List.mem_append_left _ (List.mem_append_left _ (List.mem_append_right _ h))))
  unfold f_X6_nextOf at hf
  refine lv_aload_n hx hb dX6_nextOf_0 rfl (lv_at hl 0 rfl) ?_
  refine x_get (j := 0) (v := .ref (G.2.1 1)) hx hb hts hi6 hown hK hP zkL_328 rfl (by decide) (hts (.fieldLink RX6 12 "LeaseOffice$Thought" "office" "LLeaseOffice$Office;") (by decide +kernel)) rfl (by decide) dX6_nextOf_1 ?_
  refine lv_iload_n hx hb dX6_nextOf_4 rfl (lv_at hl 1 rfl) ?_
  obtain ⟨q1, hq1, hf⟩ := zb_e hf
  refine x_callr (x_runV (As := [.int x1]) (rest := []) ⟨hx, hb, hml, hown, hts⟩ (c_X2_toolAt l G hG I J 1 x1 zkL_1 hq1) (cwV 1 hts gX6_nextOf_X2_toolAt rfl rfl rfl (by decide +kernel) ⟨Nat.le_of_ble_eq_true rfl, Nat.le_of_ble_eq_true rfl⟩) hK hP zkL_1 (by decide) rfl rfl hl.1 rfl (Nat.le_of_ble_eq_true rfl) dX6_nextOf_5 ⟨Nat.zero_le _, Nat.zero_le _⟩) hS (fun H locs hP hS => ?_)
  refine lv_astore_n (lv' := [(2, .ref (G.2.1 (q1))), (0, .ref (G.2.1 328)), (1, .int x1)]) hx hb dX6_nextOf_8 rfl hl (by decide) rfl (fun ls hl => ?_)
  refine lv_aload_n hx hb dX6_nextOf_9 rfl (lv_at hl 1 rfl) ?_
  refine x_get (j := 0) (v := .ref (G.2.1 1)) hx hb hts hi6 hown hK hP zkL_328 rfl (by decide) (hts (.fieldLink RX6 12 "LeaseOffice$Thought" "office" "LLeaseOffice$Office;") (by decide +kernel)) rfl (by decide) dX6_nextOf_10 ?_
  refine lv_aload_n hx hb dX6_nextOf_13 rfl (lv_at hl 0 rfl) ?_
  obtain ⟨q2, hq2, hf⟩ := zb_e hf
  refine x_calli (x_runV (As := [.ref (G.2.1 (q1))]) (rest := []) ⟨hx, hb, hml, hown, hts⟩ (c_X2_claimServed l G hG I J 1 q1 zkL_1 (kd_X2_toolAt zkL_1 hq1) hq2) (cwV 1 hts gX6_nextOf_X2_claimServed rfl rfl rfl (by decide +kernel) ⟨Nat.le_of_ble_eq_true rfl, Nat.le_of_ble_eq_true rfl⟩) hK hP zkL_1 (by decide) rfl rfl hl.1 rfl (Nat.le_of_ble_eq_true rfl) dX6_nextOf_14 ⟨Nat.zero_le _, Nat.zero_le _⟩) hS (fun H locs hP hS => ?_)
  refine lv_istore_n (lv' := [(3, .int q2), (2, .ref (G.2.1 (q1))), (0, .ref (G.2.1 328)), (1, .int x1)]) hx hb dX6_nextOf_17 rfl hl (by decide) rfl (fun ls hl => ?_)
  refine lv_iload_n hx hb dX6_nextOf_18 rfl (lv_at hl 0 rfl) ?_
  refine lv_if_ge (tgt := 27) hx hb dX6_nextOf_19 (by decide) (fun c3 => ?_) (fun c3 => ?_)
  · have hf := zif_t c3 hf
    refine lv_aload_n hx hb dX6_nextOf_27 rfl (lv_at hl 1 rfl) ?_
    refine x_get (j := 9) (v := .ref (G.2.1 (q1 + 5))) hx hb hts hi7 hown hK hP (kd_X2_toolAt zkL_1 hq1) rfl (by decide) (hts (.fieldLink RX6 33 "LeaseOffice$Tool" "claims" "LLeaseOffice$Table;") (by decide +kernel)) rfl (by decide) dX6_nextOf_28 ?_
    refine lv_iload_n hx hb dX6_nextOf_31 rfl (lv_at hl 0 rfl) ?_
    refine lv_iconst (v := 0) hx hb dX6_nextOf_32 (by decide) ?_
    obtain ⟨q4, hq4, hf⟩ := zb_e hf
    refine x_calli (x_runV (As := [.int q2, .int 0]) (rest := []) ⟨hx, hb, hml, hown, hts⟩ (c_X4_cell l G hG I J (q1 + 5) q2 0 (zk_7_9 (kd_X2_toolAt zkL_1 hq1)) hq4) (cwV 2 hts gX6_nextOf_X4_cell rfl rfl rfl (by decide +kernel) ⟨Nat.le_of_ble_eq_true rfl, Nat.le_of_ble_eq_true rfl⟩) hK hP (zk_7_9 (kd_X2_toolAt zkL_1 hq1)) (by decide) rfl rfl hl.1 rfl (Nat.le_of_ble_eq_true rfl) dX6_nextOf_33 ⟨Nat.zero_le _, Nat.zero_le _⟩) hS (fun H locs hP hS => ?_)
    obtain rfl := Option.some.inj hf
    exact x_iret hx hb hr hlocks hK hP hS dX6_nextOf_36
  · have hf := zif_f c3 hf
    refine lv_bipush (v := (-2)) hx hb dX6_nextOf_22 (by decide) ?_
    refine lv_goto (tgt := 36) hx hb dX6_nextOf_24 (by decide) ?_
    obtain rfl := Option.some.inj hf
    exact x_iret hx hb hr hlocks hK hP hS dX6_nextOf_36
set_option maxRecDepth 100000 in
set_option maxHeartbeats 4000000 in
theorem c_X6_wishesMore (l : Launch) (G : zGT) (hG : zOK G) (I J : zM) (x1 : Int32) (x2 : Int32) {r : Int32} (hf : f_X6_wishesMore I x1 x2 = some r) : Met l yX6_wishesMore wsX6_wishesMore (zrm 2 44) (va_Pc [.ref (G.2.1 328), .int x1, .int x2] (zS G I J)) (zQi G r I J) 0 0 (zA G) := by
  refine zMet (cc := cX6_wishesMore) (n := 3) (ret := (some .boolean)) (by decide) rfl (Nat.le_of_ble_eq_true rfl) ?_
  intro p e s m args below meth c H locs ls F hK hP hS hl
  obtain ⟨hx, hb, hr, hml, hts, hown, hlocks⟩ := F
  have hown : s.vm.findClass RX6 = some m.cls := hown
  have hl : lv_has ls 3 [(0, .ref (G.2.1 328)), (1, .int x1), (2, .int x2)] := hl
  have hi6 : ∀ w ∈ wsX60, w ∈ wsX6_wishesMore := fun _ h => List.mem_cons_of_mem _ (List.mem_append_left _ (List.mem_append_left _ (List.mem_append_left _ (List.mem_append_right _ h))))
  unfold f_X6_wishesMore at hf
  refine lv_aload_n hx hb dX6_wishesMore_0 rfl (lv_at hl 0 rfl) ?_
  refine x_get (j := 0) (v := .ref (G.2.1 1)) hx hb hts hi6 hown hK hP zkL_328 rfl (by decide) (hts (.fieldLink RX6 12 "LeaseOffice$Thought" "office" "LLeaseOffice$Office;") (by decide +kernel)) rfl (by decide) dX6_wishesMore_1 ?_
  refine lv_iload_n hx hb dX6_wishesMore_4 rfl (lv_at hl 1 rfl) ?_
  refine lv_iload_n hx hb dX6_wishesMore_5 rfl (lv_at hl 2 rfl) ?_
  obtain ⟨q1, hq1, hf⟩ := zb_e hf
  refine x_calli (x_runV (As := [.int x1, .int x2]) (rest := []) ⟨hx, hb, hml, hown, hts⟩ (c_X2_haveTwoHolders l G hG I J 1 x1 x2 zkL_1 hq1) (cwV 2 hts gX6_wishesMore_X2_haveTwoHolders rfl rfl rfl (by decide +kernel) ⟨Nat.le_of_ble_eq_true rfl, Nat.le_of_ble_eq_true rfl⟩) hK hP zkL_1 (by decide) rfl rfl hl.1 rfl (Nat.le_of_ble_eq_true rfl) dX6_wishesMore_6 ⟨Nat.zero_le _, Nat.zero_le _⟩) hS (fun H locs hP hS => ?_)
  refine lv_if_eq (tgt := 28) hx hb dX6_wishesMore_9 (by decide) (fun c2 => ?_) (fun c2 => ?_)
  · have hf := zif_t c2 hf
    refine lv_iconst (v := 0) hx hb dX6_wishesMore_28 (by decide) ?_
    obtain rfl := Option.some.inj hf
    exact x_zret (v := 0) rfl hx hb hr hlocks hK hP hS dX6_wishesMore_29
  · have hf := zif_f c2 hf
    refine lv_aload_n hx hb dX6_wishesMore_12 rfl (lv_at hl 0 rfl) ?_
    refine x_get (j := 0) (v := .ref (G.2.1 1)) hx hb hts hi6 hown hK hP zkL_328 rfl (by decide) (hts (.fieldLink RX6 12 "LeaseOffice$Thought" "office" "LLeaseOffice$Office;") (by decide +kernel)) rfl (by decide) dX6_wishesMore_13 ?_
    refine lv_iload_n hx hb dX6_wishesMore_16 rfl (lv_at hl 1 rfl) ?_
    refine lv_iload_n hx hb dX6_wishesMore_17 rfl (lv_at hl 2 rfl) ?_
    obtain ⟨q3, hq3, hf⟩ := zb_e hf
    refine x_calli (x_runV (As := [.int x1, .int x2]) (rest := []) ⟨hx, hb, hml, hown, hts⟩ (c_X2_riseOf l G hG I J 1 x1 x2 zkL_1 hq3) (cwV 2 hts gX6_wishesMore_X2_riseOf rfl rfl rfl (by decide +kernel) ⟨Nat.le_of_ble_eq_true rfl, Nat.le_of_ble_eq_true rfl⟩) hK hP zkL_1 (by decide) rfl rfl hl.1 rfl (Nat.le_of_ble_eq_true rfl) dX6_wishesMore_18 ⟨Nat.zero_le _, Nat.zero_le _⟩) hS (fun H locs hP hS => ?_)
    refine lv_if_le (tgt := 28) hx hb dX6_wishesMore_21 (by decide) (fun c4 => ?_) (fun c4 => ?_)
    · have hf := zif_t c4 hf
      refine lv_iconst (v := 0) hx hb dX6_wishesMore_28 (by decide) ?_
      obtain rfl := Option.some.inj hf
      exact x_zret (v := 0) rfl hx hb hr hlocks hK hP hS dX6_wishesMore_29
    · have hf := zif_f c4 hf
      refine lv_iconst (v := 1) hx hb dX6_wishesMore_24 (by decide) ?_
      refine lv_goto (tgt := 29) hx hb dX6_wishesMore_25 (by decide) ?_
      obtain rfl := Option.some.inj hf
      exact x_zret (v := 1) rfl hx hb hr hlocks hK hP hS dX6_wishesMore_29
set_option maxRecDepth 100000 in
set_option maxHeartbeats 4000000 in
theorem c_X6_ringsOver (l : Launch) (G : zGT) (hG : zOK G) (I J : zM) (x1 : Int32) (x2 : Int32) {r : Int32} (hf : f_X6_ringsOver I x1 x2 = some r) : Met l yX6_ringsOver wsX6_ringsOver (zrm 3 66) (va_Pc [.ref (G.2.1 328), .int x1, .int x2] (zS G I J)) (zQi G r I J) 0 0 (zA G) := by
  refine zMet (cc := cX6_ringsOver) (n := 5) (ret := (some .int)) (by decide) rfl (Nat.le_of_ble_eq_true rfl) ?_
  intro p e s m args below meth c H locs ls F hK hP hS hl
  obtain ⟨hx, hb, hr, hml, hts, hown, hlocks⟩ := F
  have hown : s.vm.findClass RX6 = some m.cls := hown
  have hl : lv_has ls 5 [(0, .ref (G.2.1 328)), (1, .int x1), (2, .int x2)] := hl
  have hi2 : ∀ w ∈ wsX20, w ∈ wsX6_ringsOver := fun _ h => List.mem_cons_of_mem _ (List.mem_append_left _ (List.mem_append_left _ (List.mem_append_right _ h)))
  have hi6 : ∀ w ∈ wsX60, w ∈ wsX6_ringsOver := fun _ h => List.mem_cons_of_mem _ (List.mem_append_left _ (List.mem_append_left _ (List.mem_append_left _ (List.mem_append_right _ h))))
  have L7 : ∀ (n : Nat) (y3 : Int32) (y4 : Int32) (H : Heap) (locs : List Loc) (ls : Array Slot), f_X6_ringsOver_l7 I x1 x2 n y3 y4 = some r → va_P G.1 vwCl (zW G I J) H → va_S (zA G) s.heap H locs → lv_has ls 5 [(0, .ref (G.2.1 328)), (1, .int x1), (2, .int x2), (3, .int y3), (4, .int y4)] → W p l e (zrm 3 66) s m args below meth c H locs 0 0 (MQ below (zQi G r I J) args s 0 0 (zA G)) (F0 m 7 ls []) := by
    intro n
    induction n with
    | zero =>
      intro y3 y4 H locs ls hf
      rw [f_X6_ringsOver_l7] at hf
      cases hf
    | succ n ih =>
      intro y3 y4 H locs ls hf hP hS hl
      rw [f_X6_ringsOver_l7] at hf
      refine lv_iload hx hb dX6_ringsOver_7 (lv_at hl 4 rfl) ?_
      refine lv_aload_n hx hb dX6_ringsOver_9 rfl (lv_at hl 0 rfl) ?_
      refine x_get (j := 0) (v := .ref (G.2.1 1)) hx hb hts hi6 hown hK hP zkL_328 rfl (by decide) (hts (.fieldLink RX6 12 "LeaseOffice$Thought" "office" "LLeaseOffice$Office;") (by decide +kernel)) rfl (by decide) dX6_ringsOver_10 ?_
      refine x_get (j := 6) (v := .int (I 1 6)) hx hb hts hi2 hown hK hP zkL_1 rfl (by decide) (hts (.fieldLink RX6 69 "LeaseOffice$Office" "toolCount" "I") (by decide +kernel)) rfl (by decide) dX6_ringsOver_13 ?_
      refine lv_icmp_ge (tgt := 48) hx hb dX6_ringsOver_16 (by decide) (fun c2 => ?_) (fun c2 => ?_)
      · have hf := zif_t c2 hf
        refine lv_iload_n hx hb dX6_ringsOver_48 rfl (lv_at hl 3 rfl) ?_
        obtain rfl := Option.some.inj hf
        exact x_iret hx hb hr hlocks hK hP hS dX6_ringsOver_49
      · have hf := zif_f c2 hf
        refine lv_aload_n hx hb dX6_ringsOver_19 rfl (lv_at hl 0 rfl) ?_
        refine lv_iload_n hx hb dX6_ringsOver_20 rfl (lv_at hl 2 rfl) ?_
        refine lv_iload hx hb dX6_ringsOver_21 (lv_at hl 4 rfl) ?_
        obtain ⟨q3, hq3, hf⟩ := zb_e hf
        refine x_calli (x_runV (As := [.int x2, .int y4]) (rest := []) ⟨hx, hb, hml, hown, hts⟩ (c_X6_wishesMore l G hG I J x2 y4 hq3) (cwV 2 hts gX6_ringsOver_X6_wishesMore rfl rfl rfl (by decide +kernel) ⟨Nat.le_of_ble_eq_true rfl, Nat.le_of_ble_eq_true rfl⟩) hK hP zkL_328 (by decide) rfl rfl hl.1 rfl (Nat.le_of_ble_eq_true rfl) dX6_ringsOver_23 ⟨Nat.zero_le _, Nat.zero_le _⟩) hS (fun H locs hP hS => ?_)
        refine lv_if_eq (tgt := 42) hx hb dX6_ringsOver_26 (by decide) (fun c4 => ?_) (fun c4 => ?_)
        · have hf := zif_t c4 hf
          refine lv_iinc (v := (y4 + 1)) (lv' := [(4, .int (y4 + 1)), (0, .ref (G.2.1 328)), (1, .int x1), (2, .int x2), (3, .int y3)]) hx hb dX6_ringsOver_42 hl (k := 4) rfl rfl (by decide) rfl (fun ls hl => ?_)
          refine lv_goto (tgt := 7) hx hb dX6_ringsOver_45 (by decide) ?_
          exact ih y3 (y4 + 1) H locs ls hf hP hS (lv_sub hl [1, 2, 3, 4, 0] rfl)
        · have hf := zif_f c4 hf
          refine lv_aload_n hx hb dX6_ringsOver_29 rfl (lv_at hl 0 rfl) ?_
          refine lv_iload hx hb dX6_ringsOver_30 (lv_at hl 4 rfl) ?_
          refine lv_iload_n hx hb dX6_ringsOver_32 rfl (lv_at hl 1 rfl) ?_
          obtain ⟨q5, hq5, hf⟩ := zb_e hf
          refine x_calli (x_runV (As := [.int y4, .int x1]) (rest := []) ⟨hx, hb, hml, hown, hts⟩ (c_X6_wishesMore l G hG I J y4 x1 hq5) (cwV 2 hts gX6_ringsOver_X6_wishesMore rfl rfl rfl (by decide +kernel) ⟨Nat.le_of_ble_eq_true rfl, Nat.le_of_ble_eq_true rfl⟩) hK hP zkL_328 (by decide) rfl rfl hl.1 rfl (Nat.le_of_ble_eq_true rfl) dX6_ringsOver_33 ⟨Nat.zero_le _, Nat.zero_le _⟩) hS (fun H locs hP hS => ?_)
          refine lv_if_eq (tgt := 42) hx hb dX6_ringsOver_36 (by decide) (fun c6 => ?_) (fun c6 => ?_)
          · have hf := zif_t c6 hf
            refine lv_iinc (v := (y4 + 1)) (lv' := [(4, .int (y4 + 1)), (0, .ref (G.2.1 328)), (1, .int x1), (2, .int x2), (3, .int y3)]) hx hb dX6_ringsOver_42 hl (k := 4) rfl rfl (by decide) rfl (fun ls hl => ?_)
            refine lv_goto (tgt := 7) hx hb dX6_ringsOver_45 (by decide) ?_
            exact ih y3 (y4 + 1) H locs ls hf hP hS (lv_sub hl [1, 2, 3, 4, 0] rfl)
          · have hf := zif_f c6 hf
            refine lv_iinc (v := (y3 + 1)) (lv' := [(3, .int (y3 + 1)), (0, .ref (G.2.1 328)), (1, .int x1), (2, .int x2), (4, .int y4)]) hx hb dX6_ringsOver_39 hl (k := 3) rfl rfl (by decide) rfl (fun ls hl => ?_)
            refine lv_iinc (v := (y4 + 1)) (lv' := [(4, .int (y4 + 1)), (3, .int (y3 + 1)), (0, .ref (G.2.1 328)), (1, .int x1), (2, .int x2)]) hx hb dX6_ringsOver_42 hl (k := 4) rfl rfl (by decide) rfl (fun ls hl => ?_)
            refine lv_goto (tgt := 7) hx hb dX6_ringsOver_45 (by decide) ?_
            exact ih (y3 + 1) (y4 + 1) H locs ls hf hP hS (lv_sub hl [2, 3, 4, 1, 0] rfl)
  unfold f_X6_ringsOver at hf
  refine lv_iconst (v := 0) hx hb dX6_ringsOver_0 (by decide) ?_
  refine lv_istore_n (lv' := [(3, .int 0), (0, .ref (G.2.1 328)), (1, .int x1), (2, .int x2)]) hx hb dX6_ringsOver_1 rfl hl (by decide) rfl (fun ls hl => ?_)
  refine lv_iload_n hx hb dX6_ringsOver_2 rfl (lv_at hl 2 rfl) ?_
  refine lv_iconst (v := 1) hx hb dX6_ringsOver_3 (by decide) ?_
  refine lv_iadd hx hb dX6_ringsOver_4 ?_
  obtain ⟨w1, ew1, hf⟩ := zlet_e hf
  refine z_topi ew1 ?_
  refine lv_istore (lv' := [(4, .int w1), (3, .int 0), (0, .ref (G.2.1 328)), (1, .int x1), (2, .int x2)]) hx hb dX6_ringsOver_5 hl (by decide) rfl (fun ls hl => ?_)
  exact L7 zFu 0 w1 H locs ls hf hP hS (lv_sub hl [2, 3, 4, 1, 0] rfl)
set_option maxRecDepth 100000 in
set_option maxHeartbeats 4000000 in
theorem c_X6_ringsNow (l : Launch) (G : zGT) (hG : zOK G) (I J : zM) {r : Int32} (hf : f_X6_ringsNow I = some r) : Met l yX6_ringsNow wsX6_ringsNow (zrm 4 90) (va_Pc [.ref (G.2.1 328)] (zS G I J)) (zQi G r I J) 0 0 (zA G) := by
  refine zMet (cc := cX6_ringsNow) (n := 4) (ret := (some .int)) (by decide) rfl (Nat.le_of_ble_eq_true rfl) ?_
  intro p e s m args below meth c H locs ls F hK hP hS hl
  obtain ⟨hx, hb, hr, hml, hts, hown, hlocks⟩ := F
  have hown : s.vm.findClass RX6 = some m.cls := hown
  have hl : lv_has ls 4 [(0, .ref (G.2.1 328))] := hl
  have hi2 : ∀ w ∈ wsX20, w ∈ wsX6_ringsNow := fun _ h => List.mem_cons_of_mem _ (List.mem_append_left _ (List.mem_append_left _ (List.mem_append_right _ h)))
  have hi6 : ∀ w ∈ wsX60, w ∈ wsX6_ringsNow := fun _ h => List.mem_cons_of_mem _ (List.mem_append_left _ (List.mem_append_left _ (List.mem_append_left _ (List.mem_append_right _ h))))
  have L19 : ∀ (y2 : Int32) (K : Int32 → Option (Int32)) (hKK : ∀ (z1 : Int32) (H : Heap) (locs : List Loc) (ls : Array Slot), K z1 = some r → va_P G.1 vwCl (zW G I J) H → va_S (zA G) s.heap H locs → lv_has ls 4 [(0, .ref (G.2.1 328)), (1, .int z1), (2, .int y2)] → W p l e (zrm 4 90) s m args below meth c H locs 0 0 (MQ below (zQi G r I J) args s 0 0 (zA G)) (F0 m 54 ls [])) (n : Nat) (y1 : Int32) (y3 : Int32) (H : Heap) (locs : List Loc) (ls : Array Slot), f_X6_ringsNow_l19 I y2 K n y1 y3 = some r → va_P G.1 vwCl (zW G I J) H → va_S (zA G) s.heap H locs → lv_has ls 4 [(0, .ref (G.2.1 328)), (1, .int y1), (2, .int y2), (3, .int y3)] → W p l e (zrm 4 90) s m args below meth c H locs 0 0 (MQ below (zQi G r I J) args s 0 0 (zA G)) (F0 m 19 ls []) := by
    intro y2 K hKK n
    induction n with
    | zero =>
      intro y1 y3 H locs ls hf
      rw [f_X6_ringsNow_l19] at hf
      cases hf
    | succ n ih =>
      intro y1 y3 H locs ls hf hP hS hl
      rw [f_X6_ringsNow_l19] at hf
      refine lv_iload_n hx hb dX6_ringsNow_19 rfl (lv_at hl 3 rfl) ?_
      refine lv_aload_n hx hb dX6_ringsNow_20 rfl (lv_at hl 0 rfl) ?_
      refine x_get (j := 0) (v := .ref (G.2.1 1)) hx hb hts hi6 hown hK hP zkL_328 rfl (by decide) (hts (.fieldLink RX6 12 "LeaseOffice$Thought" "office" "LLeaseOffice$Office;") (by decide +kernel)) rfl (by decide) dX6_ringsNow_21 ?_
      refine x_get (j := 6) (v := .int (I 1 6)) hx hb hts hi2 hown hK hP zkL_1 rfl (by decide) (hts (.fieldLink RX6 69 "LeaseOffice$Office" "toolCount" "I") (by decide +kernel)) rfl (by decide) dX6_ringsNow_24 ?_
      refine lv_icmp_ge (tgt := 54) hx hb dX6_ringsNow_27 (by decide) (fun c3 => ?_) (fun c3 => ?_)
      · have hf := zif_t c3 hf
        exact hKK y1 H locs ls hf hP hS (lv_sub hl [0, 1, 2] rfl)
      · have hf := zif_f c3 hf
        refine lv_aload_n hx hb dX6_ringsNow_30 rfl (lv_at hl 0 rfl) ?_
        refine lv_iload_n hx hb dX6_ringsNow_31 rfl (lv_at hl 2 rfl) ?_
        refine lv_iload_n hx hb dX6_ringsNow_32 rfl (lv_at hl 3 rfl) ?_
        obtain ⟨q4, hq4, hf⟩ := zb_e hf
        refine x_calli (x_runV (As := [.int y2, .int y3]) (rest := []) ⟨hx, hb, hml, hown, hts⟩ (c_X6_wishesMore l G hG I J y2 y3 hq4) (cwV 2 hts gX6_ringsNow_X6_wishesMore rfl rfl rfl (by decide +kernel) ⟨Nat.le_of_ble_eq_true rfl, Nat.le_of_ble_eq_true rfl⟩) hK hP zkL_328 (by decide) rfl rfl hl.1 rfl (Nat.le_of_ble_eq_true rfl) dX6_ringsNow_33 ⟨Nat.zero_le _, Nat.zero_le _⟩) hS (fun H locs hP hS => ?_)
        refine lv_if_eq (tgt := 48) hx hb dX6_ringsNow_36 (by decide) (fun c5 => ?_) (fun c5 => ?_)
        · have hf := zif_t c5 hf
          refine lv_iinc (v := (y3 + 1)) (lv' := [(3, .int (y3 + 1)), (0, .ref (G.2.1 328)), (1, .int y1), (2, .int y2)]) hx hb dX6_ringsNow_48 hl (k := 3) rfl rfl (by decide) rfl (fun ls hl => ?_)
          refine lv_goto (tgt := 19) hx hb dX6_ringsNow_51 (by decide) ?_
          exact ih y1 (y3 + 1) H locs ls hf hP hS (lv_sub hl [1, 2, 3, 0] rfl)
        · have hf := zif_f c5 hf
          refine lv_iload_n hx hb dX6_ringsNow_39 rfl (lv_at hl 1 rfl) ?_
          refine lv_aload_n hx hb dX6_ringsNow_40 rfl (lv_at hl 0 rfl) ?_
          refine lv_iload_n hx hb dX6_ringsNow_41 rfl (lv_at hl 2 rfl) ?_
          refine lv_iload_n hx hb dX6_ringsNow_42 rfl (lv_at hl 3 rfl) ?_
          obtain ⟨q6, hq6, hf⟩ := zb_e hf
          refine x_calli (x_runV (As := [.int y2, .int y3]) (rest := [.int y1]) ⟨hx, hb, hml, hown, hts⟩ (c_X6_ringsOver l G hG I J y2 y3 hq6) (cwV 2 hts gX6_ringsNow_X6_ringsOver rfl rfl rfl (by decide +kernel) ⟨Nat.le_of_ble_eq_true rfl, Nat.le_of_ble_eq_true rfl⟩) hK hP zkL_328 (by decide) rfl rfl hl.1 rfl (Nat.le_of_ble_eq_true rfl) dX6_ringsNow_43 ⟨Nat.zero_le _, Nat.zero_le _⟩) hS (fun H locs hP hS => ?_)
          refine lv_iadd hx hb dX6_ringsNow_46 ?_
          obtain ⟨w7, ew7, hf⟩ := zlet_e hf
          refine z_topi ew7 ?_
          refine lv_istore_n (lv' := [(1, .int w7), (0, .ref (G.2.1 328)), (2, .int y2), (3, .int y3)]) hx hb dX6_ringsNow_47 rfl hl (by decide) rfl (fun ls hl => ?_)
          refine lv_iinc (v := (y3 + 1)) (lv' := [(3, .int (y3 + 1)), (1, .int w7), (0, .ref (G.2.1 328)), (2, .int y2)]) hx hb dX6_ringsNow_48 hl (k := 3) rfl rfl (by decide) rfl (fun ls hl => ?_)
          refine lv_goto (tgt := 19) hx hb dX6_ringsNow_51 (by decide) ?_
          exact ih w7 (y3 + 1) H locs ls hf hP hS (lv_sub hl [2, 1, 3, 0] rfl)
  have L4 : ∀ (n : Nat) (y1 : Int32) (y2 : Int32) (H : Heap) (locs : List Loc) (ls : Array Slot), f_X6_ringsNow_l4 I n y1 y2 = some r → va_P G.1 vwCl (zW G I J) H → va_S (zA G) s.heap H locs → lv_has ls 4 [(0, .ref (G.2.1 328)), (1, .int y1), (2, .int y2)] → W p l e (zrm 4 90) s m args below meth c H locs 0 0 (MQ below (zQi G r I J) args s 0 0 (zA G)) (F0 m 4 ls []) := by
    intro n
    induction n with
    | zero =>
      intro y1 y2 H locs ls hf
      rw [f_X6_ringsNow_l4] at hf
      cases hf
    | succ n ih =>
      intro y1 y2 H locs ls hf hP hS hl
      rw [f_X6_ringsNow_l4] at hf
      refine lv_iload_n hx hb dX6_ringsNow_4 rfl (lv_at hl 2 rfl) ?_
      refine lv_aload_n hx hb dX6_ringsNow_5 rfl (lv_at hl 0 rfl) ?_
      refine x_get (j := 0) (v := .ref (G.2.1 1)) hx hb hts hi6 hown hK hP zkL_328 rfl (by decide) (hts (.fieldLink RX6 12 "LeaseOffice$Thought" "office" "LLeaseOffice$Office;") (by decide +kernel)) rfl (by decide) dX6_ringsNow_6 ?_
      refine x_get (j := 6) (v := .int (I 1 6)) hx hb hts hi2 hown hK hP zkL_1 rfl (by decide) (hts (.fieldLink RX6 69 "LeaseOffice$Office" "toolCount" "I") (by decide +kernel)) rfl (by decide) dX6_ringsNow_9 ?_
      refine lv_icmp_ge (tgt := 60) hx hb dX6_ringsNow_12 (by decide) (fun c1 => ?_) (fun c1 => ?_)
      · have hf := zif_t c1 hf
        refine lv_iload_n hx hb dX6_ringsNow_60 rfl (lv_at hl 1 rfl) ?_
        obtain rfl := Option.some.inj hf
        exact x_iret hx hb hr hlocks hK hP hS dX6_ringsNow_61
      · have hf := zif_f c1 hf
        refine lv_iload_n hx hb dX6_ringsNow_15 rfl (lv_at hl 2 rfl) ?_
        refine lv_iconst (v := 1) hx hb dX6_ringsNow_16 (by decide) ?_
        refine lv_iadd hx hb dX6_ringsNow_17 ?_
        obtain ⟨w2, ew2, hf⟩ := zlet_e hf
        refine z_topi ew2 ?_
        refine lv_istore_n (lv' := [(3, .int w2), (0, .ref (G.2.1 328)), (1, .int y1), (2, .int y2)]) hx hb dX6_ringsNow_18 rfl hl (by decide) rfl (fun ls hl => ?_)
        refine L19 y2 _ (fun z8 H locs ls hf hP hS hl => ?_) zFu y1 w2 H locs ls hf hP hS (lv_sub hl [1, 2, 3, 0] rfl)
        refine lv_iinc (v := (y2 + 1)) (lv' := [(2, .int (y2 + 1)), (0, .ref (G.2.1 328)), (1, .int z8)]) hx hb dX6_ringsNow_54 hl (k := 2) rfl rfl (by decide) rfl (fun ls hl => ?_)
        refine lv_goto (tgt := 4) hx hb dX6_ringsNow_57 (by decide) ?_
        exact ih z8 (y2 + 1) H locs ls hf hP hS (lv_sub hl [1, 2, 0] rfl)
  unfold f_X6_ringsNow at hf
  refine lv_iconst (v := 0) hx hb dX6_ringsNow_0 (by decide) ?_
  refine lv_istore_n (lv' := [(1, .int 0), (0, .ref (G.2.1 328))]) hx hb dX6_ringsNow_1 rfl hl (by decide) rfl (fun ls hl => ?_)
  refine lv_iconst (v := 0) hx hb dX6_ringsNow_2 (by decide) ?_
  refine lv_istore_n (lv' := [(2, .int 0), (1, .int 0), (0, .ref (G.2.1 328))]) hx hb dX6_ringsNow_3 rfl hl (by decide) rfl (fun ls hl => ?_)
  exact L4 zFu 0 0 H locs ls hf hP hS (lv_sub hl [2, 1, 0] rfl)
set_option maxRecDepth 100000 in
set_option maxHeartbeats 4000000 in
theorem c_X6_suspectsOf (l : Launch) (G : zGT) (hG : zOK G) (I J : zM) (x1 : Int32) {r : Int32 × zM} (hf : f_X6_suspectsOf I x1 = some r) : Met l yX6_suspectsOf wsX6_suspectsOf (zrm 3 70) (va_Pc [.ref (G.2.1 328), .int x1] (zS G I J)) (zQi G r.1 r.2 J) 0 0 (zA G) := by
  refine zMet (cc := cX6_suspectsOf) (n := 2) (ret := (some .int)) (by decide) rfl (Nat.le_of_ble_eq_true rfl) ?_
  intro p e s m args below meth c H locs ls F hK hP hS hl
  obtain ⟨hx, hb, hr, hml, hts, hown, hlocks⟩ := F
  have hown : s.vm.findClass RX6 = some m.cls := hown
  have hl : lv_has ls 2 [(0, .ref (G.2.1 328)), (1, .int x1)] := hl
  have hi6 : ∀ w ∈ wsX60, w ∈ wsX6_suspectsOf := fun _ h => List.mem_cons_of_mem _ (List.mem_append_left _ (List.mem_append_left _ (List.mem_append_left _ (List.mem_append_left _ (List.mem_append_right _ h)))))
  unfold f_X6_suspectsOf at hf
  refine lv_aload_n hx hb dX6_suspectsOf_0 rfl (lv_at hl 0 rfl) ?_
  refine x_get (j := 1) (v := .ref (G.2.1 329)) hx hb hts hi6 hown hK hP zkL_328 rfl (by decide) (hts (.fieldLink RX6 21 "LeaseOffice$Thought" "blame" "LLeaseOffice$Blame;") (by decide +kernel)) rfl (by decide) dX6_suspectsOf_1 ?_
  refine lv_aload_n hx hb dX6_suspectsOf_4 rfl (lv_at hl 0 rfl) ?_
  refine x_get (j := 0) (v := .ref (G.2.1 1)) hx hb hts hi6 hown hK hP zkL_328 rfl (by decide) (hts (.fieldLink RX6 12 "LeaseOffice$Thought" "office" "LLeaseOffice$Office;") (by decide +kernel)) rfl (by decide) dX6_suspectsOf_5 ?_
  refine lv_iload_n hx hb dX6_suspectsOf_8 rfl (lv_at hl 1 rfl) ?_
  obtain ⟨q1, hq1, hf⟩ := zb_e hf
  refine x_callr (x_runV (As := [.int x1]) (rest := [.ref (G.2.1 329)]) ⟨hx, hb, hml, hown, hts⟩ (c_X2_toolAt l G hG I J 1 x1 zkL_1 hq1) (cwV 1 hts gX6_suspectsOf_X2_toolAt rfl rfl rfl (by decide +kernel) ⟨Nat.le_of_ble_eq_true rfl, Nat.le_of_ble_eq_true rfl⟩) hK hP zkL_1 (by decide) rfl rfl hl.1 rfl (Nat.le_of_ble_eq_true rfl) dX6_suspectsOf_9 ⟨Nat.zero_le _, Nat.zero_le _⟩) hS (fun H locs hP hS => ?_)
  obtain ⟨q2, hq2, hf⟩ := zb_e hf
  refine x_callv (x_runV (As := [.ref (G.2.1 (q1))]) (rest := []) ⟨hx, hb, hml, hown, hts⟩ (c_X0_findFor l G hG I J 329 q1 zkL_329 (kd_X2_toolAt zkL_1 hq1) hq2) (cwV 1 hts gX6_suspectsOf_X0_findFor rfl rfl rfl (by decide +kernel) ⟨Nat.le_of_ble_eq_true rfl, Nat.le_of_ble_eq_true rfl⟩) hK hP zkL_329 (by decide) rfl rfl hl.1 rfl (Nat.le_of_ble_eq_true rfl) dX6_suspectsOf_12 ⟨Nat.zero_le _, Nat.zero_le _⟩) hS (fun H locs hP hS => ?_)
  refine lv_aload_n hx hb dX6_suspectsOf_15 rfl (lv_at hl 0 rfl) ?_
  refine x_get (j := 1) (v := .ref (G.2.1 329)) hx hb hts hi6 hown hK hP zkL_328 rfl (by decide) (hts (.fieldLink RX6 21 "LeaseOffice$Thought" "blame" "LLeaseOffice$Blame;") (by decide +kernel)) rfl (by decide) dX6_suspectsOf_16 ?_
  obtain ⟨q3, hq3, hf⟩ := zb_e hf
  refine x_calli (x_runV (As := []) (rest := []) ⟨hx, hb, hml, hown, hts⟩ (c_X0_bits l G hG q2 J 329 zkL_329 hq3) (cwV 0 hts gX6_suspectsOf_X0_bits rfl rfl rfl (by decide +kernel) ⟨Nat.le_of_ble_eq_true rfl, Nat.le_of_ble_eq_true rfl⟩) hK hP zkL_329 (by decide) rfl rfl hl.1 rfl (Nat.le_of_ble_eq_true rfl) dX6_suspectsOf_19 ⟨Nat.zero_le _, Nat.zero_le _⟩) hS (fun H locs hP hS => ?_)
  obtain rfl := Option.some.inj hf
  exact x_iret hx hb hr hlocks hK hP hS dX6_suspectsOf_22
set_option maxRecDepth 100000 in
set_option maxHeartbeats 4000000 in
theorem c_X6_swapsNow (l : Launch) (G : zGT) (hG : zOK G) (I J : zM) {r : Int32} (hf : f_X6_swapsNow I = some r) : Met l yX6_swapsNow wsX6_swapsNow (zrm 4 90) (va_Pc [.ref (G.2.1 328)] (zS G I J)) (zQi G r I J) 0 0 (zA G) := by
  refine zMet (cc := cX6_swapsNow) (n := 4) (ret := (some .int)) (by decide) rfl (Nat.le_of_ble_eq_true rfl) ?_
  intro p e s m args below meth c H locs ls F hK hP hS hl
  obtain ⟨hx, hb, hr, hml, hts, hown, hlocks⟩ := F
  have hown : s.vm.findClass RX6 = some m.cls := hown
  have hl : lv_has ls 4 [(0, .ref (G.2.1 328))] := hl
  have hi2 : ∀ w ∈ wsX20, w ∈ wsX6_swapsNow := fun _ h => List.mem_cons_of_mem _ (List.mem_append_left _ (List.mem_append_left _ (List.mem_append_right _ h)))
  have hi6 : ∀ w ∈ wsX60, w ∈ wsX6_swapsNow := fun _ h => List.mem_cons_of_mem _ (List.mem_append_left _ (List.mem_append_left _ (List.mem_append_left _ (List.mem_append_right _ h))))
  have L19 : ∀ (y2 : Int32) (K : Int32 → Option (Int32)) (hKK : ∀ (z1 : Int32) (H : Heap) (locs : List Loc) (ls : Array Slot), K z1 = some r → va_P G.1 vwCl (zW G I J) H → va_S (zA G) s.heap H locs → lv_has ls 4 [(0, .ref (G.2.1 328)), (1, .int z1), (2, .int y2)] → W p l e (zrm 4 90) s m args below meth c H locs 0 0 (MQ below (zQi G r I J) args s 0 0 (zA G)) (F0 m 48 ls [])) (n : Nat) (y1 : Int32) (y3 : Int32) (H : Heap) (locs : List Loc) (ls : Array Slot), f_X6_swapsNow_l19 I y2 K n y1 y3 = some r → va_P G.1 vwCl (zW G I J) H → va_S (zA G) s.heap H locs → lv_has ls 4 [(0, .ref (G.2.1 328)), (1, .int y1), (2, .int y2), (3, .int y3)] → W p l e (zrm 4 90) s m args below meth c H locs 0 0 (MQ below (zQi G r I J) args s 0 0 (zA G)) (F0 m 19 ls []) := by
    intro y2 K hKK n
    induction n with
    | zero =>
      intro y1 y3 H locs ls hf
      rw [f_X6_swapsNow_l19] at hf
      cases hf
    | succ n ih =>
      intro y1 y3 H locs ls hf hP hS hl
      rw [f_X6_swapsNow_l19] at hf
      refine lv_iload_n hx hb dX6_swapsNow_19 rfl (lv_at hl 3 rfl) ?_
      refine lv_aload_n hx hb dX6_swapsNow_20 rfl (lv_at hl 0 rfl) ?_
      refine x_get (j := 0) (v := .ref (G.2.1 1)) hx hb hts hi6 hown hK hP zkL_328 rfl (by decide) (hts (.fieldLink RX6 12 "LeaseOffice$Thought" "office" "LLeaseOffice$Office;") (by decide +kernel)) rfl (by decide) dX6_swapsNow_21 ?_
      refine x_get (j := 6) (v := .int (I 1 6)) hx hb hts hi2 hown hK hP zkL_1 rfl (by decide) (hts (.fieldLink RX6 69 "LeaseOffice$Office" "toolCount" "I") (by decide +kernel)) rfl (by decide) dX6_swapsNow_24 ?_
      refine lv_icmp_ge (tgt := 48) hx hb dX6_swapsNow_27 (by decide) (fun c3 => ?_) (fun c3 => ?_)
      · have hf := zif_t c3 hf
        exact hKK y1 H locs ls hf hP hS (lv_sub hl [0, 1, 2] rfl)
      · have hf := zif_f c3 hf
        refine lv_aload_n hx hb dX6_swapsNow_30 rfl (lv_at hl 0 rfl) ?_
        refine lv_iload_n hx hb dX6_swapsNow_31 rfl (lv_at hl 2 rfl) ?_
        refine lv_iload_n hx hb dX6_swapsNow_32 rfl (lv_at hl 3 rfl) ?_
        obtain ⟨q4, hq4, hf⟩ := zb_e hf
        refine x_calli (x_runV (As := [.int y2, .int y3]) (rest := []) ⟨hx, hb, hml, hown, hts⟩ (c_X6_canBeSwapped l G hG I J y2 y3 hq4) (cwV 2 hts gX6_swapsNow_X6_canBeSwapped rfl rfl rfl (by decide +kernel) ⟨Nat.le_of_ble_eq_true rfl, Nat.le_of_ble_eq_true rfl⟩) hK hP zkL_328 (by decide) rfl rfl hl.1 rfl (Nat.le_of_ble_eq_true rfl) dX6_swapsNow_33 ⟨Nat.zero_le _, Nat.zero_le _⟩) hS (fun H locs hP hS => ?_)
        refine lv_if_eq (tgt := 42) hx hb dX6_swapsNow_36 (by decide) (fun c5 => ?_) (fun c5 => ?_)
        · have hf := zif_t c5 hf
          refine lv_iinc (v := (y3 + 1)) (lv' := [(3, .int (y3 + 1)), (0, .ref (G.2.1 328)), (1, .int y1), (2, .int y2)]) hx hb dX6_swapsNow_42 hl (k := 3) rfl rfl (by decide) rfl (fun ls hl => ?_)
          refine lv_goto (tgt := 19) hx hb dX6_swapsNow_45 (by decide) ?_
          exact ih y1 (y3 + 1) H locs ls hf hP hS (lv_sub hl [1, 2, 3, 0] rfl)
        · have hf := zif_f c5 hf
          refine lv_iinc (v := (y1 + 1)) (lv' := [(1, .int (y1 + 1)), (0, .ref (G.2.1 328)), (2, .int y2), (3, .int y3)]) hx hb dX6_swapsNow_39 hl (k := 1) rfl rfl (by decide) rfl (fun ls hl => ?_)
          refine lv_iinc (v := (y3 + 1)) (lv' := [(3, .int (y3 + 1)), (1, .int (y1 + 1)), (0, .ref (G.2.1 328)), (2, .int y2)]) hx hb dX6_swapsNow_42 hl (k := 3) rfl rfl (by decide) rfl (fun ls hl => ?_)
          refine lv_goto (tgt := 19) hx hb dX6_swapsNow_45 (by decide) ?_
          exact ih (y1 + 1) (y3 + 1) H locs ls hf hP hS (lv_sub hl [2, 1, 3, 0] rfl)
  have L4 : ∀ (n : Nat) (y1 : Int32) (y2 : Int32) (H : Heap) (locs : List Loc) (ls : Array Slot), f_X6_swapsNow_l4 I n y1 y2 = some r → va_P G.1 vwCl (zW G I J) H → va_S (zA G) s.heap H locs → lv_has ls 4 [(0, .ref (G.2.1 328)), (1, .int y1), (2, .int y2)] → W p l e (zrm 4 90) s m args below meth c H locs 0 0 (MQ below (zQi G r I J) args s 0 0 (zA G)) (F0 m 4 ls []) := by
    intro n
    induction n with
    | zero =>
      intro y1 y2 H locs ls hf
      rw [f_X6_swapsNow_l4] at hf
      cases hf
    | succ n ih =>
      intro y1 y2 H locs ls hf hP hS hl
      rw [f_X6_swapsNow_l4] at hf
      refine lv_iload_n hx hb dX6_swapsNow_4 rfl (lv_at hl 2 rfl) ?_
      refine lv_aload_n hx hb dX6_swapsNow_5 rfl (lv_at hl 0 rfl) ?_
      refine x_get (j := 0) (v := .ref (G.2.1 1)) hx hb hts hi6 hown hK hP zkL_328 rfl (by decide) (hts (.fieldLink RX6 12 "LeaseOffice$Thought" "office" "LLeaseOffice$Office;") (by decide +kernel)) rfl (by decide) dX6_swapsNow_6 ?_
      refine x_get (j := 6) (v := .int (I 1 6)) hx hb hts hi2 hown hK hP zkL_1 rfl (by decide) (hts (.fieldLink RX6 69 "LeaseOffice$Office" "toolCount" "I") (by decide +kernel)) rfl (by decide) dX6_swapsNow_9 ?_
      refine lv_icmp_ge (tgt := 54) hx hb dX6_swapsNow_12 (by decide) (fun c1 => ?_) (fun c1 => ?_)
      · have hf := zif_t c1 hf
        refine lv_iload_n hx hb dX6_swapsNow_54 rfl (lv_at hl 1 rfl) ?_
        obtain rfl := Option.some.inj hf
        exact x_iret hx hb hr hlocks hK hP hS dX6_swapsNow_55
      · have hf := zif_f c1 hf
        refine lv_iload_n hx hb dX6_swapsNow_15 rfl (lv_at hl 2 rfl) ?_
        refine lv_iconst (v := 1) hx hb dX6_swapsNow_16 (by decide) ?_
        refine lv_iadd hx hb dX6_swapsNow_17 ?_
        obtain ⟨w2, ew2, hf⟩ := zlet_e hf
        refine z_topi ew2 ?_
        refine lv_istore_n (lv' := [(3, .int w2), (0, .ref (G.2.1 328)), (1, .int y1), (2, .int y2)]) hx hb dX6_swapsNow_18 rfl hl (by decide) rfl (fun ls hl => ?_)
        refine L19 y2 _ (fun z6 H locs ls hf hP hS hl => ?_) zFu y1 w2 H locs ls hf hP hS (lv_sub hl [1, 2, 3, 0] rfl)
        refine lv_iinc (v := (y2 + 1)) (lv' := [(2, .int (y2 + 1)), (0, .ref (G.2.1 328)), (1, .int z6)]) hx hb dX6_swapsNow_48 hl (k := 2) rfl rfl (by decide) rfl (fun ls hl => ?_)
        refine lv_goto (tgt := 4) hx hb dX6_swapsNow_51 (by decide) ?_
        exact ih z6 (y2 + 1) H locs ls hf hP hS (lv_sub hl [1, 2, 0] rfl)
  unfold f_X6_swapsNow at hf
  refine lv_iconst (v := 0) hx hb dX6_swapsNow_0 (by decide) ?_
  refine lv_istore_n (lv' := [(1, .int 0), (0, .ref (G.2.1 328))]) hx hb dX6_swapsNow_1 rfl hl (by decide) rfl (fun ls hl => ?_)
  refine lv_iconst (v := 0) hx hb dX6_swapsNow_2 (by decide) ?_
  refine lv_istore_n (lv' := [(2, .int 0), (1, .int 0), (0, .ref (G.2.1 328))]) hx hb dX6_swapsNow_3 rfl hl (by decide) rfl (fun ls hl => ?_)
  exact L4 zFu 0 0 H locs ls hf hP hS (lv_sub hl [2, 1, 0] rfl)
set_option maxRecDepth 100000 in
set_option maxHeartbeats 4000000 in
theorem c_X6_toolsDueBefore (l : Launch) (G : zGT) (hG : zOK G) (I J : zM) (x1 : Int32) {r : Int32} (hf : f_X6_toolsDueBefore I x1 = some r) : Met l yX6_toolsDueBefore wsX6_toolsDueBefore (zrm 2 42) (va_Pc [.ref (G.2.1 328), .int x1] (zS G I J)) (zQi G r I J) 0 0 (zA G) := by
  refine zMet (cc := cX6_toolsDueBefore) (n := 4) (ret := (some .int)) (by decide) rfl (Nat.le_of_ble_eq_true rfl) ?_
  intro p e s m args below meth c H locs ls F hK hP hS hl
  obtain ⟨hx, hb, hr, hml, hts, hown, hlocks⟩ := F
  have hown : s.vm.findClass RX6 = some m.cls := hown
  have hl : lv_has ls 4 [(0, .ref (G.2.1 328)), (1, .int x1)] := hl
  have hi2 : ∀ w ∈ wsX20, w ∈ wsX6_toolsDueBefore := fun _ h => List.mem_cons_of_mem _ (List.mem_append_left _ (List.mem_append_right _ h))
  have hi6 : ∀ w ∈ wsX60, w ∈ wsX6_toolsDueBefore := fun _ h => List.mem_cons_of_mem _ (List.mem_append_left _ (List.mem_append_left _ (List.mem_append_right _ h)))
  have L4 : ∀ (n : Nat) (y2 : Int32) (y3 : Int32) (H : Heap) (locs : List Loc) (ls : Array Slot), f_X6_toolsDueBefore_l4 I x1 n y2 y3 = some r → va_P G.1 vwCl (zW G I J) H → va_S (zA G) s.heap H locs → lv_has ls 4 [(0, .ref (G.2.1 328)), (1, .int x1), (2, .int y2), (3, .int y3)] → W p l e (zrm 2 42) s m args below meth c H locs 0 0 (MQ below (zQi G r I J) args s 0 0 (zA G)) (F0 m 4 ls []) := by
    intro n
    induction n with
    | zero =>
      intro y2 y3 H locs ls hf
      rw [f_X6_toolsDueBefore_l4] at hf
      cases hf
    | succ n ih =>
      intro y2 y3 H locs ls hf hP hS hl
      rw [f_X6_toolsDueBefore_l4] at hf
      refine lv_iload_n hx hb dX6_toolsDueBefore_4 rfl (lv_at hl 3 rfl) ?_
      refine lv_aload_n hx hb dX6_toolsDueBefore_5 rfl (lv_at hl 0 rfl) ?_
      refine x_get (j := 0) (v := .ref (G.2.1 1)) hx hb hts hi6 hown hK hP zkL_328 rfl (by decide) (hts (.fieldLink RX6 12 "LeaseOffice$Thought" "office" "LLeaseOffice$Office;") (by decide +kernel)) rfl (by decide) dX6_toolsDueBefore_6 ?_
      refine x_get (j := 6) (v := .int (I 1 6)) hx hb hts hi2 hown hK hP zkL_1 rfl (by decide) (hts (.fieldLink RX6 69 "LeaseOffice$Office" "toolCount" "I") (by decide +kernel)) rfl (by decide) dX6_toolsDueBefore_9 ?_
      refine lv_icmp_ge (tgt := 39) hx hb dX6_toolsDueBefore_12 (by decide) (fun c1 => ?_) (fun c1 => ?_)
      · have hf := zif_t c1 hf
        refine lv_iload_n hx hb dX6_toolsDueBefore_39 rfl (lv_at hl 2 rfl) ?_
        obtain rfl := Option.some.inj hf
        exact x_iret hx hb hr hlocks hK hP hS dX6_toolsDueBefore_40
      · have hf := zif_f c1 hf
        refine lv_aload_n hx hb dX6_toolsDueBefore_15 rfl (lv_at hl 0 rfl) ?_
        refine x_get (j := 0) (v := .ref (G.2.1 1)) hx hb hts hi6 hown hK hP zkL_328 rfl (by decide) (hts (.fieldLink RX6 12 "LeaseOffice$Thought" "office" "LLeaseOffice$Office;") (by decide +kernel)) rfl (by decide) dX6_toolsDueBefore_16 ?_
        refine lv_iload_n hx hb dX6_toolsDueBefore_19 rfl (lv_at hl 3 rfl) ?_
        obtain ⟨q2, hq2, hf⟩ := zb_e hf
        refine x_callr (x_runV (As := [.int y3]) (rest := []) ⟨hx, hb, hml, hown, hts⟩ (c_X2_toolAt l G hG I J 1 y3 zkL_1 hq2) (cwV 1 hts gX6_toolsDueBefore_X2_toolAt rfl rfl rfl (by decide +kernel) ⟨Nat.le_of_ble_eq_true rfl, Nat.le_of_ble_eq_true rfl⟩) hK hP zkL_1 (by decide) rfl rfl hl.1 rfl (Nat.le_of_ble_eq_true rfl) dX6_toolsDueBefore_20 ⟨Nat.zero_le _, Nat.zero_le _⟩) hS (fun H locs hP hS => ?_)
        refine lv_iload_n hx hb dX6_toolsDueBefore_23 rfl (lv_at hl 1 rfl) ?_
        obtain ⟨q3, hq3, hf⟩ := zb_e hf
        refine x_calli (x_runV (As := [.int x1]) (rest := []) ⟨hx, hb, hml, hown, hts⟩ (c_X7_daysLateOn l G hG I J q2 x1 (kd_X2_toolAt zkL_1 hq2) hq3) (cwV 1 hts gX6_toolsDueBefore_X7_daysLateOn rfl rfl rfl (by decide +kernel) ⟨Nat.le_of_ble_eq_true rfl, Nat.le_of_ble_eq_true rfl⟩) hK hP (kd_X2_toolAt zkL_1 hq2) (by decide) rfl rfl hl.1 rfl (Nat.le_of_ble_eq_true rfl) dX6_toolsDueBefore_24 ⟨Nat.zero_le _, Nat.zero_le _⟩) hS (fun H locs hP hS => ?_)
        refine lv_if_le (tgt := 33) hx hb dX6_toolsDueBefore_27 (by decide) (fun c4 => ?_) (fun c4 => ?_)
        · have hf := zif_t c4 hf
          refine lv_iinc (v := (y3 + 1)) (lv' := [(3, .int (y3 + 1)), (0, .ref (G.2.1 328)), (1, .int x1), (2, .int y2)]) hx hb dX6_toolsDueBefore_33 hl (k := 3) rfl rfl (by decide) rfl (fun ls hl => ?_)
          refine lv_goto (tgt := 4) hx hb dX6_toolsDueBefore_36 (by decide) ?_
          exact ih y2 (y3 + 1) H locs ls hf hP hS (lv_sub hl [1, 2, 3, 0] rfl)
        · have hf := zif_f c4 hf
          refine lv_iinc (v := (y2 + 1)) (lv' := [(2, .int (y2 + 1)), (0, .ref (G.2.1 328)), (1, .int x1), (3, .int y3)]) hx hb dX6_toolsDueBefore_30 hl (k := 2) rfl rfl (by decide) rfl (fun ls hl => ?_)
          refine lv_iinc (v := (y3 + 1)) (lv' := [(3, .int (y3 + 1)), (2, .int (y2 + 1)), (0, .ref (G.2.1 328)), (1, .int x1)]) hx hb dX6_toolsDueBefore_33 hl (k := 3) rfl rfl (by decide) rfl (fun ls hl => ?_)
          refine lv_goto (tgt := 4) hx hb dX6_toolsDueBefore_36 (by decide) ?_
          exact ih (y2 + 1) (y3 + 1) H locs ls hf hP hS (lv_sub hl [2, 3, 1, 0] rfl)
  unfold f_X6_toolsDueBefore at hf
  refine lv_iconst (v := 0) hx hb dX6_toolsDueBefore_0 (by decide) ?_
  refine lv_istore_n (lv' := [(2, .int 0), (0, .ref (G.2.1 328)), (1, .int x1)]) hx hb dX6_toolsDueBefore_1 rfl hl (by decide) rfl (fun ls hl => ?_)
  refine lv_iconst (v := 0) hx hb dX6_toolsDueBefore_2 (by decide) ?_
  refine lv_istore_n (lv' := [(3, .int 0), (2, .int 0), (0, .ref (G.2.1 328)), (1, .int x1)]) hx hb dX6_toolsDueBefore_3 rfl hl (by decide) rfl (fun ls hl => ?_)
  exact L4 zFu 0 0 H locs ls hf hP hS (lv_sub hl [2, 3, 1, 0] rfl)
set_option maxRecDepth 100000 in
set_option maxHeartbeats 4000000 in
theorem c_X8_ahead (l : Launch) (G : zGT) (hG : zOK G) (I J : zM) (x1 : Int32) (x2 : Int32) {r : Int32} (hf : f_X8_ahead I x1 x2 = some r) : Met l yX8_ahead wsX8_ahead (zrm 4 86) (va_Pc [.ref (G.2.1 0), .int x1, .int x2] (zS G I J)) (zQi G r I J) 0 0 (zA G) := by
  refine zMet (cc := cX8_ahead) (n := 3) (ret := (some .int)) (by decide) rfl (Nat.le_of_ble_eq_true rfl) ?_
  intro p e s m args below meth c H locs ls F hK hP hS hl
  obtain ⟨hx, hb, hr, hml, hts, hown, hlocks⟩ := F
  have hown : s.vm.findClass RX8 = some m.cls := hown
  have hl : lv_has ls 3 [(0, .ref (G.2.1 0)), (1, .int x1), (2, .int x2)] := hl
  have hi2 : ∀ w ∈ wsX20, w ∈ wsX8_ahead := fun _ h => List.mem_cons_of_mem _ (List.mem_append_left _ (List.mem_append_left _ (List.mem_append_right _ h)))
  have hi8 : ∀ w ∈ wsX80, w ∈ wsX8_ahead := fun _ h => List.mem_cons_of_mem _ (List.mem_append_left _ (List.mem_append_left _ (List.mem_append_left _ (List.mem_append_right _ h))))
  unfold f_X8_ahead at hf
  refine lv_iload_n hx hb dX8_ahead_0 rfl (lv_at hl 1 rfl) ?_
  refine lv_if_lt (tgt := 10) hx hb dX8_ahead_1 (by decide) (fun c1 => ?_) (fun c1 => ?_)
  · have hf := zif_t c1 hf
    refine lv_iconst (v := (-1)) hx hb dX8_ahead_10 (by decide) ?_
    obtain rfl := Option.some.inj hf
    exact x_iret hx hb hr hlocks hK hP hS dX8_ahead_11
  · have hf := zif_f c1 hf
    refine lv_iload_n hx hb dX8_ahead_4 rfl (lv_at hl 1 rfl) ?_
    refine lv_bipush (v := 60) hx hb dX8_ahead_5 (by decide) ?_
    refine lv_icmp_le (tgt := 12) hx hb dX8_ahead_7 (by decide) (fun c2 => ?_) (fun c2 => ?_)
    · have hf := zif_t c2 hf
      refine lv_iload_n hx hb dX8_ahead_12 rfl (lv_at hl 2 rfl) ?_
      rcases Classical.em (x2 = 0) with c5 | c5
      · have hf := zif_t c5 hf
        refine lv_lookup (off := 27) (tgt := 40) hx hb dX8_ahead_13 (by decide) (by rw [c5]; decide) (by decide) ?_
        refine lv_aload_n hx hb dX8_ahead_40 rfl (lv_at hl 0 rfl) ?_
        refine x_get (j := 0) (v := .ref (G.2.1 328)) hx hb hts hi8 hown hK hP zkL_0 rfl (by decide) (hts (.fieldLink RX8 12 "LeaseOffice" "thought" "LLeaseOffice$Thought;") (by decide +kernel)) rfl (by decide) dX8_ahead_41 ?_
        refine lv_aload_n hx hb dX8_ahead_44 rfl (lv_at hl 0 rfl) ?_
        refine x_get (j := 1) (v := .ref (G.2.1 1)) hx hb hts hi8 hown hK hP zkL_0 rfl (by decide) (hts (.fieldLink RX8 20 "LeaseOffice" "office" "LLeaseOffice$Office;") (by decide +kernel)) rfl (by decide) dX8_ahead_45 ?_
        refine x_get (j := 7) (v := .int (I 1 7)) hx hb hts hi2 hown hK hP zkL_1 rfl (by decide) (hts (.fieldLink RX8 195 "LeaseOffice$Office" "day" "I") (by decide +kernel)) rfl (by decide) dX8_ahead_48 ?_
        refine lv_iload_n hx hb dX8_ahead_51 rfl (lv_at hl 1 rfl) ?_
        refine lv_iadd hx hb dX8_ahead_52 ?_
        obtain ⟨q3, hq3, hf⟩ := zb_e hf
        refine x_calli (x_runV (As := [.int ((I 1 7) + x1)]) (rest := []) ⟨hx, hb, hml, hown, hts⟩ (c_X6_toolsDueBefore l G hG I J ((I 1 7) + x1) hq3) (cwV 1 hts gX8_ahead_X6_toolsDueBefore rfl rfl rfl (by decide +kernel) ⟨Nat.le_of_ble_eq_true rfl, Nat.le_of_ble_eq_true rfl⟩) hK hP zkL_328 (by decide) rfl rfl hl.1 rfl (Nat.le_of_ble_eq_true rfl) dX8_ahead_53 ⟨Nat.zero_le _, Nat.zero_le _⟩) hS (fun H locs hP hS => ?_)
        obtain rfl := Option.some.inj hf
        exact x_iret hx hb hr hlocks hK hP hS dX8_ahead_56
      · have hf := zif_f c5 hf
        rcases Classical.em (x2 = 1) with c6 | c6
        · have hf := zif_t c6 hf
          refine lv_lookup (off := 44) (tgt := 57) hx hb dX8_ahead_13 (by decide) (by rw [c6]; decide) (by decide) ?_
          refine lv_aload_n hx hb dX8_ahead_57 rfl (lv_at hl 0 rfl) ?_
          refine x_get (j := 0) (v := .ref (G.2.1 328)) hx hb hts hi8 hown hK hP zkL_0 rfl (by decide) (hts (.fieldLink RX8 12 "LeaseOffice" "thought" "LLeaseOffice$Thought;") (by decide +kernel)) rfl (by decide) dX8_ahead_58 ?_
          refine lv_aload_n hx hb dX8_ahead_61 rfl (lv_at hl 0 rfl) ?_
          refine x_get (j := 1) (v := .ref (G.2.1 1)) hx hb hts hi8 hown hK hP zkL_0 rfl (by decide) (hts (.fieldLink RX8 20 "LeaseOffice" "office" "LLeaseOffice$Office;") (by decide +kernel)) rfl (by decide) dX8_ahead_62 ?_
          refine x_get (j := 7) (v := .int (I 1 7)) hx hb hts hi2 hown hK hP zkL_1 rfl (by decide) (hts (.fieldLink RX8 195 "LeaseOffice$Office" "day" "I") (by decide +kernel)) rfl (by decide) dX8_ahead_65 ?_
          refine lv_iload_n hx hb dX8_ahead_68 rfl (lv_at hl 1 rfl) ?_
          refine lv_iadd hx hb dX8_ahead_69 ?_
          obtain ⟨q4, hq4, hf⟩ := zb_e hf
          refine x_calli (x_runV (As := [.int ((I 1 7) + x1)]) (rest := []) ⟨hx, hb, hml, hown, hts⟩ (c_X6_feesOn l G hG I J ((I 1 7) + x1) hq4) (cwV 1 hts gX8_ahead_X6_feesOn rfl rfl rfl (by decide +kernel) ⟨Nat.le_of_ble_eq_true rfl, Nat.le_of_ble_eq_true rfl⟩) hK hP zkL_328 (by decide) rfl rfl hl.1 rfl (Nat.le_of_ble_eq_true rfl) dX8_ahead_70 ⟨Nat.zero_le _, Nat.zero_le _⟩) hS (fun H locs hP hS => ?_)
          obtain rfl := Option.some.inj hf
          exact x_iret hx hb hr hlocks hK hP hS dX8_ahead_73
        · have hf := zif_f c6 hf
          refine lv_lookup (off := 61) (tgt := 74) hx hb dX8_ahead_13 (by decide) (by rw [lv_osw c5 (by decide)]; rw [lv_osw c6 (by decide)]; rfl) (by decide) ?_
          refine lv_iconst (v := (-1)) hx hb dX8_ahead_74 (by decide) ?_
          obtain rfl := Option.some.inj hf
          exact x_iret hx hb hr hlocks hK hP hS dX8_ahead_75
    · have hf := zif_f c2 hf
      refine lv_iconst (v := (-1)) hx hb dX8_ahead_10 (by decide) ?_
      obtain rfl := Option.some.inj hf
      exact x_iret hx hb hr hlocks hK hP hS dX8_ahead_11
set_option maxRecDepth 100000 in
set_option maxHeartbeats 4000000 in
theorem c_X8_holderAt (l : Launch) (G : zGT) (hG : zOK G) (I J : zM) (x1 : Int32) {r : Nat} (hf : f_X8_holderAt I x1 = some r) : Met l yX8_holderAt wsX8_holderAt (zrm 0 0) (va_Pc [.ref (G.2.1 0), .int x1] (zS G I J)) (zQr G r I J) 0 0 (zA G) := by
  refine zMet (cc := cX8_holderAt) (n := 2) (ret := (some (.object "LeaseOffice$Holder"))) (by decide) rfl (Nat.le_of_ble_eq_true rfl) ?_
  intro p e s m args below meth c H locs ls F hK hP hS hl
  obtain ⟨hx, hb, hr, hml, hts, hown, hlocks⟩ := F
  have hown : s.vm.findClass RX8 = some m.cls := hown
  have hl : lv_has ls 2 [(0, .ref (G.2.1 0)), (1, .int x1)] := hl
  have hi8 : ∀ w ∈ wsX80, w ∈ wsX8_holderAt := fun _ h => List.mem_cons_of_mem _ (List.mem_append_right _ h)
  unfold f_X8_holderAt at hf
  refine lv_iload_n hx hb dX8_holderAt_0 rfl (lv_at hl 1 rfl) ?_
  refine lv_if_lt (tgt := 22) hx hb dX8_holderAt_1 (by decide) (fun c1 => ?_) (fun c1 => ?_)
  · have hf := zif_t c1 hf
    refine lv_aload_n hx hb dX8_holderAt_22 rfl (lv_at hl 0 rfl) ?_
    refine x_get (j := 7) (v := .ref (G.2.1 338)) hx hb hts hi8 hown hK hP zkL_0 rfl (by decide) (hts (.fieldLink RX8 49 "LeaseOffice" "noHolder" "LLeaseOffice$Holder;") (by decide +kernel)) rfl (by decide) dX8_holderAt_23 ?_
    obtain rfl := Option.some.inj hf
    exact x_aret (Or.inl ⟨_, rfl⟩) hx hb hr hlocks hK hP hS dX8_holderAt_26
  · have hf := zif_f c1 hf
    refine lv_iload_n hx hb dX8_holderAt_4 rfl (lv_at hl 1 rfl) ?_
    refine lv_aload_n hx hb dX8_holderAt_5 rfl (lv_at hl 0 rfl) ?_
    refine x_get (j := 6) (v := .ref (G.2.1 337)) hx hb hts hi8 hown hK hP zkL_0 rfl (by decide) (hts (.fieldLink RX8 44 "LeaseOffice" "holders" "[LLeaseOffice$Holder;") (by decide +kernel)) rfl (by decide) dX8_holderAt_6 ?_
    refine x_alen 1 (v := 6) hx hb hK hP (zK_lt zkL_337 (by decide)) (zE_11 zkL_337) rfl rfl dX8_holderAt_9 ?_
    refine lv_icmp_ge (tgt := 22) hx hb dX8_holderAt_10 (by decide) (fun c2 => ?_) (fun c2 => ?_)
    · have hf := zif_t c2 hf
      refine lv_aload_n hx hb dX8_holderAt_22 rfl (lv_at hl 0 rfl) ?_
      refine x_get (j := 7) (v := .ref (G.2.1 338)) hx hb hts hi8 hown hK hP zkL_0 rfl (by decide) (hts (.fieldLink RX8 49 "LeaseOffice" "noHolder" "LLeaseOffice$Holder;") (by decide +kernel)) rfl (by decide) dX8_holderAt_23 ?_
      obtain rfl := Option.some.inj hf
      exact x_aret (Or.inl ⟨_, rfl⟩) hx hb hr hlocks hK hP hS dX8_holderAt_26
    · have hf := zif_f c2 hf
      refine lv_aload_n hx hb dX8_holderAt_13 rfl (lv_at hl 0 rfl) ?_
      refine x_get (j := 6) (v := .ref (G.2.1 337)) hx hb hts hi8 hown hK hP zkL_0 rfl (by decide) (hts (.fieldLink RX8 44 "LeaseOffice" "holders" "[LLeaseOffice$Holder;") (by decide +kernel)) rfl (by decide) dX8_holderAt_14 ?_
      refine lv_iload_n hx hb dX8_holderAt_17 rfl (lv_at hl 1 rfl) ?_
      obtain ⟨h3, hf⟩ := zck_e hf
      refine x_aald11 hx hb hK hP (zin_e h3) dX8_holderAt_18 ?_
      refine lv_goto (tgt := 26) hx hb dX8_holderAt_19 (by decide) ?_
      obtain rfl := Option.some.inj hf
      exact x_aret (Or.inl ⟨_, rfl⟩) hx hb hr hlocks hK hP hS dX8_holderAt_26
set_option maxRecDepth 100000 in
set_option maxHeartbeats 4000000 in
theorem c_X8_back (l : Launch) (G : zGT) (hG : zOK G) (I J : zM) {r : Int32 × zM} (hf : f_X8_back I = some r) : Met l yX8_back wsX8_back (zrm 4 90) (va_Pc [.ref (G.2.1 0)] (zS G I J)) (zQi G r.1 r.2 J) 0 0 (zA G) := by
  refine zMet (cc := cX8_back) (n := 5) (ret := (some .int)) (by decide) rfl (Nat.le_of_ble_eq_true rfl) ?_
  intro p e s m args below meth c H locs ls F hK hP hS hl
  obtain ⟨hx, hb, hr, hml, hts, hown, hlocks⟩ := F
  have hown : s.vm.findClass RX8 = some m.cls := hown
  have hl : lv_has ls 5 [(0, .ref (G.2.1 0))] := hl
  have hi1 : ∀ w ∈ wsX10, w ∈ wsX8_back := fun _ h => List.mem_cons_of_mem _ (List.mem_append_left _ (List.mem_append_left _ (List.mem_append_left _ (List.mem_append_left _ (List.mem_append_right _ h)))))
  have hi2 : ∀ w ∈ wsX20, w ∈ wsX8_back := fun _ h => List.mem_cons_of_mem _ (List.mem_append_left _ (List.mem_append_left _ (List.mem_append_left _ (List.mem_append_right _ h))))
  have hi8 : ∀ w ∈ wsX80, w ∈ wsX8_back := fun _ h => List.mem_cons_of_mem _ (List.mem_append_left _ (List.mem_append_left _ (List.mem_append_left _ (List.mem_append_left _ (List.mem_append_left _ (List.mem_append_right _ h))))))
  have L23 : ∀ (n : Nat) (M : zM) (y1 : Int32) (H : Heap) (locs : List Loc) (ls : Array Slot), f_X8_back_l23 n M y1 = some r → va_P G.1 vwCl (zW G M J) H → va_S (zA G) s.heap H locs → lv_has ls 5 [(0, .ref (G.2.1 0)), (1, .int y1)] → W p l e (zrm 4 90) s m args below meth c H locs 0 0 (MQ below (zQi G r.1 r.2 J) args s 0 0 (zA G)) (F0 m 23 ls []) := by
    intro n
    induction n with
    | zero =>
      intro M y1 H locs ls hf
      rw [f_X8_back_l23] at hf
      cases hf
    | succ n ih =>
      intro M y1 H locs ls hf hP hS hl
      rw [f_X8_back_l23] at hf
      refine lv_iload_n hx hb dX8_back_23 rfl (lv_at hl 1 rfl) ?_
      refine lv_bipush (v := 6) hx hb dX8_back_24 (by decide) ?_
      refine lv_icmp_ge (tgt := 113) hx hb dX8_back_26 (by decide) (fun c3 => ?_) (fun c3 => ?_)
      · have hf := zif_t c3 hf
        refine lv_aload_n hx hb dX8_back_113 rfl (lv_at hl 0 rfl) ?_
        refine x_get (j := 1) (v := .ref (G.2.1 1)) hx hb hts hi8 hown hK hP zkL_0 rfl (by decide) (hts (.fieldLink RX8 20 "LeaseOffice" "office" "LLeaseOffice$Office;") (by decide +kernel)) rfl (by decide) dX8_back_114 ?_
        refine x_get (j := 7) (v := .int (M 1 7)) hx hb hts hi2 hown hK hP zkL_1 rfl (by decide) (hts (.fieldLink RX8 195 "LeaseOffice$Office" "day" "I") (by decide +kernel)) rfl (by decide) dX8_back_117 ?_
        obtain rfl := Option.some.inj hf
        exact x_iret hx hb hr hlocks hK hP hS dX8_back_120
      · have hf := zif_f c3 hf
        refine lv_aload_n hx hb dX8_back_29 rfl (lv_at hl 0 rfl) ?_
        refine lv_iload_n hx hb dX8_back_30 rfl (lv_at hl 1 rfl) ?_
        obtain ⟨q4, hq4, hf⟩ := zb_e hf
        refine x_callr (x_runV (As := [.int y1]) (rest := []) ⟨hx, hb, hml, hown, hts⟩ (c_X8_holderAt l G hG M J y1 hq4) (cwV 1 hts gX8_back_X8_holderAt rfl rfl rfl (by decide +kernel) ⟨Nat.le_of_ble_eq_true rfl, Nat.le_of_ble_eq_true rfl⟩) hK hP zkL_0 (by decide) rfl rfl hl.1 rfl (Nat.le_of_ble_eq_true rfl) dX8_back_31 ⟨Nat.zero_le _, Nat.zero_le _⟩) hS (fun H locs hP hS => ?_)
        refine lv_astore_n (lv' := [(2, .ref (G.2.1 (q4))), (0, .ref (G.2.1 0)), (1, .int y1)]) hx hb dX8_back_34 rfl hl (by decide) rfl (fun ls hl => ?_)
        refine lv_aload_n hx hb dX8_back_35 rfl (lv_at hl 0 rfl) ?_
        refine x_get (j := 0) (v := .int (M q4 0)) hx hb hts hi1 hown hK hP (kd_X8_holderAt hq4) rfl (by decide) (hts (.fieldLink RX8 229 "LeaseOffice$Holder" "sort" "I") (by decide +kernel)) rfl (by decide) dX8_back_36 ?_
        refine lv_iconst (v := 1) hx hb dX8_back_39 (by decide) ?_
        refine lv_icmp_ne (tgt := 61) hx hb dX8_back_40 (by decide) (fun c5 => ?_) (fun c5 => ?_)
        · have hf := zif_f c5 hf
          refine lv_iconst (v := 0) hx hb dX8_back_61 (by decide) ?_
          refine lv_istore_n (lv' := [(3, .int 0), (2, .ref (G.2.1 (q4))), (0, .ref (G.2.1 0)), (1, .int y1)]) hx hb dX8_back_62 rfl hl (by decide) rfl (fun ls hl => ?_)
          refine lv_aload_n hx hb dX8_back_63 rfl (lv_at hl 1 rfl) ?_
          refine x_get (j := 0) (v := .int (M q4 0)) hx hb hts hi1 hown hK hP (kd_X8_holderAt hq4) rfl (by decide) (hts (.fieldLink RX8 229 "LeaseOffice$Holder" "sort" "I") (by decide +kernel)) rfl (by decide) dX8_back_64 ?_
          refine lv_iconst (v := 2) hx hb dX8_back_67 (by decide) ?_
          refine lv_icmp_ne (tgt := 89) hx hb dX8_back_68 (by decide) (fun c6 => ?_) (fun c6 => ?_)
          · have hf := zif_f c6 hf
            refine lv_iconst (v := 0) hx hb dX8_back_89 (by decide) ?_
            refine lv_istore (lv' := [(4, .int 0), (3, .int 0), (2, .ref (G.2.1 (q4))), (0, .ref (G.2.1 0)), (1, .int y1)]) hx hb dX8_back_90 hl (by decide) rfl (fun ls hl => ?_)
            refine lv_iload_n hx hb dX8_back_92 rfl (lv_at hl 1 rfl) ?_
            refine lv_if_ne (tgt := 101) hx hb dX8_back_93 (by decide) (fun c7 => absurd (by decide) c7) (fun _ => ?_)
            refine lv_iload hx hb dX8_back_96 (lv_at hl 0 rfl) ?_
            refine lv_if_eq (tgt := 107) hx hb dX8_back_98 (by decide) (fun _ => ?_) (fun c8 => absurd (by decide) c8)
            refine lv_iinc (v := (y1 + 1)) (lv' := [(1, .int (y1 + 1)), (4, .int 0), (3, .int 0), (2, .ref (G.2.1 (q4))), (0, .ref (G.2.1 0))]) hx hb dX8_back_107 hl (k := 4) rfl rfl (by decide) rfl (fun ls hl => ?_)
            refine lv_goto (tgt := 23) hx hb dX8_back_110 (by decide) ?_
            exact ih M (y1 + 1) H locs ls hf hP hS (lv_sub hl [4, 0] rfl)
          · have hf := zif_t c6 hf
            refine lv_aload_n hx hb dX8_back_71 rfl (lv_at hl 2 rfl) ?_
            refine x_get (j := 1) (v := .ref (G.2.1 1)) hx hb hts hi8 hown hK hP zkL_0 rfl (by decide) (hts (.fieldLink RX8 20 "LeaseOffice" "office" "LLeaseOffice$Office;") (by decide +kernel)) rfl (by decide) dX8_back_72 ?_
            refine lv_aload_n hx hb dX8_back_75 rfl (lv_at hl 1 rfl) ?_
            refine x_get (j := 1) (v := .int (M q4 1)) hx hb hts hi1 hown hK hP (kd_X8_holderAt hq4) rfl (by decide) (hts (.fieldLink RX8 273 "LeaseOffice$Holder" "number" "I") (by decide +kernel)) rfl (by decide) dX8_back_76 ?_
            obtain ⟨q9, hq9, hf⟩ := zb_e hf
            refine x_calli (x_runV (As := [.int (M q4 1)]) (rest := []) ⟨hx, hb, hml, hown, hts⟩ (c_X2_isTool l G hG M J 1 (M q4 1) zkL_1 hq9) (cwV 1 hts gX8_back_X2_isTool rfl rfl rfl (by decide +kernel) ⟨Nat.le_of_ble_eq_true rfl, Nat.le_of_ble_eq_true rfl⟩) hK hP zkL_1 (by decide) rfl rfl hl.1 rfl (Nat.le_of_ble_eq_true rfl) dX8_back_79 ⟨Nat.zero_le _, Nat.zero_le _⟩) hS (fun H locs hP hS => ?_)
            refine lv_if_ne (tgt := 89) hx hb dX8_back_82 (by decide) (fun c10 => ?_) (fun c10 => ?_)
            · have hf := zif_f c10 hf
              refine lv_iconst (v := 0) hx hb dX8_back_89 (by decide) ?_
              refine lv_istore (lv' := [(4, .int 0), (3, .int 0), (2, .ref (G.2.1 (q4))), (0, .ref (G.2.1 0)), (1, .int y1)]) hx hb dX8_back_90 hl (by decide) rfl (fun ls hl => ?_)
              refine lv_iload_n hx hb dX8_back_92 rfl (lv_at hl 1 rfl) ?_
              refine lv_if_ne (tgt := 101) hx hb dX8_back_93 (by decide) (fun c11 => absurd (by decide) c11) (fun _ => ?_)
              refine lv_iload hx hb dX8_back_96 (lv_at hl 0 rfl) ?_
              refine lv_if_eq (tgt := 107) hx hb dX8_back_98 (by decide) (fun _ => ?_) (fun c12 => absurd (by decide) c12)
              refine lv_iinc (v := (y1 + 1)) (lv' := [(1, .int (y1 + 1)), (4, .int 0), (3, .int 0), (2, .ref (G.2.1 (q4))), (0, .ref (G.2.1 0))]) hx hb dX8_back_107 hl (k := 4) rfl rfl (by decide) rfl (fun ls hl => ?_)
              refine lv_goto (tgt := 23) hx hb dX8_back_110 (by decide) ?_
              exact ih M (y1 + 1) H locs ls hf hP hS (lv_sub hl [4, 0] rfl)
            · have hf := zif_t c10 hf
              refine lv_iconst (v := 1) hx hb dX8_back_85 (by decide) ?_
              refine lv_goto (tgt := 90) hx hb dX8_back_86 (by decide) ?_
              refine lv_istore (lv' := [(4, .int 1), (3, .int 0), (2, .ref (G.2.1 (q4))), (0, .ref (G.2.1 0)), (1, .int y1)]) hx hb dX8_back_90 hl (by decide) rfl (fun ls hl => ?_)
              refine lv_iload_n hx hb dX8_back_92 rfl (lv_at hl 1 rfl) ?_
              refine lv_if_ne (tgt := 101) hx hb dX8_back_93 (by decide) (fun c13 => absurd (by decide) c13) (fun _ => ?_)
              refine lv_iload hx hb dX8_back_96 (lv_at hl 0 rfl) ?_
              refine lv_if_eq (tgt := 107) hx hb dX8_back_98 (by decide) (fun c14 => absurd c14 (by decide)) (fun _ => ?_)
              refine lv_aload_n hx hb dX8_back_101 rfl (lv_at hl 2 rfl) ?_
              refine lv_iconst (v := 0) hx hb dX8_back_102 (by decide) ?_
              refine lv_iconst (v := 0) hx hb dX8_back_103 (by decide) ?_
              obtain ⟨q15, hq15, hf⟩ := zb_e hf
              refine x_callv (x_runV (As := [.int 0, .int 0]) (rest := []) ⟨hx, hb, hml, hown, hts⟩ (c_X1_take l G hG M J q4 0 0 (kd_X8_holderAt hq4) hq15) (cwV 2 hts gX8_back_X1_take rfl rfl rfl (by decide +kernel) ⟨Nat.le_of_ble_eq_true rfl, Nat.le_of_ble_eq_true rfl⟩) hK hP (kd_X8_holderAt hq4) (by decide) rfl rfl hl.1 rfl (Nat.le_of_ble_eq_true rfl) dX8_back_104 ⟨Nat.zero_le _, Nat.zero_le _⟩) hS (fun H locs hP hS => ?_)
              refine lv_iinc (v := (y1 + 1)) (lv' := [(1, .int (y1 + 1)), (4, .int 1), (3, .int 0), (2, .ref (G.2.1 (q4))), (0, .ref (G.2.1 0))]) hx hb dX8_back_107 hl (k := 4) rfl rfl (by decide) rfl (fun ls hl => ?_)
              refine lv_goto (tgt := 23) hx hb dX8_back_110 (by decide) ?_
              exact ih q15 (y1 + 1) H locs ls hf hP hS (lv_sub hl [4, 0] rfl)
        · have hf := zif_t c5 hf
          refine lv_aload_n hx hb dX8_back_43 rfl (lv_at hl 1 rfl) ?_
          refine x_get (j := 1) (v := .ref (G.2.1 1)) hx hb hts hi8 hown hK hP zkL_0 rfl (by decide) (hts (.fieldLink RX8 20 "LeaseOffice" "office" "LLeaseOffice$Office;") (by decide +kernel)) rfl (by decide) dX8_back_44 ?_
          refine lv_aload_n hx hb dX8_back_47 rfl (lv_at hl 0 rfl) ?_
          refine x_get (j := 1) (v := .int (M q4 1)) hx hb hts hi1 hown hK hP (kd_X8_holderAt hq4) rfl (by decide) (hts (.fieldLink RX8 273 "LeaseOffice$Holder" "number" "I") (by decide +kernel)) rfl (by decide) dX8_back_48 ?_
          obtain ⟨q16, hq16, hf⟩ := zb_e hf
          refine x_calli (x_runV (As := [.int (M q4 1)]) (rest := []) ⟨hx, hb, hml, hown, hts⟩ (c_X2_isPerson l G hG M J 1 (M q4 1) zkL_1 hq16) (cwV 1 hts gX8_back_X2_isPerson rfl rfl rfl (by decide +kernel) ⟨Nat.le_of_ble_eq_true rfl, Nat.le_of_ble_eq_true rfl⟩) hK hP zkL_1 (by decide) rfl rfl hl.1 rfl (Nat.le_of_ble_eq_true rfl) dX8_back_51 ⟨Nat.zero_le _, Nat.zero_le _⟩) hS (fun H locs hP hS => ?_)
          refine lv_if_ne (tgt := 61) hx hb dX8_back_54 (by decide) (fun c17 => ?_) (fun c17 => ?_)
          · have hf := zif_f c17 hf
            refine lv_iconst (v := 0) hx hb dX8_back_61 (by decide) ?_
            refine lv_istore_n (lv' := [(3, .int 0), (2, .ref (G.2.1 (q4))), (0, .ref (G.2.1 0)), (1, .int y1)]) hx hb dX8_back_62 rfl hl (by decide) rfl (fun ls hl => ?_)
            refine lv_aload_n hx hb dX8_back_63 rfl (lv_at hl 1 rfl) ?_
            refine x_get (j := 0) (v := .int (M q4 0)) hx hb hts hi1 hown hK hP (kd_X8_holderAt hq4) rfl (by decide) (hts (.fieldLink RX8 229 "LeaseOffice$Holder" "sort" "I") (by decide +kernel)) rfl (by decide) dX8_back_64 ?_
            refine lv_iconst (v := 2) hx hb dX8_back_67 (by decide) ?_
            refine lv_icmp_ne (tgt := 89) hx hb dX8_back_68 (by decide) (fun c18 => ?_) (fun c18 => ?_)
            · have hf := zif_f c18 hf
              refine lv_iconst (v := 0) hx hb dX8_back_89 (by decide) ?_
              refine lv_istore (lv' := [(4, .int 0), (3, .int 0), (2, .ref (G.2.1 (q4))), (0, .ref (G.2.1 0)), (1, .int y1)]) hx hb dX8_back_90 hl (by decide) rfl (fun ls hl => ?_)
              refine lv_iload_n hx hb dX8_back_92 rfl (lv_at hl 1 rfl) ?_
              refine lv_if_ne (tgt := 101) hx hb dX8_back_93 (by decide) (fun c19 => absurd (by decide) c19) (fun _ => ?_)
              refine lv_iload hx hb dX8_back_96 (lv_at hl 0 rfl) ?_
              refine lv_if_eq (tgt := 107) hx hb dX8_back_98 (by decide) (fun _ => ?_) (fun c20 => absurd (by decide) c20)
              refine lv_iinc (v := (y1 + 1)) (lv' := [(1, .int (y1 + 1)), (4, .int 0), (3, .int 0), (2, .ref (G.2.1 (q4))), (0, .ref (G.2.1 0))]) hx hb dX8_back_107 hl (k := 4) rfl rfl (by decide) rfl (fun ls hl => ?_)
              refine lv_goto (tgt := 23) hx hb dX8_back_110 (by decide) ?_
              exact ih M (y1 + 1) H locs ls hf hP hS (lv_sub hl [4, 0] rfl)
            · have hf := zif_t c18 hf
              refine lv_aload_n hx hb dX8_back_71 rfl (lv_at hl 2 rfl) ?_
              refine x_get (j := 1) (v := .ref (G.2.1 1)) hx hb hts hi8 hown hK hP zkL_0 rfl (by decide) (hts (.fieldLink RX8 20 "LeaseOffice" "office" "LLeaseOffice$Office;") (by decide +kernel)) rfl (by decide) dX8_back_72 ?_
              refine lv_aload_n hx hb dX8_back_75 rfl (lv_at hl 1 rfl) ?_
              refine x_get (j := 1) (v := .int (M q4 1)) hx hb hts hi1 hown hK hP (kd_X8_holderAt hq4) rfl (by decide) (hts (.fieldLink RX8 273 "LeaseOffice$Holder" "number" "I") (by decide +kernel)) rfl (by decide) dX8_back_76 ?_
              obtain ⟨q21, hq21, hf⟩ := zb_e hf
              refine x_calli (x_runV (As := [.int (M q4 1)]) (rest := []) ⟨hx, hb, hml, hown, hts⟩ (c_X2_isTool l G hG M J 1 (M q4 1) zkL_1 hq21) (cwV 1 hts gX8_back_X2_isTool rfl rfl rfl (by decide +kernel) ⟨Nat.le_of_ble_eq_true rfl, Nat.le_of_ble_eq_true rfl⟩) hK hP zkL_1 (by decide) rfl rfl hl.1 rfl (Nat.le_of_ble_eq_true rfl) dX8_back_79 ⟨Nat.zero_le _, Nat.zero_le _⟩) hS (fun H locs hP hS => ?_)
              refine lv_if_ne (tgt := 89) hx hb dX8_back_82 (by decide) (fun c22 => ?_) (fun c22 => ?_)
              · have hf := zif_f c22 hf
                refine lv_iconst (v := 0) hx hb dX8_back_89 (by decide) ?_
                refine lv_istore (lv' := [(4, .int 0), (3, .int 0), (2, .ref (G.2.1 (q4))), (0, .ref (G.2.1 0)), (1, .int y1)]) hx hb dX8_back_90 hl (by decide) rfl (fun ls hl => ?_)
                refine lv_iload_n hx hb dX8_back_92 rfl (lv_at hl 1 rfl) ?_
                refine lv_if_ne (tgt := 101) hx hb dX8_back_93 (by decide) (fun c23 => absurd (by decide) c23) (fun _ => ?_)
                refine lv_iload hx hb dX8_back_96 (lv_at hl 0 rfl) ?_
                refine lv_if_eq (tgt := 107) hx hb dX8_back_98 (by decide) (fun _ => ?_) (fun c24 => absurd (by decide) c24)
                refine lv_iinc (v := (y1 + 1)) (lv' := [(1, .int (y1 + 1)), (4, .int 0), (3, .int 0), (2, .ref (G.2.1 (q4))), (0, .ref (G.2.1 0))]) hx hb dX8_back_107 hl (k := 4) rfl rfl (by decide) rfl (fun ls hl => ?_)
                refine lv_goto (tgt := 23) hx hb dX8_back_110 (by decide) ?_
                exact ih M (y1 + 1) H locs ls hf hP hS (lv_sub hl [4, 0] rfl)
              · have hf := zif_t c22 hf
                refine lv_iconst (v := 1) hx hb dX8_back_85 (by decide) ?_
                refine lv_goto (tgt := 90) hx hb dX8_back_86 (by decide) ?_
                refine lv_istore (lv' := [(4, .int 1), (3, .int 0), (2, .ref (G.2.1 (q4))), (0, .ref (G.2.1 0)), (1, .int y1)]) hx hb dX8_back_90 hl (by decide) rfl (fun ls hl => ?_)
                refine lv_iload_n hx hb dX8_back_92 rfl (lv_at hl 1 rfl) ?_
                refine lv_if_ne (tgt := 101) hx hb dX8_back_93 (by decide) (fun c25 => absurd (by decide) c25) (fun _ => ?_)
                refine lv_iload hx hb dX8_back_96 (lv_at hl 0 rfl) ?_
                refine lv_if_eq (tgt := 107) hx hb dX8_back_98 (by decide) (fun c26 => absurd c26 (by decide)) (fun _ => ?_)
                refine lv_aload_n hx hb dX8_back_101 rfl (lv_at hl 2 rfl) ?_
                refine lv_iconst (v := 0) hx hb dX8_back_102 (by decide) ?_
                refine lv_iconst (v := 0) hx hb dX8_back_103 (by decide) ?_
                obtain ⟨q27, hq27, hf⟩ := zb_e hf
                refine x_callv (x_runV (As := [.int 0, .int 0]) (rest := []) ⟨hx, hb, hml, hown, hts⟩ (c_X1_take l G hG M J q4 0 0 (kd_X8_holderAt hq4) hq27) (cwV 2 hts gX8_back_X1_take rfl rfl rfl (by decide +kernel) ⟨Nat.le_of_ble_eq_true rfl, Nat.le_of_ble_eq_true rfl⟩) hK hP (kd_X8_holderAt hq4) (by decide) rfl rfl hl.1 rfl (Nat.le_of_ble_eq_true rfl) dX8_back_104 ⟨Nat.zero_le _, Nat.zero_le _⟩) hS (fun H locs hP hS => ?_)
                refine lv_iinc (v := (y1 + 1)) (lv' := [(1, .int (y1 + 1)), (4, .int 1), (3, .int 0), (2, .ref (G.2.1 (q4))), (0, .ref (G.2.1 0))]) hx hb dX8_back_107 hl (k := 4) rfl rfl (by decide) rfl (fun ls hl => ?_)
                refine lv_goto (tgt := 23) hx hb dX8_back_110 (by decide) ?_
                exact ih q27 (y1 + 1) H locs ls hf hP hS (lv_sub hl [4, 0] rfl)
          · have hf := zif_t c17 hf
            refine lv_iconst (v := 1) hx hb dX8_back_57 (by decide) ?_
            refine lv_goto (tgt := 62) hx hb dX8_back_58 (by decide) ?_
            refine lv_istore_n (lv' := [(3, .int 1), (2, .ref (G.2.1 (q4))), (0, .ref (G.2.1 0)), (1, .int y1)]) hx hb dX8_back_62 rfl hl (by decide) rfl (fun ls hl => ?_)
            refine lv_aload_n hx hb dX8_back_63 rfl (lv_at hl 1 rfl) ?_
            refine x_get (j := 0) (v := .int (M q4 0)) hx hb hts hi1 hown hK hP (kd_X8_holderAt hq4) rfl (by decide) (hts (.fieldLink RX8 229 "LeaseOffice$Holder" "sort" "I") (by decide +kernel)) rfl (by decide) dX8_back_64 ?_
            refine lv_iconst (v := 2) hx hb dX8_back_67 (by decide) ?_
            refine lv_icmp_ne (tgt := 89) hx hb dX8_back_68 (by decide) (fun c28 => ?_) (fun c28 => ?_)
            · have hf := zif_f c28 hf
              refine lv_iconst (v := 0) hx hb dX8_back_89 (by decide) ?_
              refine lv_istore (lv' := [(4, .int 0), (3, .int 1), (2, .ref (G.2.1 (q4))), (0, .ref (G.2.1 0)), (1, .int y1)]) hx hb dX8_back_90 hl (by decide) rfl (fun ls hl => ?_)
              refine lv_iload_n hx hb dX8_back_92 rfl (lv_at hl 1 rfl) ?_
              refine lv_if_ne (tgt := 101) hx hb dX8_back_93 (by decide) (fun _ => ?_) (fun c29 => absurd (c29) (by decide))
              refine lv_aload_n hx hb dX8_back_101 rfl (lv_at hl 2 rfl) ?_
              refine lv_iconst (v := 0) hx hb dX8_back_102 (by decide) ?_
              refine lv_iconst (v := 0) hx hb dX8_back_103 (by decide) ?_
              obtain ⟨q30, hq30, hf⟩ := zb_e hf
              refine x_callv (x_runV (As := [.int 0, .int 0]) (rest := []) ⟨hx, hb, hml, hown, hts⟩ (c_X1_take l G hG M J q4 0 0 (kd_X8_holderAt hq4) hq30) (cwV 2 hts gX8_back_X1_take rfl rfl rfl (by decide +kernel) ⟨Nat.le_of_ble_eq_true rfl, Nat.le_of_ble_eq_true rfl⟩) hK hP (kd_X8_holderAt hq4) (by decide) rfl rfl hl.1 rfl (Nat.le_of_ble_eq_true rfl) dX8_back_104 ⟨Nat.zero_le _, Nat.zero_le _⟩) hS (fun H locs hP hS => ?_)
              refine lv_iinc (v := (y1 + 1)) (lv' := [(1, .int (y1 + 1)), (4, .int 0), (3, .int 1), (2, .ref (G.2.1 (q4))), (0, .ref (G.2.1 0))]) hx hb dX8_back_107 hl (k := 4) rfl rfl (by decide) rfl (fun ls hl => ?_)
              refine lv_goto (tgt := 23) hx hb dX8_back_110 (by decide) ?_
              exact ih q30 (y1 + 1) H locs ls hf hP hS (lv_sub hl [4, 0] rfl)
            · have hf := zif_t c28 hf
              refine lv_aload_n hx hb dX8_back_71 rfl (lv_at hl 2 rfl) ?_
              refine x_get (j := 1) (v := .ref (G.2.1 1)) hx hb hts hi8 hown hK hP zkL_0 rfl (by decide) (hts (.fieldLink RX8 20 "LeaseOffice" "office" "LLeaseOffice$Office;") (by decide +kernel)) rfl (by decide) dX8_back_72 ?_
              refine lv_aload_n hx hb dX8_back_75 rfl (lv_at hl 1 rfl) ?_
              refine x_get (j := 1) (v := .int (M q4 1)) hx hb hts hi1 hown hK hP (kd_X8_holderAt hq4) rfl (by decide) (hts (.fieldLink RX8 273 "LeaseOffice$Holder" "number" "I") (by decide +kernel)) rfl (by decide) dX8_back_76 ?_
              obtain ⟨q31, hq31, hf⟩ := zb_e hf
              refine x_calli (x_runV (As := [.int (M q4 1)]) (rest := []) ⟨hx, hb, hml, hown, hts⟩ (c_X2_isTool l G hG M J 1 (M q4 1) zkL_1 hq31) (cwV 1 hts gX8_back_X2_isTool rfl rfl rfl (by decide +kernel) ⟨Nat.le_of_ble_eq_true rfl, Nat.le_of_ble_eq_true rfl⟩) hK hP zkL_1 (by decide) rfl rfl hl.1 rfl (Nat.le_of_ble_eq_true rfl) dX8_back_79 ⟨Nat.zero_le _, Nat.zero_le _⟩) hS (fun H locs hP hS => ?_)
              refine lv_if_ne (tgt := 89) hx hb dX8_back_82 (by decide) (fun c32 => ?_) (fun c32 => ?_)
              · have hf := zif_f c32 hf
                refine lv_iconst (v := 0) hx hb dX8_back_89 (by decide) ?_
                refine lv_istore (lv' := [(4, .int 0), (3, .int 1), (2, .ref (G.2.1 (q4))), (0, .ref (G.2.1 0)), (1, .int y1)]) hx hb dX8_back_90 hl (by decide) rfl (fun ls hl => ?_)
                refine lv_iload_n hx hb dX8_back_92 rfl (lv_at hl 1 rfl) ?_
                refine lv_if_ne (tgt := 101) hx hb dX8_back_93 (by decide) (fun _ => ?_) (fun c33 => absurd (c33) (by decide))
                refine lv_aload_n hx hb dX8_back_101 rfl (lv_at hl 2 rfl) ?_
                refine lv_iconst (v := 0) hx hb dX8_back_102 (by decide) ?_
                refine lv_iconst (v := 0) hx hb dX8_back_103 (by decide) ?_
                obtain ⟨q34, hq34, hf⟩ := zb_e hf
                refine x_callv (x_runV (As := [.int 0, .int 0]) (rest := []) ⟨hx, hb, hml, hown, hts⟩ (c_X1_take l G hG M J q4 0 0 (kd_X8_holderAt hq4) hq34) (cwV 2 hts gX8_back_X1_take rfl rfl rfl (by decide +kernel) ⟨Nat.le_of_ble_eq_true rfl, Nat.le_of_ble_eq_true rfl⟩) hK hP (kd_X8_holderAt hq4) (by decide) rfl rfl hl.1 rfl (Nat.le_of_ble_eq_true rfl) dX8_back_104 ⟨Nat.zero_le _, Nat.zero_le _⟩) hS (fun H locs hP hS => ?_)
                refine lv_iinc (v := (y1 + 1)) (lv' := [(1, .int (y1 + 1)), (4, .int 0), (3, .int 1), (2, .ref (G.2.1 (q4))), (0, .ref (G.2.1 0))]) hx hb dX8_back_107 hl (k := 4) rfl rfl (by decide) rfl (fun ls hl => ?_)
                refine lv_goto (tgt := 23) hx hb dX8_back_110 (by decide) ?_
                exact ih q34 (y1 + 1) H locs ls hf hP hS (lv_sub hl [4, 0] rfl)
              · have hf := zif_t c32 hf
                refine lv_iconst (v := 1) hx hb dX8_back_85 (by decide) ?_
                refine lv_goto (tgt := 90) hx hb dX8_back_86 (by decide) ?_
                refine lv_istore (lv' := [(4, .int 1), (3, .int 1), (2, .ref (G.2.1 (q4))), (0, .ref (G.2.1 0)), (1, .int y1)]) hx hb dX8_back_90 hl (by decide) rfl (fun ls hl => ?_)
                refine lv_iload_n hx hb dX8_back_92 rfl (lv_at hl 1 rfl) ?_
                refine lv_if_ne (tgt := 101) hx hb dX8_back_93 (by decide) (fun _ => ?_) (fun c35 => absurd (c35) (by decide))
                refine lv_aload_n hx hb dX8_back_101 rfl (lv_at hl 2 rfl) ?_
                refine lv_iconst (v := 0) hx hb dX8_back_102 (by decide) ?_
                refine lv_iconst (v := 0) hx hb dX8_back_103 (by decide) ?_
                obtain ⟨q36, hq36, hf⟩ := zb_e hf
                refine x_callv (x_runV (As := [.int 0, .int 0]) (rest := []) ⟨hx, hb, hml, hown, hts⟩ (c_X1_take l G hG M J q4 0 0 (kd_X8_holderAt hq4) hq36) (cwV 2 hts gX8_back_X1_take rfl rfl rfl (by decide +kernel) ⟨Nat.le_of_ble_eq_true rfl, Nat.le_of_ble_eq_true rfl⟩) hK hP (kd_X8_holderAt hq4) (by decide) rfl rfl hl.1 rfl (Nat.le_of_ble_eq_true rfl) dX8_back_104 ⟨Nat.zero_le _, Nat.zero_le _⟩) hS (fun H locs hP hS => ?_)
                refine lv_iinc (v := (y1 + 1)) (lv' := [(1, .int (y1 + 1)), (4, .int 1), (3, .int 1), (2, .ref (G.2.1 (q4))), (0, .ref (G.2.1 0))]) hx hb dX8_back_107 hl (k := 4) rfl rfl (by decide) rfl (fun ls hl => ?_)
                refine lv_goto (tgt := 23) hx hb dX8_back_110 (by decide) ?_
                exact ih q36 (y1 + 1) H locs ls hf hP hS (lv_sub hl [4, 0] rfl)
  unfold f_X8_back at hf
  refine lv_aload_n hx hb dX8_back_0 rfl (lv_at hl 0 rfl) ?_
  refine x_get (j := 8) (v := .int (I 0 8)) hx hb hts hi8 hown hK hP zkL_0 rfl (by decide) (hts (.fieldLink RX8 269 "LeaseOffice" "hasImage" "Z") (by decide +kernel)) rfl (by decide) dX8_back_1 ?_
  refine lv_if_ne (tgt := 10) hx hb dX8_back_4 (by decide) (fun c1 => ?_) (fun c1 => ?_)
  · have hf := zif_f c1 hf
    refine lv_aload_n hx hb dX8_back_10 rfl (lv_at hl 0 rfl) ?_
    refine x_get (j := 1) (v := .ref (G.2.1 1)) hx hb hts hi8 hown hK hP zkL_0 rfl (by decide) (hts (.fieldLink RX8 20 "LeaseOffice" "office" "LLeaseOffice$Office;") (by decide +kernel)) rfl (by decide) dX8_back_11 ?_
    refine lv_aload_n hx hb dX8_back_14 rfl (lv_at hl 0 rfl) ?_
    refine x_get (j := 2) (v := .ref (G.2.1 110)) hx hb hts hi8 hown hK hP zkL_0 rfl (by decide) (hts (.fieldLink RX8 24 "LeaseOffice" "imageKept" "LLeaseOffice$Office;") (by decide +kernel)) rfl (by decide) dX8_back_15 ?_
    obtain ⟨q2, hq2, hf⟩ := zb_e hf
    refine x_callv (x_runV (As := [.ref (G.2.1 110)]) (rest := []) ⟨hx, hb, hml, hown, hts⟩ (c_X2_copyFrom l G hG I J 1 110 zkL_1 zkL_110 hq2) (cwV 1 hts gX8_back_X2_copyFrom rfl rfl rfl (by decide +kernel) ⟨Nat.le_of_ble_eq_true rfl, Nat.le_of_ble_eq_true rfl⟩) hK hP zkL_1 (by decide) rfl rfl hl.1 rfl (Nat.le_of_ble_eq_true rfl) dX8_back_18 ⟨Nat.zero_le _, Nat.zero_le _⟩) hS (fun H locs hP hS => ?_)
    refine lv_iconst (v := 0) hx hb dX8_back_21 (by decide) ?_
    refine lv_istore_n (lv' := [(1, .int 0), (0, .ref (G.2.1 0))]) hx hb dX8_back_22 rfl hl (by decide) rfl (fun ls hl => ?_)
    exact L23 zFu q2 0 H locs ls hf hP hS (lv_sub hl [1, 0] rfl)
  · have hf := zif_t c1 hf
    refine lv_bipush (v := (-5)) hx hb dX8_back_7 (by decide) ?_
    obtain rfl := Option.some.inj hf
    exact x_iret hx hb hr hlocks hK hP hS dX8_back_9
set_option maxRecDepth 100000 in
set_option maxHeartbeats 4000000 in
theorem c_X8_claim (l : Launch) (G : zGT) (hG : zOK G) (I J : zM) (x1 : Int32) (x2 : Int32) (x3 : Int32) {r : Int32 × zM} (hf : f_X8_claim I x1 x2 x3 = some r) : Met l yX8_claim wsX8_claim (zrm 4 98) (va_Pc [.ref (G.2.1 0), .int x1, .int x2, .int x3] (zS G I J)) (zQi G r.1 r.2 J) 0 0 (zA G) := by
  refine zMet (cc := cX8_claim) (n := 4) (ret := (some .int)) (by decide) rfl (Nat.le_of_ble_eq_true rfl) ?_
  intro p e s m args below meth c H locs ls F hK hP hS hl
  obtain ⟨hx, hb, hr, hml, hts, hown, hlocks⟩ := F
  have hown : s.vm.findClass RX8 = some m.cls := hown
  have hl : lv_has ls 4 [(0, .ref (G.2.1 0)), (1, .int x1), (2, .int x2), (3, .int x3)] := hl
  have hi8 : ∀ w ∈ wsX80, w ∈ wsX8_claim := fun _ h => List.mem_cons_of_mem _ (List.mem_append_left _ (List.mem_append_left _ (List.mem_append_left _ (List.mem_append_right _ h))))
  unfold f_X8_claim at hf
  refine lv_iload_n hx hb dX8_claim_0 rfl (lv_at hl 3 rfl) ?_
  refine lv_if_ge (tgt := 8) hx hb dX8_claim_1 (by decide) (fun c1 => ?_) (fun c1 => ?_)
  · have hf := zif_t c1 hf
    refine lv_aload_n hx hb dX8_claim_8 rfl (lv_at hl 0 rfl) ?_
    refine x_get (j := 1) (v := .ref (G.2.1 1)) hx hb hts hi8 hown hK hP zkL_0 rfl (by decide) (hts (.fieldLink RX8 20 "LeaseOffice" "office" "LLeaseOffice$Office;") (by decide +kernel)) rfl (by decide) dX8_claim_9 ?_
    refine lv_iload_n hx hb dX8_claim_12 rfl (lv_at hl 1 rfl) ?_
    refine lv_iload_n hx hb dX8_claim_13 rfl (lv_at hl 2 rfl) ?_
    refine lv_iload_n hx hb dX8_claim_14 rfl (lv_at hl 3 rfl) ?_
    refine lv_bipush (v := 100) hx hb dX8_claim_15 (by decide) ?_
    refine lv_idiv hx hb dX8_claim_17 (by decide) ?_
    refine lv_iload_n hx hb dX8_claim_18 rfl (lv_at hl 3 rfl) ?_
    refine lv_bipush (v := 100) hx hb dX8_claim_19 (by decide) ?_
    refine lv_irem hx hb dX8_claim_21 (by decide) ?_
    obtain ⟨q2, hq2, hf⟩ := zb_e hf
    refine x_calli (x_runV (As := [.int x1, .int x2, .int (x3 / 100), .int (x3 - x3 / 100 * 100)]) (rest := []) ⟨hx, hb, hml, hown, hts⟩ (c_X2_enterClaim l G hG I J 1 x1 x2 (x3 / 100) (x3 - x3 / 100 * 100) zkL_1 hq2) (cwV 4 hts gX8_claim_X2_enterClaim rfl rfl rfl (by decide +kernel) ⟨Nat.le_of_ble_eq_true rfl, Nat.le_of_ble_eq_true rfl⟩) hK hP zkL_1 (by decide) rfl rfl hl.1 rfl (Nat.le_of_ble_eq_true rfl) dX8_claim_22 ⟨Nat.zero_le _, Nat.zero_le _⟩) hS (fun H locs hP hS => ?_)
    obtain rfl := Option.some.inj hf
    exact x_iret hx hb hr hlocks hK hP hS dX8_claim_25
  · have hf := zif_f c1 hf
    refine lv_iconst (v := (-1)) hx hb dX8_claim_4 (by decide) ?_
    refine lv_goto (tgt := 25) hx hb dX8_claim_5 (by decide) ?_
    obtain rfl := Option.some.inj hf
    exact x_iret hx hb hr hlocks hK hP hS dX8_claim_25
set_option maxRecDepth 100000 in
set_option maxHeartbeats 4000000 in
theorem c_X8_holdersInUse (l : Launch) (G : zGT) (hG : zOK G) (I J : zM) {r : Int32} (hf : f_X8_holdersInUse I = some r) : Met l yX8_holdersInUse wsX8_holdersInUse (zrm 1 21) (va_Pc [.ref (G.2.1 0)] (zS G I J)) (zQi G r I J) 0 0 (zA G) := by
  refine zMet (cc := cX8_holdersInUse) (n := 3) (ret := (some .int)) (by decide) rfl (Nat.le_of_ble_eq_true rfl) ?_
  intro p e s m args below meth c H locs ls F hK hP hS hl
  obtain ⟨hx, hb, hr, hml, hts, hown, hlocks⟩ := F
  have hown : s.vm.findClass RX8 = some m.cls := hown
  have hl : lv_has ls 3 [(0, .ref (G.2.1 0))] := hl
  have hi1 : ∀ w ∈ wsX10, w ∈ wsX8_holdersInUse := fun _ h => List.mem_cons_of_mem _ (List.mem_append_left _ (List.mem_append_right _ h))
  have L4 : ∀ (n : Nat) (y1 : Int32) (y2 : Int32) (H : Heap) (locs : List Loc) (ls : Array Slot), f_X8_holdersInUse_l4 I n y1 y2 = some r → va_P G.1 vwCl (zW G I J) H → va_S (zA G) s.heap H locs → lv_has ls 3 [(0, .ref (G.2.1 0)), (1, .int y1), (2, .int y2)] → W p l e (zrm 1 21) s m args below meth c H locs 0 0 (MQ below (zQi G r I J) args s 0 0 (zA G)) (F0 m 4 ls []) := by
    intro n
    induction n with
    | zero =>
      intro y1 y2 H locs ls hf
      rw [f_X8_holdersInUse_l4] at hf
      cases hf
    | succ n ih =>
      intro y1 y2 H locs ls hf hP hS hl
      rw [f_X8_holdersInUse_l4] at hf
      refine lv_iload_n hx hb dX8_holdersInUse_4 rfl (lv_at hl 2 rfl) ?_
      refine lv_bipush (v := 6) hx hb dX8_holdersInUse_5 (by decide) ?_
      refine lv_icmp_ge (tgt := 30) hx hb dX8_holdersInUse_7 (by decide) (fun c1 => ?_) (fun c1 => ?_)
      · have hf := zif_t c1 hf
        refine lv_iload_n hx hb dX8_holdersInUse_30 rfl (lv_at hl 1 rfl) ?_
        obtain rfl := Option.some.inj hf
        exact x_iret hx hb hr hlocks hK hP hS dX8_holdersInUse_31
      · have hf := zif_f c1 hf
        refine lv_aload_n hx hb dX8_holdersInUse_10 rfl (lv_at hl 0 rfl) ?_
        refine lv_iload_n hx hb dX8_holdersInUse_11 rfl (lv_at hl 2 rfl) ?_
        obtain ⟨q2, hq2, hf⟩ := zb_e hf
        refine x_callr (x_runV (As := [.int y2]) (rest := []) ⟨hx, hb, hml, hown, hts⟩ (c_X8_holderAt l G hG I J y2 hq2) (cwV 1 hts gX8_holdersInUse_X8_holderAt rfl rfl rfl (by decide +kernel) ⟨Nat.le_of_ble_eq_true rfl, Nat.le_of_ble_eq_true rfl⟩) hK hP zkL_0 (by decide) rfl rfl hl.1 rfl (Nat.le_of_ble_eq_true rfl) dX8_holdersInUse_12 ⟨Nat.zero_le _, Nat.zero_le _⟩) hS (fun H locs hP hS => ?_)
        refine x_get (j := 0) (v := .int (I q2 0)) hx hb hts hi1 hown hK hP (kd_X8_holderAt hq2) rfl (by decide) (hts (.fieldLink RX8 229 "LeaseOffice$Holder" "sort" "I") (by decide +kernel)) rfl (by decide) dX8_holdersInUse_15 ?_
        refine lv_if_eq (tgt := 24) hx hb dX8_holdersInUse_18 (by decide) (fun c3 => ?_) (fun c3 => ?_)
        · have hf := zif_t c3 hf
          refine lv_iinc (v := (y2 + 1)) (lv' := [(2, .int (y2 + 1)), (0, .ref (G.2.1 0)), (1, .int y1)]) hx hb dX8_holdersInUse_24 hl (k := 2) rfl rfl (by decide) rfl (fun ls hl => ?_)
          refine lv_goto (tgt := 4) hx hb dX8_holdersInUse_27 (by decide) ?_
          exact ih y1 (y2 + 1) H locs ls hf hP hS (lv_sub hl [1, 2, 0] rfl)
        · have hf := zif_f c3 hf
          refine lv_iinc (v := (y1 + 1)) (lv' := [(1, .int (y1 + 1)), (0, .ref (G.2.1 0)), (2, .int y2)]) hx hb dX8_holdersInUse_21 hl (k := 1) rfl rfl (by decide) rfl (fun ls hl => ?_)
          refine lv_iinc (v := (y2 + 1)) (lv' := [(2, .int (y2 + 1)), (1, .int (y1 + 1)), (0, .ref (G.2.1 0))]) hx hb dX8_holdersInUse_24 hl (k := 2) rfl rfl (by decide) rfl (fun ls hl => ?_)
          refine lv_goto (tgt := 4) hx hb dX8_holdersInUse_27 (by decide) ?_
          exact ih (y1 + 1) (y2 + 1) H locs ls hf hP hS (lv_sub hl [2, 1, 0] rfl)
  unfold f_X8_holdersInUse at hf
  refine lv_iconst (v := 0) hx hb dX8_holdersInUse_0 (by decide) ?_
  refine lv_istore_n (lv' := [(1, .int 0), (0, .ref (G.2.1 0))]) hx hb dX8_holdersInUse_1 rfl hl (by decide) rfl (fun ls hl => ?_)
  refine lv_iconst (v := 0) hx hb dX8_holdersInUse_2 (by decide) ?_
  refine lv_istore_n (lv' := [(2, .int 0), (1, .int 0), (0, .ref (G.2.1 0))]) hx hb dX8_holdersInUse_3 rfl hl (by decide) rfl (fun ls hl => ?_)
  exact L4 zFu 0 0 H locs ls hf hP hS (lv_sub hl [2, 1, 0] rfl)
set_option maxRecDepth 100000 in
set_option maxHeartbeats 4000000 in
theorem c_X8_count (l : Launch) (G : zGT) (hG : zOK G) (I J : zM) (x1 : Int32) {r : Int32} (hf : f_X8_count I x1 = some r) : Met l yX8_count wsX8_count (zrm 2 43) (va_Pc [.ref (G.2.1 0), .int x1] (zS G I J)) (zQi G r I J) 0 0 (zA G) := by
  refine zMet (cc := cX8_count) (n := 2) (ret := (some .int)) (by decide) rfl (Nat.le_of_ble_eq_true rfl) ?_
  intro p e s m args below meth c H locs ls F hK hP hS hl
  obtain ⟨hx, hb, hr, hml, hts, hown, hlocks⟩ := F
  have hown : s.vm.findClass RX8 = some m.cls := hown
  have hl : lv_has ls 2 [(0, .ref (G.2.1 0)), (1, .int x1)] := hl
  have hi2 : ∀ w ∈ wsX20, w ∈ wsX8_count := fun _ h => List.mem_cons_of_mem _ (List.mem_append_left _ (List.mem_append_left _ (List.mem_append_left _ (List.mem_append_left _ (List.mem_append_left _ (List.mem_append_right _ h))))))
  have hi8 : ∀ w ∈ wsX80, w ∈ wsX8_count := fun _ h => List.mem_cons_of_mem _ (List.mem_append_left _ (List.mem_append_left _ (List.mem_append_left _ (List.mem_append_left _ (List.mem_append_left _ (List.mem_append_left _ (List.mem_append_right _ h)))))))
  unfold f_X8_count at hf
  refine lv_iload_n hx hb dX8_count_0 rfl (lv_at hl 1 rfl) ?_
  rcases Classical.em (x1 = 0) with c6 | c6
  · have hf := zif_t c6 hf
    refine lv_tableIn (off := 51) (tgt := 52) hx hb dX8_count_1 (by rw [c6]; decide) (by rw [c6]; decide) (by rw [c6]; decide) (by decide) ?_
    refine lv_aload_n hx hb dX8_count_52 rfl (lv_at hl 0 rfl) ?_
    refine x_get (j := 1) (v := .ref (G.2.1 1)) hx hb hts hi8 hown hK hP zkL_0 rfl (by decide) (hts (.fieldLink RX8 20 "LeaseOffice" "office" "LLeaseOffice$Office;") (by decide +kernel)) rfl (by decide) dX8_count_53 ?_
    refine x_get (j := 5) (v := .int (I 1 5)) hx hb hts hi2 hown hK hP zkL_1 rfl (by decide) (hts (.fieldLink RX8 232 "LeaseOffice$Office" "personCount" "I") (by decide +kernel)) rfl (by decide) dX8_count_56 ?_
    obtain rfl := Option.some.inj hf
    exact x_iret hx hb hr hlocks hK hP hS dX8_count_59
  · have hf := zif_f c6 hf
    rcases Classical.em (x1 = 1) with c7 | c7
    · have hf := zif_t c7 hf
      refine lv_tableIn (off := 59) (tgt := 60) hx hb dX8_count_1 (by rw [c7]; decide) (by rw [c7]; decide) (by rw [c7]; decide) (by decide) ?_
      refine lv_aload_n hx hb dX8_count_60 rfl (lv_at hl 0 rfl) ?_
      refine x_get (j := 1) (v := .ref (G.2.1 1)) hx hb hts hi8 hown hK hP zkL_0 rfl (by decide) (hts (.fieldLink RX8 20 "LeaseOffice" "office" "LLeaseOffice$Office;") (by decide +kernel)) rfl (by decide) dX8_count_61 ?_
      refine x_get (j := 6) (v := .int (I 1 6)) hx hb hts hi2 hown hK hP zkL_1 rfl (by decide) (hts (.fieldLink RX8 288 "LeaseOffice$Office" "toolCount" "I") (by decide +kernel)) rfl (by decide) dX8_count_64 ?_
      obtain rfl := Option.some.inj hf
      exact x_iret hx hb hr hlocks hK hP hS dX8_count_67
    · have hf := zif_f c7 hf
      rcases Classical.em (x1 = 2) with c8 | c8
      · have hf := zif_t c8 hf
        refine lv_tableIn (off := 67) (tgt := 68) hx hb dX8_count_1 (by rw [c8]; decide) (by rw [c8]; decide) (by rw [c8]; decide) (by decide) ?_
        refine lv_aload_n hx hb dX8_count_68 rfl (lv_at hl 0 rfl) ?_
        refine x_get (j := 0) (v := .ref (G.2.1 328)) hx hb hts hi8 hown hK hP zkL_0 rfl (by decide) (hts (.fieldLink RX8 12 "LeaseOffice" "thought" "LLeaseOffice$Thought;") (by decide +kernel)) rfl (by decide) dX8_count_69 ?_
        obtain ⟨q1, hq1, hf⟩ := zb_e hf
        refine x_calli (x_runV (As := []) (rest := []) ⟨hx, hb, hml, hown, hts⟩ (c_X6_leasedCount l G hG I J hq1) (cwV 0 hts gX8_count_X6_leasedCount rfl rfl rfl (by decide +kernel) ⟨Nat.le_of_ble_eq_true rfl, Nat.le_of_ble_eq_true rfl⟩) hK hP zkL_328 (by decide) rfl rfl hl.1 rfl (Nat.le_of_ble_eq_true rfl) dX8_count_72 ⟨Nat.zero_le _, Nat.zero_le _⟩) hS (fun H locs hP hS => ?_)
        obtain rfl := Option.some.inj hf
        exact x_iret hx hb hr hlocks hK hP hS dX8_count_75
      · have hf := zif_f c8 hf
        rcases Classical.em (x1 = 3) with c9 | c9
        · have hf := zif_t c9 hf
          refine lv_tableIn (off := 75) (tgt := 76) hx hb dX8_count_1 (by rw [c9]; decide) (by rw [c9]; decide) (by rw [c9]; decide) (by decide) ?_
          refine lv_aload_n hx hb dX8_count_76 rfl (lv_at hl 0 rfl) ?_
          refine x_get (j := 0) (v := .ref (G.2.1 328)) hx hb hts hi8 hown hK hP zkL_0 rfl (by decide) (hts (.fieldLink RX8 12 "LeaseOffice" "thought" "LLeaseOffice$Thought;") (by decide +kernel)) rfl (by decide) dX8_count_77 ?_
          obtain ⟨q2, hq2, hf⟩ := zb_e hf
          refine x_calli (x_runV (As := []) (rest := []) ⟨hx, hb, hml, hown, hts⟩ (c_X6_claimCount l G hG I J hq2) (cwV 0 hts gX8_count_X6_claimCount rfl rfl rfl (by decide +kernel) ⟨Nat.le_of_ble_eq_true rfl, Nat.le_of_ble_eq_true rfl⟩) hK hP zkL_328 (by decide) rfl rfl hl.1 rfl (Nat.le_of_ble_eq_true rfl) dX8_count_80 ⟨Nat.zero_le _, Nat.zero_le _⟩) hS (fun H locs hP hS => ?_)
          obtain rfl := Option.some.inj hf
          exact x_iret hx hb hr hlocks hK hP hS dX8_count_83
        · have hf := zif_f c9 hf
          rcases Classical.em (x1 = 4) with c10 | c10
          · have hf := zif_t c10 hf
            refine lv_tableIn (off := 83) (tgt := 84) hx hb dX8_count_1 (by rw [c10]; decide) (by rw [c10]; decide) (by rw [c10]; decide) (by decide) ?_
            refine lv_aload_n hx hb dX8_count_84 rfl (lv_at hl 0 rfl) ?_
            refine x_get (j := 1) (v := .ref (G.2.1 1)) hx hb hts hi8 hown hK hP zkL_0 rfl (by decide) (hts (.fieldLink RX8 20 "LeaseOffice" "office" "LLeaseOffice$Office;") (by decide +kernel)) rfl (by decide) dX8_count_85 ?_
            refine x_get (j := 7) (v := .int (I 1 7)) hx hb hts hi2 hown hK hP zkL_1 rfl (by decide) (hts (.fieldLink RX8 195 "LeaseOffice$Office" "day" "I") (by decide +kernel)) rfl (by decide) dX8_count_88 ?_
            obtain rfl := Option.some.inj hf
            exact x_iret hx hb hr hlocks hK hP hS dX8_count_91
          · have hf := zif_f c10 hf
            rcases Classical.em (x1 = 5) with c11 | c11
            · have hf := zif_t c11 hf
              refine lv_tableIn (off := 91) (tgt := 92) hx hb dX8_count_1 (by rw [c11]; decide) (by rw [c11]; decide) (by rw [c11]; decide) (by decide) ?_
              refine lv_aload_n hx hb dX8_count_92 rfl (lv_at hl 0 rfl) ?_
              refine x_get (j := 1) (v := .ref (G.2.1 1)) hx hb hts hi8 hown hK hP zkL_0 rfl (by decide) (hts (.fieldLink RX8 20 "LeaseOffice" "office" "LLeaseOffice$Office;") (by decide +kernel)) rfl (by decide) dX8_count_93 ?_
              refine x_get (j := 8) (v := .int (I 1 8)) hx hb hts hi2 hown hK hP zkL_1 rfl (by decide) (hts (.fieldLink RX8 297 "LeaseOffice$Office" "till" "I") (by decide +kernel)) rfl (by decide) dX8_count_96 ?_
              obtain rfl := Option.some.inj hf
              exact x_iret hx hb hr hlocks hK hP hS dX8_count_99
            · have hf := zif_f c11 hf
              rcases Classical.em (x1 = 6) with c12 | c12
              · have hf := zif_t c12 hf
                refine lv_tableIn (off := 99) (tgt := 100) hx hb dX8_count_1 (by rw [c12]; decide) (by rw [c12]; decide) (by rw [c12]; decide) (by decide) ?_
                refine lv_aload_n hx hb dX8_count_100 rfl (lv_at hl 0 rfl) ?_
                refine x_get (j := 0) (v := .ref (G.2.1 328)) hx hb hts hi8 hown hK hP zkL_0 rfl (by decide) (hts (.fieldLink RX8 12 "LeaseOffice" "thought" "LLeaseOffice$Thought;") (by decide +kernel)) rfl (by decide) dX8_count_101 ?_
                obtain ⟨q3, hq3, hf⟩ := zb_e hf
                refine x_calli (x_runV (As := []) (rest := []) ⟨hx, hb, hml, hown, hts⟩ (c_X6_allDebts l G hG I J hq3) (cwV 0 hts gX8_count_X6_allDebts rfl rfl rfl (by decide +kernel) ⟨Nat.le_of_ble_eq_true rfl, Nat.le_of_ble_eq_true rfl⟩) hK hP zkL_328 (by decide) rfl rfl hl.1 rfl (Nat.le_of_ble_eq_true rfl) dX8_count_104 ⟨Nat.zero_le _, Nat.zero_le _⟩) hS (fun H locs hP hS => ?_)
                obtain rfl := Option.some.inj hf
                exact x_iret hx hb hr hlocks hK hP hS dX8_count_107
              · have hf := zif_f c12 hf
                rcases Classical.em (x1 = 7) with c13 | c13
                · have hf := zif_t c13 hf
                  refine lv_tableIn (off := 107) (tgt := 108) hx hb dX8_count_1 (by rw [c13]; decide) (by rw [c13]; decide) (by rw [c13]; decide) (by decide) ?_
                  refine lv_aload_n hx hb dX8_count_108 rfl (lv_at hl 0 rfl) ?_
                  refine x_get (j := 5) (v := .ref (G.2.1 332)) hx hb hts hi8 hown hK hP zkL_0 rfl (by decide) (hts (.fieldLink RX8 41 "LeaseOffice" "tape" "LLeaseOffice$Table;") (by decide +kernel)) rfl (by decide) dX8_count_109 ?_
                  obtain ⟨q4, hq4, hf⟩ := zb_e hf
                  refine x_calli (x_runV (As := []) (rest := []) ⟨hx, hb, hml, hown, hts⟩ (c_X4_size l G hG I J 332 zkL_332 hq4) (cwV 0 hts gX8_count_X4_size rfl rfl rfl (by decide +kernel) ⟨Nat.le_of_ble_eq_true rfl, Nat.le_of_ble_eq_true rfl⟩) hK hP zkL_332 (by decide) rfl rfl hl.1 rfl (Nat.le_of_ble_eq_true rfl) dX8_count_112 ⟨Nat.zero_le _, Nat.zero_le _⟩) hS (fun H locs hP hS => ?_)
                  obtain rfl := Option.some.inj hf
                  exact x_iret hx hb hr hlocks hK hP hS dX8_count_115
                · have hf := zif_f c13 hf
                  rcases Classical.em (x1 = 8) with c14 | c14
                  · have hf := zif_t c14 hf
                    refine lv_tableIn (off := 115) (tgt := 116) hx hb dX8_count_1 (by rw [c14]; decide) (by rw [c14]; decide) (by rw [c14]; decide) (by decide) ?_
                    refine lv_aload_n hx hb dX8_count_116 rfl (lv_at hl 0 rfl) ?_
                    obtain ⟨q5, hq5, hf⟩ := zb_e hf
                    refine x_calli (x_runV (As := []) (rest := []) ⟨hx, hb, hml, hown, hts⟩ (c_X8_holdersInUse l G hG I J hq5) (cwV 0 hts gX8_count_X8_holdersInUse rfl rfl rfl (by decide +kernel) ⟨Nat.le_of_ble_eq_true rfl, Nat.le_of_ble_eq_true rfl⟩) hK hP zkL_0 (by decide) rfl rfl hl.1 rfl (Nat.le_of_ble_eq_true rfl) dX8_count_117 ⟨Nat.zero_le _, Nat.zero_le _⟩) hS (fun H locs hP hS => ?_)
                    obtain rfl := Option.some.inj hf
                    exact x_iret hx hb hr hlocks hK hP hS dX8_count_120
                  · have hf := zif_f c14 hf
                    have hD : W p l e (zrm 2 43) s m args below meth c H locs 0 0 (MQ below (zQi G r I J) args s 0 0 (zA G)) (F0 m 121 ls []) := by
                      refine lv_iconst (v := (-1)) hx hb dX8_count_121 (by decide) ?_
                      obtain rfl := Option.some.inj hf
                      exact x_iret hx hb hr hlocks hK hP hS dX8_count_122
                    rcases z_sw x1 0 8 9 (by decide) with h | ⟨k, hk, e⟩
                    · exact lv_tableOut hx hb dX8_count_1 h (by decide) hD
                    · match k, hk, e with
                      | 0, _, e => exact absurd (e.trans (by decide)) c6
                      | 1, _, e => exact absurd (e.trans (by decide)) c7
                      | 2, _, e => exact absurd (e.trans (by decide)) c8
                      | 3, _, e => exact absurd (e.trans (by decide)) c9
                      | 4, _, e => exact absurd (e.trans (by decide)) c10
                      | 5, _, e => exact absurd (e.trans (by decide)) c11
                      | 6, _, e => exact absurd (e.trans (by decide)) c12
                      | 7, _, e => exact absurd (e.trans (by decide)) c13
                      | 8, _, e => exact absurd (e.trans (by decide)) c14
                      | _ + 9, hk, _ => exact absurd hk (by omega)
set_option maxRecDepth 100000 in
set_option maxHeartbeats 4000000 in
theorem c_X8_days (l : Launch) (G : zGT) (hG : zOK G) (I J : zM) (x1 : Int32) {r : Int32 × zM} (hf : f_X8_days I x1 = some r) : Met l yX8_days wsX8_days (zrm 1 21) (va_Pc [.ref (G.2.1 0), .int x1] (zS G I J)) (zQi G r.1 r.2 J) 0 0 (zA G) := by
  refine zMet (cc := cX8_days) (n := 2) (ret := (some .int)) (by decide) rfl (Nat.le_of_ble_eq_true rfl) ?_
  intro p e s m args below meth c H locs ls F hK hP hS hl
  obtain ⟨hx, hb, hr, hml, hts, hown, hlocks⟩ := F
  have hown : s.vm.findClass RX8 = some m.cls := hown
  have hl : lv_has ls 2 [(0, .ref (G.2.1 0)), (1, .int x1)] := hl
  have hi8 : ∀ w ∈ wsX80, w ∈ wsX8_days := fun _ h => List.mem_cons_of_mem _ (List.mem_append_left _ (List.mem_append_right _ h))
  unfold f_X8_days at hf
  refine lv_aload_n hx hb dX8_days_0 rfl (lv_at hl 0 rfl) ?_
  refine x_get (j := 1) (v := .ref (G.2.1 1)) hx hb hts hi8 hown hK hP zkL_0 rfl (by decide) (hts (.fieldLink RX8 20 "LeaseOffice" "office" "LLeaseOffice$Office;") (by decide +kernel)) rfl (by decide) dX8_days_1 ?_
  refine lv_iload_n hx hb dX8_days_4 rfl (lv_at hl 1 rfl) ?_
  obtain ⟨q1, hq1, hf⟩ := zb_e hf
  refine x_calli (x_runV (As := [.int x1]) (rest := []) ⟨hx, hb, hml, hown, hts⟩ (c_X2_passDays l G hG I J 1 x1 zkL_1 hq1) (cwV 1 hts gX8_days_X2_passDays rfl rfl rfl (by decide +kernel) ⟨Nat.le_of_ble_eq_true rfl, Nat.le_of_ble_eq_true rfl⟩) hK hP zkL_1 (by decide) rfl rfl hl.1 rfl (Nat.le_of_ble_eq_true rfl) dX8_days_5 ⟨Nat.zero_le _, Nat.zero_le _⟩) hS (fun H locs hP hS => ?_)
  obtain rfl := Option.some.inj hf
  exact x_iret hx hb hr hlocks hK hP hS dX8_days_8
set_option maxRecDepth 100000 in
set_option maxHeartbeats 4000000 in
theorem c_X8_entryOf (l : Launch) (G : zGT) (hG : zOK G) (I J : zM) (x0 : Nat) (x1 : Int32) (x2 : Int32) (x3 : Int32) (hk0 : zK x0 = 4) {r : Int32} (hf : f_X8_entryOf I x0 x1 x2 x3 = some r) : Met l yX8_entryOf wsX8_entryOf (zrm 1 23) (va_Pc [.ref (G.2.1 (x0)), .int x1, .int x2, .int x3] (zS G I J)) (zQi G r I J) 0 0 (zA G) := by
  refine zMet (cc := cX8_entryOf) (n := 4) (ret := (some .int)) (by decide) rfl (Nat.le_of_ble_eq_true rfl) ?_
  intro p e s m args below meth c H locs ls F hK hP hS hl
  obtain ⟨hx, hb, hr, hml, hts, hown, hlocks⟩ := F
  have hown : s.vm.findClass RX8 = some m.cls := hown
  have hl : lv_has ls 4 [(0, .ref (G.2.1 (x0))), (1, .int x1), (2, .int x2), (3, .int x3)] := hl
  unfold f_X8_entryOf at hf
  refine lv_iload_n hx hb dX8_entryOf_0 rfl (lv_at hl 1 rfl) ?_
  refine lv_if_lt (tgt := 13) hx hb dX8_entryOf_1 (by decide) (fun c1 => ?_) (fun c1 => ?_)
  · have hf := zif_t c1 hf
    refine lv_iconst (v := (-1)) hx hb dX8_entryOf_13 (by decide) ?_
    obtain rfl := Option.some.inj hf
    exact x_iret hx hb hr hlocks hK hP hS dX8_entryOf_14
  · have hf := zif_f c1 hf
    refine lv_iload_n hx hb dX8_entryOf_4 rfl (lv_at hl 2 rfl) ?_
    refine lv_if_lt (tgt := 13) hx hb dX8_entryOf_5 (by decide) (fun c2 => ?_) (fun c2 => ?_)
    · have hf := zif_t c2 hf
      refine lv_iconst (v := (-1)) hx hb dX8_entryOf_13 (by decide) ?_
      obtain rfl := Option.some.inj hf
      exact x_iret hx hb hr hlocks hK hP hS dX8_entryOf_14
    · have hf := zif_f c2 hf
      refine lv_iload_n hx hb dX8_entryOf_8 rfl (lv_at hl 2 rfl) ?_
      refine lv_iload_n hx hb dX8_entryOf_9 rfl (lv_at hl 3 rfl) ?_
      refine lv_icmp_le (tgt := 15) hx hb dX8_entryOf_10 (by decide) (fun c3 => ?_) (fun c3 => ?_)
      · have hf := zif_t c3 hf
        refine lv_iload_n hx hb dX8_entryOf_15 rfl (lv_at hl 1 rfl) ?_
        refine lv_aload_n hx hb dX8_entryOf_16 rfl (lv_at hl 0 rfl) ?_
        obtain ⟨q4, hq4, hf⟩ := zb_e hf
        refine x_calli (x_runV (As := []) (rest := [.int x1]) ⟨hx, hb, hml, hown, hts⟩ (c_X4_size l G hG I J x0 hk0 hq4) (cwV 0 hts gX8_entryOf_X4_size rfl rfl rfl (by decide +kernel) ⟨Nat.le_of_ble_eq_true rfl, Nat.le_of_ble_eq_true rfl⟩) hK hP hk0 (by decide) rfl rfl hl.1 rfl (Nat.le_of_ble_eq_true rfl) dX8_entryOf_17 ⟨Nat.zero_le _, Nat.zero_le _⟩) hS (fun H locs hP hS => ?_)
        refine lv_icmp_ge (tgt := 32) hx hb dX8_entryOf_20 (by decide) (fun c5 => ?_) (fun c5 => ?_)
        · have hf := zif_t c5 hf
          refine lv_bipush (v := (-2)) hx hb dX8_entryOf_32 (by decide) ?_
          obtain rfl := Option.some.inj hf
          exact x_iret hx hb hr hlocks hK hP hS dX8_entryOf_34
        · have hf := zif_f c5 hf
          refine lv_aload_n hx hb dX8_entryOf_23 rfl (lv_at hl 0 rfl) ?_
          refine lv_iload_n hx hb dX8_entryOf_24 rfl (lv_at hl 1 rfl) ?_
          refine lv_iload_n hx hb dX8_entryOf_25 rfl (lv_at hl 2 rfl) ?_
          obtain ⟨q6, hq6, hf⟩ := zb_e hf
          refine x_calli (x_runV (As := [.int x1, .int x2]) (rest := []) ⟨hx, hb, hml, hown, hts⟩ (c_X4_cell l G hG I J x0 x1 x2 hk0 hq6) (cwV 2 hts gX8_entryOf_X4_cell rfl rfl rfl (by decide +kernel) ⟨Nat.le_of_ble_eq_true rfl, Nat.le_of_ble_eq_true rfl⟩) hK hP hk0 (by decide) rfl rfl hl.1 rfl (Nat.le_of_ble_eq_true rfl) dX8_entryOf_26 ⟨Nat.zero_le _, Nat.zero_le _⟩) hS (fun H locs hP hS => ?_)
          refine lv_goto (tgt := 34) hx hb dX8_entryOf_29 (by decide) ?_
          obtain rfl := Option.some.inj hf
          exact x_iret hx hb hr hlocks hK hP hS dX8_entryOf_34
      · have hf := zif_f c3 hf
        refine lv_iconst (v := (-1)) hx hb dX8_entryOf_13 (by decide) ?_
        obtain rfl := Option.some.inj hf
        exact x_iret hx hb hr hlocks hK hP hS dX8_entryOf_14
set_option maxRecDepth 100000 in
set_option maxHeartbeats 4000000 in
theorem c_X8_fund (l : Launch) (G : zGT) (hG : zOK G) (I J : zM) (x1 : Int32) (x2 : Int32) {r : Int32 × zM} (hf : f_X8_fund I x1 x2 = some r) : Met l yX8_fund wsX8_fund (zrm 2 46) (va_Pc [.ref (G.2.1 0), .int x1, .int x2] (zS G I J)) (zQi G r.1 r.2 J) 0 0 (zA G) := by
  refine zMet (cc := cX8_fund) (n := 3) (ret := (some .int)) (by decide) rfl (Nat.le_of_ble_eq_true rfl) ?_
  intro p e s m args below meth c H locs ls F hK hP hS hl
  obtain ⟨hx, hb, hr, hml, hts, hown, hlocks⟩ := F
  have hown : s.vm.findClass RX8 = some m.cls := hown
  have hl : lv_has ls 3 [(0, .ref (G.2.1 0)), (1, .int x1), (2, .int x2)] := hl
  have hi8 : ∀ w ∈ wsX80, w ∈ wsX8_fund := fun _ h => List.mem_cons_of_mem _ (List.mem_append_left _ (List.mem_append_left _ (List.mem_append_right _ h)))
  unfold f_X8_fund at hf
  refine lv_aload_n hx hb dX8_fund_0 rfl (lv_at hl 0 rfl) ?_
  refine x_get (j := 1) (v := .ref (G.2.1 1)) hx hb hts hi8 hown hK hP zkL_0 rfl (by decide) (hts (.fieldLink RX8 20 "LeaseOffice" "office" "LLeaseOffice$Office;") (by decide +kernel)) rfl (by decide) dX8_fund_1 ?_
  refine lv_iload_n hx hb dX8_fund_4 rfl (lv_at hl 1 rfl) ?_
  refine lv_iload_n hx hb dX8_fund_5 rfl (lv_at hl 2 rfl) ?_
  obtain ⟨q1, hq1, hf⟩ := zb_e hf
  refine x_calli (x_runV (As := [.int x1, .int x2]) (rest := []) ⟨hx, hb, hml, hown, hts⟩ (c_X2_bringCoins l G hG I J 1 x1 x2 zkL_1 hq1) (cwV 2 hts gX8_fund_X2_bringCoins rfl rfl rfl (by decide +kernel) ⟨Nat.le_of_ble_eq_true rfl, Nat.le_of_ble_eq_true rfl⟩) hK hP zkL_1 (by decide) rfl rfl hl.1 rfl (Nat.le_of_ble_eq_true rfl) dX8_fund_6 ⟨Nat.zero_le _, Nat.zero_le _⟩) hS (fun H locs hP hS => ?_)
  obtain rfl := Option.some.inj hf
  exact x_iret hx hb hr hlocks hK hP hS dX8_fund_9
set_option maxRecDepth 100000 in
set_option maxHeartbeats 4000000 in
theorem c_X8_image (l : Launch) (G : zGT) (hG : zOK G) (I J : zM) {r : Int32 × zM} (hf : f_X8_image I = some r) : Met l yX8_image wsX8_image (zrm 4 90) (va_Pc [.ref (G.2.1 0)] (zS G I J)) (zQi G r.1 r.2 J) 0 0 (zA G) := by
  refine zMet (cc := cX8_image) (n := 1) (ret := (some .int)) (by decide) rfl (Nat.le_of_ble_eq_true rfl) ?_
  intro p e s m args below meth c H locs ls F hK hP hS hl
  obtain ⟨hx, hb, hr, hml, hts, hown, hlocks⟩ := F
  have hown : s.vm.findClass RX8 = some m.cls := hown
  have hl : lv_has ls 1 [(0, .ref (G.2.1 0))] := hl
  have hi2 : ∀ w ∈ wsX20, w ∈ wsX8_image := fun _ h => List.mem_cons_of_mem _ (List.mem_append_left _ (List.mem_append_left _ (List.mem_append_left _ (List.mem_append_right _ h))))
  have hi8 : ∀ w ∈ wsX80, w ∈ wsX8_image := fun _ h => List.mem_cons_of_mem _ (List.mem_append_left _ (List.mem_append_left _ (List.mem_append_left _ (List.mem_append_left _ (List.mem_append_right _ h)))))
  unfold f_X8_image at hf
  refine lv_aload_n hx hb dX8_image_0 rfl (lv_at hl 0 rfl) ?_
  refine x_get (j := 2) (v := .ref (G.2.1 110)) hx hb hts hi8 hown hK hP zkL_0 rfl (by decide) (hts (.fieldLink RX8 24 "LeaseOffice" "imageKept" "LLeaseOffice$Office;") (by decide +kernel)) rfl (by decide) dX8_image_1 ?_
  refine lv_aload_n hx hb dX8_image_4 rfl (lv_at hl 0 rfl) ?_
  refine x_get (j := 1) (v := .ref (G.2.1 1)) hx hb hts hi8 hown hK hP zkL_0 rfl (by decide) (hts (.fieldLink RX8 20 "LeaseOffice" "office" "LLeaseOffice$Office;") (by decide +kernel)) rfl (by decide) dX8_image_5 ?_
  obtain ⟨q1, hq1, hf⟩ := zb_e hf
  refine x_callv (x_runV (As := [.ref (G.2.1 1)]) (rest := []) ⟨hx, hb, hml, hown, hts⟩ (c_X2_copyFrom l G hG I J 110 1 zkL_110 zkL_1 hq1) (cwV 1 hts gX8_image_X2_copyFrom rfl rfl rfl (by decide +kernel) ⟨Nat.le_of_ble_eq_true rfl, Nat.le_of_ble_eq_true rfl⟩) hK hP zkL_110 (by decide) rfl rfl hl.1 rfl (Nat.le_of_ble_eq_true rfl) dX8_image_8 ⟨Nat.zero_le _, Nat.zero_le _⟩) hS (fun H locs hP hS => ?_)
  refine lv_aload_n hx hb dX8_image_11 rfl (lv_at hl 0 rfl) ?_
  refine lv_iconst (v := 1) hx hb dX8_image_12 (by decide) ?_
  obtain ⟨M2, eM2, hf⟩ := zlet_e hf
  refine x_put (j := 8) (I2 := M2) (J2 := J) (ty0 := tyX8) (ty := .boolean) hx hb hts hi8 hown hG hK hP hS zkL_0 rfl tyX8_ok nmX8 (by decide) (hts (.fieldLink RX8 269 "LeaseOffice" "hasImage" "Z") (by decide +kernel)) rfl (by decide +kernel) rfl rfl (Nat.le_of_ble_eq_true rfl) (by rw [eM2]; exact zs_8_8 _) (by rw [eM2]; exact zo_C) (by decide) dX8_image_13 (fun H locs hP hS => ?_)
  refine lv_aload_n hx hb dX8_image_16 rfl (lv_at hl 0 rfl) ?_
  refine x_get (j := 1) (v := .ref (G.2.1 1)) hx hb hts hi8 hown hK hP zkL_0 rfl (by decide) (hts (.fieldLink RX8 20 "LeaseOffice" "office" "LLeaseOffice$Office;") (by decide +kernel)) rfl (by decide) dX8_image_17 ?_
  refine x_get (j := 7) (v := .int (M2 1 7)) hx hb hts hi2 hown hK hP zkL_1 rfl (by decide) (hts (.fieldLink RX8 195 "LeaseOffice$Office" "day" "I") (by decide +kernel)) rfl (by decide) dX8_image_20 ?_
  obtain rfl := Option.some.inj hf
  exact x_iret hx hb hr hlocks hK hP hS dX8_image_23
set_option maxRecDepth 100000 in
set_option maxHeartbeats 4000000 in
theorem c_X8_lease (l : Launch) (G : zGT) (hG : zOK G) (I J : zM) (x1 : Int32) (x2 : Int32) (x3 : Int32) {r : Int32 × zM} (hf : f_X8_lease I x1 x2 x3 = some r) : Met l yX8_lease wsX8_lease (zrm 4 94) (va_Pc [.ref (G.2.1 0), .int x1, .int x2, .int x3] (zS G I J)) (zQi G r.1 r.2 J) 0 0 (zA G) := by
  refine zMet (cc := cX8_lease) (n := 4) (ret := (some .int)) (by decide) rfl (Nat.le_of_ble_eq_true rfl) ?_
  intro p e s m args below meth c H locs ls F hK hP hS hl
  obtain ⟨hx, hb, hr, hml, hts, hown, hlocks⟩ := F
  have hown : s.vm.findClass RX8 = some m.cls := hown
  have hl : lv_has ls 4 [(0, .ref (G.2.1 0)), (1, .int x1), (2, .int x2), (3, .int x3)] := hl
  have hi8 : ∀ w ∈ wsX80, w ∈ wsX8_lease := fun _ h => List.mem_cons_of_mem _ (List.mem_append_left _ (List.mem_append_left _ (List.mem_append_left _ (List.mem_append_left _ (List.mem_append_right _ h)))))
  unfold f_X8_lease at hf
  refine lv_aload_n hx hb dX8_lease_0 rfl (lv_at hl 0 rfl) ?_
  refine x_get (j := 1) (v := .ref (G.2.1 1)) hx hb hts hi8 hown hK hP zkL_0 rfl (by decide) (hts (.fieldLink RX8 20 "LeaseOffice" "office" "LLeaseOffice$Office;") (by decide +kernel)) rfl (by decide) dX8_lease_1 ?_
  refine lv_iload_n hx hb dX8_lease_4 rfl (lv_at hl 1 rfl) ?_
  refine lv_iload_n hx hb dX8_lease_5 rfl (lv_at hl 2 rfl) ?_
  refine lv_iload_n hx hb dX8_lease_6 rfl (lv_at hl 3 rfl) ?_
  obtain ⟨q1, hq1, hf⟩ := zb_e hf
  refine x_calli (x_runV (As := [.int x1, .int x2, .int x3]) (rest := []) ⟨hx, hb, hml, hown, hts⟩ (c_X2_leaseTo l G hG I J 1 x1 x2 x3 zkL_1 hq1) (cwV 3 hts gX8_lease_X2_leaseTo rfl rfl rfl (by decide +kernel) ⟨Nat.le_of_ble_eq_true rfl, Nat.le_of_ble_eq_true rfl⟩) hK hP zkL_1 (by decide) rfl rfl hl.1 rfl (Nat.le_of_ble_eq_true rfl) dX8_lease_7 ⟨Nat.zero_le _, Nat.zero_le _⟩) hS (fun H locs hP hS => ?_)
  obtain rfl := Option.some.inj hf
  exact x_iret hx hb hr hlocks hK hP hS dX8_lease_10
set_option maxRecDepth 100000 in
set_option maxHeartbeats 4000000 in
theorem c_X8_link (l : Launch) (G : zGT) (hG : zOK G) (I J : zM) (x1 : Int32) (x2 : Int32) (x3 : Int32) {r : Int32} (hf : f_X8_link I x1 x2 x3 = some r) : Met l yX8_link wsX8_link (zrm 2 46) (va_Pc [.ref (G.2.1 0), .int x1, .int x2, .int x3] (zS G I J)) (zQi G r I J) 0 0 (zA G) := by
  refine zMet (cc := cX8_link) (n := 4) (ret := (some .int)) (by decide) rfl (Nat.le_of_ble_eq_true rfl) ?_
  intro p e s m args below meth c H locs ls F hK hP hS hl
  obtain ⟨hx, hb, hr, hml, hts, hown, hlocks⟩ := F
  have hown : s.vm.findClass RX8 = some m.cls := hown
  have hl : lv_has ls 4 [(0, .ref (G.2.1 0)), (1, .int x1), (2, .int x2), (3, .int x3)] := hl
  have hi7 : ∀ w ∈ wsX70, w ∈ wsX8_link := fun _ h => List.mem_cons_of_mem _ (List.mem_append_left _ (List.mem_append_left _ (List.mem_append_right _ h)))
  have hi8 : ∀ w ∈ wsX80, w ∈ wsX8_link := fun _ h => List.mem_cons_of_mem _ (List.mem_append_left _ (List.mem_append_left _ (List.mem_append_left _ (List.mem_append_right _ h))))
  unfold f_X8_link at hf
  refine lv_aload_n hx hb dX8_link_0 rfl (lv_at hl 0 rfl) ?_
  refine x_get (j := 1) (v := .ref (G.2.1 1)) hx hb hts hi8 hown hK hP zkL_0 rfl (by decide) (hts (.fieldLink RX8 20 "LeaseOffice" "office" "LLeaseOffice$Office;") (by decide +kernel)) rfl (by decide) dX8_link_1 ?_
  refine lv_iload_n hx hb dX8_link_4 rfl (lv_at hl 1 rfl) ?_
  obtain ⟨q1, hq1, hf⟩ := zb_e hf
  refine x_calli (x_runV (As := [.int x1]) (rest := []) ⟨hx, hb, hml, hown, hts⟩ (c_X2_isTool l G hG I J 1 x1 zkL_1 hq1) (cwV 1 hts gX8_link_X2_isTool rfl rfl rfl (by decide +kernel) ⟨Nat.le_of_ble_eq_true rfl, Nat.le_of_ble_eq_true rfl⟩) hK hP zkL_1 (by decide) rfl rfl hl.1 rfl (Nat.le_of_ble_eq_true rfl) dX8_link_5 ⟨Nat.zero_le _, Nat.zero_le _⟩) hS (fun H locs hP hS => ?_)
  refine lv_if_eq (tgt := 31) hx hb dX8_link_8 (by decide) (fun c2 => ?_) (fun c2 => ?_)
  · have hf := zif_t c2 hf
    refine lv_iconst (v := (-1)) hx hb dX8_link_31 (by decide) ?_
    obtain rfl := Option.some.inj hf
    exact x_iret hx hb hr hlocks hK hP hS dX8_link_32
  · have hf := zif_f c2 hf
    refine lv_aload_n hx hb dX8_link_11 rfl (lv_at hl 0 rfl) ?_
    refine x_get (j := 1) (v := .ref (G.2.1 1)) hx hb hts hi8 hown hK hP zkL_0 rfl (by decide) (hts (.fieldLink RX8 20 "LeaseOffice" "office" "LLeaseOffice$Office;") (by decide +kernel)) rfl (by decide) dX8_link_12 ?_
    refine lv_iload_n hx hb dX8_link_15 rfl (lv_at hl 1 rfl) ?_
    obtain ⟨q3, hq3, hf⟩ := zb_e hf
    refine x_callr (x_runV (As := [.int x1]) (rest := []) ⟨hx, hb, hml, hown, hts⟩ (c_X2_toolAt l G hG I J 1 x1 zkL_1 hq3) (cwV 1 hts gX8_link_X2_toolAt rfl rfl rfl (by decide +kernel) ⟨Nat.le_of_ble_eq_true rfl, Nat.le_of_ble_eq_true rfl⟩) hK hP zkL_1 (by decide) rfl rfl hl.1 rfl (Nat.le_of_ble_eq_true rfl) dX8_link_16 ⟨Nat.zero_le _, Nat.zero_le _⟩) hS (fun H locs hP hS => ?_)
    refine x_get (j := 7) (v := .ref (G.2.1 (q3 + 1))) hx hb hts hi7 hown hK hP (kd_X2_toolAt zkL_1 hq3) rfl (by decide) (hts (.fieldLink RX8 139 "LeaseOffice$Tool" "links" "LLeaseOffice$Table;") (by decide +kernel)) rfl (by decide) dX8_link_19 ?_
    refine lv_iload_n hx hb dX8_link_22 rfl (lv_at hl 2 rfl) ?_
    refine lv_iload_n hx hb dX8_link_23 rfl (lv_at hl 3 rfl) ?_
    refine lv_iconst (v := 2) hx hb dX8_link_24 (by decide) ?_
    obtain ⟨q4, hq4, hf⟩ := zb_e hf
    refine x_calli (x_runS (As := [.ref (G.2.1 (q3 + 1)), .int x2, .int x3, .int 2]) (rest := []) ⟨hx, hb, hml, hown, hts⟩ (c_X8_entryOf l G hG I J (q3 + 1) x2 x3 2 (zk_7_7 (kd_X2_toolAt zkL_1 hq3)) hq4) (va_cwS 4 hts gX8_link_X8_entryOf rfl rfl rfl (by decide +kernel) ⟨Nat.le_of_ble_eq_true rfl, Nat.le_of_ble_eq_true rfl⟩) hK hP rfl hl.1 rfl (Nat.le_of_ble_eq_true rfl) dX8_link_25 ⟨Nat.zero_le _, Nat.zero_le _⟩) hS (fun H locs hP hS => ?_)
    refine lv_goto (tgt := 32) hx hb dX8_link_28 (by decide) ?_
    obtain rfl := Option.some.inj hf
    exact x_iret hx hb hr hlocks hK hP hS dX8_link_32
set_option maxRecDepth 100000 in
set_option maxHeartbeats 4000000 in
theorem c_X8_look (l : Launch) (G : zGT) (hG : zOK G) (I J : zM) (x1 : Int32) {r : Int32 × zM} (hf : f_X8_look I x1 = some r) : Met l yX8_look wsX8_look (zrm 4 96) (va_Pc [.ref (G.2.1 0), .int x1] (zS G I J)) (zQi G r.1 r.2 J) 0 0 (zA G) := by
  refine zMet (cc := cX8_look) (n := 2) (ret := (some .int)) (by decide) rfl (Nat.le_of_ble_eq_true rfl) ?_
  intro p e s m args below meth c H locs ls F hK hP hS hl
  obtain ⟨hx, hb, hr, hml, hts, hown, hlocks⟩ := F
  have hown : s.vm.findClass RX8 = some m.cls := hown
  have hl : lv_has ls 2 [(0, .ref (G.2.1 0)), (1, .int x1)] := hl
  have hi8 : ∀ w ∈ wsX80, w ∈ wsX8_look := fun _ h => List.mem_cons_of_mem _ (List.mem_append_left _ (List.mem_append_left _ (List.mem_append_left _ (List.mem_append_left _ (List.mem_append_left _ (List.mem_append_right _ h))))))
  unfold f_X8_look at hf
  refine lv_aload_n hx hb dX8_look_0 rfl (lv_at hl 0 rfl) ?_
  refine x_get (j := 1) (v := .ref (G.2.1 1)) hx hb hts hi8 hown hK hP zkL_0 rfl (by decide) (hts (.fieldLink RX8 20 "LeaseOffice" "office" "LLeaseOffice$Office;") (by decide +kernel)) rfl (by decide) dX8_look_1 ?_
  refine lv_iload_n hx hb dX8_look_4 rfl (lv_at hl 1 rfl) ?_
  obtain ⟨q1, hq1, hf⟩ := zb_e hf
  refine x_calli (x_runV (As := [.int x1]) (rest := []) ⟨hx, hb, hml, hown, hts⟩ (c_X2_lookAt l G hG I J 1 x1 zkL_1 hq1) (cwV 1 hts gX8_look_X2_lookAt rfl rfl rfl (by decide +kernel) ⟨Nat.le_of_ble_eq_true rfl, Nat.le_of_ble_eq_true rfl⟩) hK hP zkL_1 (by decide) rfl rfl hl.1 rfl (Nat.le_of_ble_eq_true rfl) dX8_look_5 ⟨Nat.zero_le _, Nat.zero_le _⟩) hS (fun H locs hP hS => ?_)
  obtain rfl := Option.some.inj hf
  exact x_iret hx hb hr hlocks hK hP hS dX8_look_8
set_option maxRecDepth 100000 in
set_option maxHeartbeats 4000000 in
theorem c_X8_pass (l : Launch) (G : zGT) (hG : zOK G) (I J : zM) (x1 : Int32) (x2 : Int32) {r : Int32 × zM} (hf : f_X8_pass I x1 x2 = some r) : Met l yX8_pass wsX8_pass (zrm 4 93) (va_Pc [.ref (G.2.1 0), .int x1, .int x2] (zS G I J)) (zQi G r.1 r.2 J) 0 0 (zA G) := by
  refine zMet (cc := cX8_pass) (n := 3) (ret := (some .int)) (by decide) rfl (Nat.le_of_ble_eq_true rfl) ?_
  intro p e s m args below meth c H locs ls F hK hP hS hl
  obtain ⟨hx, hb, hr, hml, hts, hown, hlocks⟩ := F
  have hown : s.vm.findClass RX8 = some m.cls := hown
  have hl : lv_has ls 3 [(0, .ref (G.2.1 0)), (1, .int x1), (2, .int x2)] := hl
  have hi8 : ∀ w ∈ wsX80, w ∈ wsX8_pass := fun _ h => List.mem_cons_of_mem _ (List.mem_append_left _ (List.mem_append_left _ (List.mem_append_left _ (List.mem_append_left _ (List.mem_append_right _ h)))))
  unfold f_X8_pass at hf
  refine lv_aload_n hx hb dX8_pass_0 rfl (lv_at hl 0 rfl) ?_
  refine x_get (j := 1) (v := .ref (G.2.1 1)) hx hb hts hi8 hown hK hP zkL_0 rfl (by decide) (hts (.fieldLink RX8 20 "LeaseOffice" "office" "LLeaseOffice$Office;") (by decide +kernel)) rfl (by decide) dX8_pass_1 ?_
  refine lv_iload_n hx hb dX8_pass_4 rfl (lv_at hl 1 rfl) ?_
  refine lv_iload_n hx hb dX8_pass_5 rfl (lv_at hl 2 rfl) ?_
  obtain ⟨q1, hq1, hf⟩ := zb_e hf
  refine x_calli (x_runV (As := [.int x1, .int x2]) (rest := []) ⟨hx, hb, hml, hown, hts⟩ (c_X2_passOn l G hG I J 1 x1 x2 zkL_1 hq1) (cwV 2 hts gX8_pass_X2_passOn rfl rfl rfl (by decide +kernel) ⟨Nat.le_of_ble_eq_true rfl, Nat.le_of_ble_eq_true rfl⟩) hK hP zkL_1 (by decide) rfl rfl hl.1 rfl (Nat.le_of_ble_eq_true rfl) dX8_pass_6 ⟨Nat.zero_le _, Nat.zero_le _⟩) hS (fun H locs hP hS => ?_)
  obtain rfl := Option.some.inj hf
  exact x_iret hx hb hr hlocks hK hP hS dX8_pass_9
set_option maxRecDepth 100000 in
set_option maxHeartbeats 4000000 in
theorem c_X8_person (l : Launch) (G : zGT) (hG : zOK G) (I J : zM) (x1 : Int32) (x2 : Int32) {r : Int32 × zM} (hf : f_X8_person I x1 x2 = some r) : Met l yX8_person wsX8_person (zrm 2 46) (va_Pc [.ref (G.2.1 0), .int x1, .int x2] (zS G I J)) (zQi G r.1 r.2 J) 0 0 (zA G) := by
  refine zMet (cc := cX8_person) (n := 3) (ret := (some .int)) (by decide) rfl (Nat.le_of_ble_eq_true rfl) ?_
  intro p e s m args below meth c H locs ls F hK hP hS hl
  obtain ⟨hx, hb, hr, hml, hts, hown, hlocks⟩ := F
  have hown : s.vm.findClass RX8 = some m.cls := hown
  have hl : lv_has ls 3 [(0, .ref (G.2.1 0)), (1, .int x1), (2, .int x2)] := hl
  have hi8 : ∀ w ∈ wsX80, w ∈ wsX8_person := fun _ h => List.mem_cons_of_mem _ (List.mem_append_left _ (List.mem_append_left _ (List.mem_append_right _ h)))
  unfold f_X8_person at hf
  refine lv_aload_n hx hb dX8_person_0 rfl (lv_at hl 0 rfl) ?_
  refine x_get (j := 1) (v := .ref (G.2.1 1)) hx hb hts hi8 hown hK hP zkL_0 rfl (by decide) (hts (.fieldLink RX8 20 "LeaseOffice" "office" "LLeaseOffice$Office;") (by decide +kernel)) rfl (by decide) dX8_person_1 ?_
  refine lv_iload_n hx hb dX8_person_4 rfl (lv_at hl 1 rfl) ?_
  refine lv_iload_n hx hb dX8_person_5 rfl (lv_at hl 2 rfl) ?_
  obtain ⟨q1, hq1, hf⟩ := zb_e hf
  refine x_calli (x_runV (As := [.int x1, .int x2]) (rest := []) ⟨hx, hb, hml, hown, hts⟩ (c_X2_enterPerson l G hG I J 1 x1 x2 zkL_1 hq1) (cwV 2 hts gX8_person_X2_enterPerson rfl rfl rfl (by decide +kernel) ⟨Nat.le_of_ble_eq_true rfl, Nat.le_of_ble_eq_true rfl⟩) hK hP zkL_1 (by decide) rfl rfl hl.1 rfl (Nat.le_of_ble_eq_true rfl) dX8_person_6 ⟨Nat.zero_le _, Nat.zero_le _⟩) hS (fun H locs hP hS => ?_)
  obtain rfl := Option.some.inj hf
  exact x_iret hx hb hr hlocks hK hP hS dX8_person_9
set_option maxRecDepth 100000 in
set_option maxHeartbeats 4000000 in
theorem c_X8_personOf (l : Launch) (G : zGT) (hG : zOK G) (I J : zM) (x1 : Int32) (x2 : Int32) {r : Int32} (hf : f_X8_personOf I x1 x2 = some r) : Met l yX8_personOf wsX8_personOf (zrm 3 68) (va_Pc [.ref (G.2.1 0), .int x1, .int x2] (zS G I J)) (zQi G r I J) 0 0 (zA G) := by
  refine zMet (cc := cX8_personOf) (n := 4) (ret := (some .int)) (by decide) rfl (Nat.le_of_ble_eq_true rfl) ?_
  intro p e s m args below meth c H locs ls F hK hP hS hl
  obtain ⟨hx, hb, hr, hml, hts, hown, hlocks⟩ := F
  have hown : s.vm.findClass RX8 = some m.cls := hown
  have hl : lv_has ls 4 [(0, .ref (G.2.1 0)), (1, .int x1), (2, .int x2)] := hl
  have hi3 : ∀ w ∈ wsX30, w ∈ wsX8_personOf := fun _ h => List.mem_cons_of_mem _ (List.mem_append_left _ (List.mem_append_left _ (List.mem_append_left _ (List.mem_append_right _ h))))
  have hi8 : ∀ w ∈ wsX80, w ∈ wsX8_personOf := fun _ h => List.mem_cons_of_mem _ (List.mem_append_left _ (List.mem_append_left _ (List.mem_append_left _ (List.mem_append_left _ (List.mem_append_right _ h)))))
  unfold f_X8_personOf at hf
  refine lv_aload_n hx hb dX8_personOf_0 rfl (lv_at hl 0 rfl) ?_
  refine x_get (j := 1) (v := .ref (G.2.1 1)) hx hb hts hi8 hown hK hP zkL_0 rfl (by decide) (hts (.fieldLink RX8 20 "LeaseOffice" "office" "LLeaseOffice$Office;") (by decide +kernel)) rfl (by decide) dX8_personOf_1 ?_
  refine lv_iload_n hx hb dX8_personOf_4 rfl (lv_at hl 1 rfl) ?_
  obtain ⟨q1, hq1, hf⟩ := zb_e hf
  refine x_calli (x_runV (As := [.int x1]) (rest := []) ⟨hx, hb, hml, hown, hts⟩ (c_X2_isPerson l G hG I J 1 x1 zkL_1 hq1) (cwV 1 hts gX8_personOf_X2_isPerson rfl rfl rfl (by decide +kernel) ⟨Nat.le_of_ble_eq_true rfl, Nat.le_of_ble_eq_true rfl⟩) hK hP zkL_1 (by decide) rfl rfl hl.1 rfl (Nat.le_of_ble_eq_true rfl) dX8_personOf_5 ⟨Nat.zero_le _, Nat.zero_le _⟩) hS (fun H locs hP hS => ?_)
  refine lv_if_ne (tgt := 13) hx hb dX8_personOf_8 (by decide) (fun c2 => ?_) (fun c2 => ?_)
  · have hf := zif_f c2 hf
    refine lv_aload_n hx hb dX8_personOf_13 rfl (lv_at hl 0 rfl) ?_
    refine x_get (j := 1) (v := .ref (G.2.1 1)) hx hb hts hi8 hown hK hP zkL_0 rfl (by decide) (hts (.fieldLink RX8 20 "LeaseOffice" "office" "LLeaseOffice$Office;") (by decide +kernel)) rfl (by decide) dX8_personOf_14 ?_
    refine lv_iload_n hx hb dX8_personOf_17 rfl (lv_at hl 1 rfl) ?_
    obtain ⟨q3, hq3, hf⟩ := zb_e hf
    refine x_callr (x_runV (As := [.int x1]) (rest := []) ⟨hx, hb, hml, hown, hts⟩ (c_X2_personAt l G hG I J 1 x1 zkL_1 hq3) (cwV 1 hts gX8_personOf_X2_personAt rfl rfl rfl (by decide +kernel) ⟨Nat.le_of_ble_eq_true rfl, Nat.le_of_ble_eq_true rfl⟩) hK hP zkL_1 (by decide) rfl rfl hl.1 rfl (Nat.le_of_ble_eq_true rfl) dX8_personOf_18 ⟨Nat.zero_le _, Nat.zero_le _⟩) hS (fun H locs hP hS => ?_)
    refine lv_astore_n (lv' := [(3, .ref (G.2.1 (q3))), (0, .ref (G.2.1 0)), (1, .int x1), (2, .int x2)]) hx hb dX8_personOf_21 rfl hl (by decide) rfl (fun ls hl => ?_)
    refine lv_iload_n hx hb dX8_personOf_22 rfl (lv_at hl 3 rfl) ?_
    rcases Classical.em (x2 = 0) with c7 | c7
    · have hf := zif_t c7 hf
      refine lv_tableIn (off := 45) (tgt := 68) hx hb dX8_personOf_23 (by rw [c7]; decide) (by rw [c7]; decide) (by rw [c7]; decide) (by decide) ?_
      refine lv_aload_n hx hb dX8_personOf_68 rfl (lv_at hl 0 rfl) ?_
      refine x_get (j := 0) (v := .int (I q3 0)) hx hb hts hi3 hown hK hP (kd_X2_personAt zkL_1 hq3) rfl (by decide) (hts (.fieldLink RX8 76 "LeaseOffice$Person" "name" "I") (by decide +kernel)) rfl (by decide) dX8_personOf_69 ?_
      obtain rfl := Option.some.inj hf
      exact x_iret hx hb hr hlocks hK hP hS dX8_personOf_72
    · have hf := zif_f c7 hf
      rcases Classical.em (x2 = 1) with c8 | c8
      · have hf := zif_t c8 hf
        refine lv_tableIn (off := 50) (tgt := 73) hx hb dX8_personOf_23 (by rw [c8]; decide) (by rw [c8]; decide) (by rw [c8]; decide) (by decide) ?_
        refine lv_aload_n hx hb dX8_personOf_73 rfl (lv_at hl 0 rfl) ?_
        refine x_get (j := 1) (v := .int (I q3 1)) hx hb hts hi3 hown hK hP (kd_X2_personAt zkL_1 hq3) rfl (by decide) (hts (.fieldLink RX8 82 "LeaseOffice$Person" "purse" "I") (by decide +kernel)) rfl (by decide) dX8_personOf_74 ?_
        obtain rfl := Option.some.inj hf
        exact x_iret hx hb hr hlocks hK hP hS dX8_personOf_77
      · have hf := zif_f c8 hf
        rcases Classical.em (x2 = 2) with c9 | c9
        · have hf := zif_t c9 hf
          refine lv_tableIn (off := 55) (tgt := 78) hx hb dX8_personOf_23 (by rw [c9]; decide) (by rw [c9]; decide) (by rw [c9]; decide) (by decide) ?_
          refine lv_aload_n hx hb dX8_personOf_78 rfl (lv_at hl 0 rfl) ?_
          refine x_get (j := 2) (v := .int (I q3 2)) hx hb hts hi3 hown hK hP (kd_X2_personAt zkL_1 hq3) rfl (by decide) (hts (.fieldLink RX8 85 "LeaseOffice$Person" "trust" "I") (by decide +kernel)) rfl (by decide) dX8_personOf_79 ?_
          obtain rfl := Option.some.inj hf
          exact x_iret hx hb hr hlocks hK hP hS dX8_personOf_82
        · have hf := zif_f c9 hf
          rcases Classical.em (x2 = 3) with c10 | c10
          · have hf := zif_t c10 hf
            refine lv_tableIn (off := 60) (tgt := 83) hx hb dX8_personOf_23 (by rw [c10]; decide) (by rw [c10]; decide) (by rw [c10]; decide) (by decide) ?_
            refine lv_aload_n hx hb dX8_personOf_83 rfl (lv_at hl 0 rfl) ?_
            refine x_get (j := 3) (v := .int (I q3 3)) hx hb hts hi3 hown hK hP (kd_X2_personAt zkL_1 hq3) rfl (by decide) (hts (.fieldLink RX8 88 "LeaseOffice$Person" "late" "I") (by decide +kernel)) rfl (by decide) dX8_personOf_84 ?_
            obtain rfl := Option.some.inj hf
            exact x_iret hx hb hr hlocks hK hP hS dX8_personOf_87
          · have hf := zif_f c10 hf
            rcases Classical.em (x2 = 4) with c11 | c11
            · have hf := zif_t c11 hf
              refine lv_tableIn (off := 65) (tgt := 88) hx hb dX8_personOf_23 (by rw [c11]; decide) (by rw [c11]; decide) (by rw [c11]; decide) (by decide) ?_
              refine lv_aload_n hx hb dX8_personOf_88 rfl (lv_at hl 0 rfl) ?_
              refine x_get (j := 4) (v := .int (I q3 4)) hx hb hts hi3 hown hK hP (kd_X2_personAt zkL_1 hq3) rfl (by decide) (hts (.fieldLink RX8 91 "LeaseOffice$Person" "debt" "I") (by decide +kernel)) rfl (by decide) dX8_personOf_89 ?_
              obtain rfl := Option.some.inj hf
              exact x_iret hx hb hr hlocks hK hP hS dX8_personOf_92
            · have hf := zif_f c11 hf
              rcases Classical.em (x2 = 5) with c12 | c12
              · have hf := zif_t c12 hf
                refine lv_tableIn (off := 70) (tgt := 93) hx hb dX8_personOf_23 (by rw [c12]; decide) (by rw [c12]; decide) (by rw [c12]; decide) (by decide) ?_
                refine lv_aload_n hx hb dX8_personOf_93 rfl (lv_at hl 1 rfl) ?_
                refine x_get (j := 1) (v := .ref (G.2.1 1)) hx hb hts hi8 hown hK hP zkL_0 rfl (by decide) (hts (.fieldLink RX8 20 "LeaseOffice" "office" "LLeaseOffice$Office;") (by decide +kernel)) rfl (by decide) dX8_personOf_94 ?_
                refine lv_iload_n hx hb dX8_personOf_97 rfl (lv_at hl 2 rfl) ?_
                obtain ⟨q4, hq4, hf⟩ := zb_e hf
                refine x_calli (x_runV (As := [.int x1]) (rest := []) ⟨hx, hb, hml, hown, hts⟩ (c_X2_toolsWith l G hG I J 1 x1 zkL_1 hq4) (cwV 1 hts gX8_personOf_X2_toolsWith rfl rfl rfl (by decide +kernel) ⟨Nat.le_of_ble_eq_true rfl, Nat.le_of_ble_eq_true rfl⟩) hK hP zkL_1 (by decide) rfl rfl hl.1 rfl (Nat.le_of_ble_eq_true rfl) dX8_personOf_98 ⟨Nat.zero_le _, Nat.zero_le _⟩) hS (fun H locs hP hS => ?_)
                obtain rfl := Option.some.inj hf
                exact x_iret hx hb hr hlocks hK hP hS dX8_personOf_101
              · have hf := zif_f c12 hf
                rcases Classical.em (x2 = 6) with c13 | c13
                · have hf := zif_t c13 hf
                  refine lv_tableIn (off := 79) (tgt := 102) hx hb dX8_personOf_23 (by rw [c13]; decide) (by rw [c13]; decide) (by rw [c13]; decide) (by decide) ?_
                  refine lv_aload_n hx hb dX8_personOf_102 rfl (lv_at hl 1 rfl) ?_
                  refine x_get (j := 1) (v := .ref (G.2.1 1)) hx hb hts hi8 hown hK hP zkL_0 rfl (by decide) (hts (.fieldLink RX8 20 "LeaseOffice" "office" "LLeaseOffice$Office;") (by decide +kernel)) rfl (by decide) dX8_personOf_103 ?_
                  refine lv_iload_n hx hb dX8_personOf_106 rfl (lv_at hl 2 rfl) ?_
                  obtain ⟨q5, hq5, hf⟩ := zb_e hf
                  refine x_calli (x_runV (As := [.int x1]) (rest := []) ⟨hx, hb, hml, hown, hts⟩ (c_X2_placeInRank l G hG I J 1 x1 zkL_1 hq5) (cwV 1 hts gX8_personOf_X2_placeInRank rfl rfl rfl (by decide +kernel) ⟨Nat.le_of_ble_eq_true rfl, Nat.le_of_ble_eq_true rfl⟩) hK hP zkL_1 (by decide) rfl rfl hl.1 rfl (Nat.le_of_ble_eq_true rfl) dX8_personOf_107 ⟨Nat.zero_le _, Nat.zero_le _⟩) hS (fun H locs hP hS => ?_)
                  obtain rfl := Option.some.inj hf
                  exact x_iret hx hb hr hlocks hK hP hS dX8_personOf_110
                · have hf := zif_f c13 hf
                  rcases Classical.em (x2 = 7) with c14 | c14
                  · have hf := zif_t c14 hf
                    refine lv_tableIn (off := 88) (tgt := 111) hx hb dX8_personOf_23 (by rw [c14]; decide) (by rw [c14]; decide) (by rw [c14]; decide) (by decide) ?_
                    refine lv_aload_n hx hb dX8_personOf_111 rfl (lv_at hl 1 rfl) ?_
                    refine x_get (j := 1) (v := .ref (G.2.1 1)) hx hb hts hi8 hown hK hP zkL_0 rfl (by decide) (hts (.fieldLink RX8 20 "LeaseOffice" "office" "LLeaseOffice$Office;") (by decide +kernel)) rfl (by decide) dX8_personOf_112 ?_
                    refine lv_iload_n hx hb dX8_personOf_115 rfl (lv_at hl 2 rfl) ?_
                    obtain ⟨q6, hq6, hf⟩ := zb_e hf
                    refine x_calli (x_runV (As := [.int x1]) (rest := []) ⟨hx, hb, hml, hown, hts⟩ (c_X2_claimsOf l G hG I J 1 x1 zkL_1 hq6) (cwV 1 hts gX8_personOf_X2_claimsOf rfl rfl rfl (by decide +kernel) ⟨Nat.le_of_ble_eq_true rfl, Nat.le_of_ble_eq_true rfl⟩) hK hP zkL_1 (by decide) rfl rfl hl.1 rfl (Nat.le_of_ble_eq_true rfl) dX8_personOf_116 ⟨Nat.zero_le _, Nat.zero_le _⟩) hS (fun H locs hP hS => ?_)
                    obtain rfl := Option.some.inj hf
                    exact x_iret hx hb hr hlocks hK hP hS dX8_personOf_119
                  · have hf := zif_f c14 hf
                    have hD : W p l e (zrm 3 68) s m args below meth c H locs 0 0 (MQ below (zQi G r I J) args s 0 0 (zA G)) (F0 m 120 ls []) := by
                      refine lv_iconst (v := (-1)) hx hb dX8_personOf_120 (by decide) ?_
                      obtain rfl := Option.some.inj hf
                      exact x_iret hx hb hr hlocks hK hP hS dX8_personOf_121
                    rcases z_sw x2 0 7 8 (by decide) with h | ⟨k, hk, e⟩
                    · exact lv_tableOut hx hb dX8_personOf_23 h (by decide) hD
                    · match k, hk, e with
                      | 0, _, e => exact absurd (e.trans (by decide)) c7
                      | 1, _, e => exact absurd (e.trans (by decide)) c8
                      | 2, _, e => exact absurd (e.trans (by decide)) c9
                      | 3, _, e => exact absurd (e.trans (by decide)) c10
                      | 4, _, e => exact absurd (e.trans (by decide)) c11
                      | 5, _, e => exact absurd (e.trans (by decide)) c12
                      | 6, _, e => exact absurd (e.trans (by decide)) c13
                      | 7, _, e => exact absurd (e.trans (by decide)) c14
                      | _ + 8, hk, _ => exact absurd hk (by omega)
  · have hf := zif_t c2 hf
    refine lv_iconst (v := (-1)) hx hb dX8_personOf_11 (by decide) ?_
    obtain rfl := Option.some.inj hf
    exact x_iret hx hb hr hlocks hK hP hS dX8_personOf_12
set_option maxRecDepth 100000 in
set_option maxHeartbeats 4000000 in
theorem c_X8_ranked (l : Launch) (G : zGT) (hG : zOK G) (I J : zM) (x1 : Int32) {r : Int32} (hf : f_X8_ranked I x1 = some r) : Met l yX8_ranked wsX8_ranked (zrm 4 86) (va_Pc [.ref (G.2.1 0), .int x1] (zS G I J)) (zQi G r I J) 0 0 (zA G) := by
  refine zMet (cc := cX8_ranked) (n := 2) (ret := (some .int)) (by decide) rfl (Nat.le_of_ble_eq_true rfl) ?_
  intro p e s m args below meth c H locs ls F hK hP hS hl
  obtain ⟨hx, hb, hr, hml, hts, hown, hlocks⟩ := F
  have hown : s.vm.findClass RX8 = some m.cls := hown
  have hl : lv_has ls 2 [(0, .ref (G.2.1 0)), (1, .int x1)] := hl
  have hi8 : ∀ w ∈ wsX80, w ∈ wsX8_ranked := fun _ h => List.mem_cons_of_mem _ (List.mem_append_left _ (List.mem_append_left _ (List.mem_append_right _ h)))
  unfold f_X8_ranked at hf
  refine lv_iload_n hx hb dX8_ranked_0 rfl (lv_at hl 1 rfl) ?_
  refine lv_if_ge (tgt := 8) hx hb dX8_ranked_1 (by decide) (fun c1 => ?_) (fun c1 => ?_)
  · have hf := zif_t c1 hf
    refine lv_aload_n hx hb dX8_ranked_8 rfl (lv_at hl 0 rfl) ?_
    refine x_get (j := 1) (v := .ref (G.2.1 1)) hx hb hts hi8 hown hK hP zkL_0 rfl (by decide) (hts (.fieldLink RX8 20 "LeaseOffice" "office" "LLeaseOffice$Office;") (by decide +kernel)) rfl (by decide) dX8_ranked_9 ?_
    refine lv_iload_n hx hb dX8_ranked_12 rfl (lv_at hl 1 rfl) ?_
    obtain ⟨q2, hq2, hf⟩ := zb_e hf
    refine x_calli (x_runV (As := [.int x1]) (rest := []) ⟨hx, hb, hml, hown, hts⟩ (c_X2_personAtRank l G hG I J 1 x1 zkL_1 hq2) (cwV 1 hts gX8_ranked_X2_personAtRank rfl rfl rfl (by decide +kernel) ⟨Nat.le_of_ble_eq_true rfl, Nat.le_of_ble_eq_true rfl⟩) hK hP zkL_1 (by decide) rfl rfl hl.1 rfl (Nat.le_of_ble_eq_true rfl) dX8_ranked_13 ⟨Nat.zero_le _, Nat.zero_le _⟩) hS (fun H locs hP hS => ?_)
    obtain rfl := Option.some.inj hf
    exact x_iret hx hb hr hlocks hK hP hS dX8_ranked_16
  · have hf := zif_f c1 hf
    refine lv_iconst (v := (-1)) hx hb dX8_ranked_4 (by decide) ?_
    refine lv_goto (tgt := 16) hx hb dX8_ranked_5 (by decide) ?_
    obtain rfl := Option.some.inj hf
    exact x_iret hx hb hr hlocks hK hP hS dX8_ranked_16
set_option maxRecDepth 100000 in
set_option maxHeartbeats 4000000 in
theorem c_X8_returned (l : Launch) (G : zGT) (hG : zOK G) (I J : zM) (x1 : Int32) {r : Int32 × zM} (hf : f_X8_returned I x1 = some r) : Met l yX8_returned wsX8_returned (zrm 5 120) (va_Pc [.ref (G.2.1 0), .int x1] (zS G I J)) (zQi G r.1 r.2 J) 0 0 (zA G) := by
  refine zMet (cc := cX8_returned) (n := 2) (ret := (some .int)) (by decide) rfl (Nat.le_of_ble_eq_true rfl) ?_
  intro p e s m args below meth c H locs ls F hK hP hS hl
  obtain ⟨hx, hb, hr, hml, hts, hown, hlocks⟩ := F
  have hown : s.vm.findClass RX8 = some m.cls := hown
  have hl : lv_has ls 2 [(0, .ref (G.2.1 0)), (1, .int x1)] := hl
  have hi8 : ∀ w ∈ wsX80, w ∈ wsX8_returned := fun _ h => List.mem_cons_of_mem _ (List.mem_append_left _ (List.mem_append_left _ (List.mem_append_left _ (List.mem_append_left _ (List.mem_append_left _ (List.mem_append_right _ h))))))
  unfold f_X8_returned at hf
  refine lv_aload_n hx hb dX8_returned_0 rfl (lv_at hl 0 rfl) ?_
  refine x_get (j := 1) (v := .ref (G.2.1 1)) hx hb hts hi8 hown hK hP zkL_0 rfl (by decide) (hts (.fieldLink RX8 20 "LeaseOffice" "office" "LLeaseOffice$Office;") (by decide +kernel)) rfl (by decide) dX8_returned_1 ?_
  refine lv_iload_n hx hb dX8_returned_4 rfl (lv_at hl 1 rfl) ?_
  obtain ⟨q1, hq1, hf⟩ := zb_e hf
  refine x_calli (x_runV (As := [.int x1]) (rest := []) ⟨hx, hb, hml, hown, hts⟩ (c_X2_giveBack l G hG I J 1 x1 zkL_1 hq1) (cwV 1 hts gX8_returned_X2_giveBack rfl rfl rfl (by decide +kernel) ⟨Nat.le_of_ble_eq_true rfl, Nat.le_of_ble_eq_true rfl⟩) hK hP zkL_1 (by decide) rfl rfl hl.1 rfl (Nat.le_of_ble_eq_true rfl) dX8_returned_5 ⟨Nat.zero_le _, Nat.zero_le _⟩) hS (fun H locs hP hS => ?_)
  obtain rfl := Option.some.inj hf
  exact x_iret hx hb hr hlocks hK hP hS dX8_returned_8
set_option maxRecDepth 100000 in
set_option maxHeartbeats 4000000 in
theorem c_X8_swap (l : Launch) (G : zGT) (hG : zOK G) (I J : zM) (x1 : Int32) (x2 : Int32) {r : Int32 × zM} (hf : f_X8_swap I x1 x2 = some r) : Met l yX8_swap wsX8_swap (zrm 4 94) (va_Pc [.ref (G.2.1 0), .int x1, .int x2] (zS G I J)) (zQi G r.1 r.2 J) 0 0 (zA G) := by
  refine zMet (cc := cX8_swap) (n := 3) (ret := (some .int)) (by decide) rfl (Nat.le_of_ble_eq_true rfl) ?_
  intro p e s m args below meth c H locs ls F hK hP hS hl
  obtain ⟨hx, hb, hr, hml, hts, hown, hlocks⟩ := F
  have hown : s.vm.findClass RX8 = some m.cls := hown
  have hl : lv_has ls 3 [(0, .ref (G.2.1 0)), (1, .int x1), (2, .int x2)] := hl
  have hi8 : ∀ w ∈ wsX80, w ∈ wsX8_swap := fun _ h => List.mem_cons_of_mem _ (List.mem_append_left _ (List.mem_append_left _ (List.mem_append_left _ (List.mem_append_left _ (List.mem_append_right _ h)))))
  unfold f_X8_swap at hf
  refine lv_aload_n hx hb dX8_swap_0 rfl (lv_at hl 0 rfl) ?_
  refine x_get (j := 1) (v := .ref (G.2.1 1)) hx hb hts hi8 hown hK hP zkL_0 rfl (by decide) (hts (.fieldLink RX8 20 "LeaseOffice" "office" "LLeaseOffice$Office;") (by decide +kernel)) rfl (by decide) dX8_swap_1 ?_
  refine lv_iload_n hx hb dX8_swap_4 rfl (lv_at hl 1 rfl) ?_
  refine lv_iload_n hx hb dX8_swap_5 rfl (lv_at hl 2 rfl) ?_
  obtain ⟨q1, hq1, hf⟩ := zb_e hf
  refine x_calli (x_runV (As := [.int x1, .int x2]) (rest := []) ⟨hx, hb, hml, hown, hts⟩ (c_X2_exchange l G hG I J 1 x1 x2 zkL_1 hq1) (cwV 2 hts gX8_swap_X2_exchange rfl rfl rfl (by decide +kernel) ⟨Nat.le_of_ble_eq_true rfl, Nat.le_of_ble_eq_true rfl⟩) hK hP zkL_1 (by decide) rfl rfl hl.1 rfl (Nat.le_of_ble_eq_true rfl) dX8_swap_6 ⟨Nat.zero_le _, Nat.zero_le _⟩) hS (fun H locs hP hS => ?_)
  obtain rfl := Option.some.inj hf
  exact x_iret hx hb hr hlocks hK hP hS dX8_swap_9
set_option maxRecDepth 100000 in
set_option maxHeartbeats 4000000 in
theorem c_X8_swaps (l : Launch) (G : zGT) (hG : zOK G) (I J : zM) (x1 : Int32) {r : Int32} (hf : f_X8_swaps I x1 = some r) : Met l yX8_swaps wsX8_swaps (zrm 5 114) (va_Pc [.ref (G.2.1 0), .int x1] (zS G I J)) (zQi G r I J) 0 0 (zA G) := by
  refine zMet (cc := cX8_swaps) (n := 2) (ret := (some .int)) (by decide) rfl (Nat.le_of_ble_eq_true rfl) ?_
  intro p e s m args below meth c H locs ls F hK hP hS hl
  obtain ⟨hx, hb, hr, hml, hts, hown, hlocks⟩ := F
  have hown : s.vm.findClass RX8 = some m.cls := hown
  have hl : lv_has ls 2 [(0, .ref (G.2.1 0)), (1, .int x1)] := hl
  have hi8 : ∀ w ∈ wsX80, w ∈ wsX8_swaps := fun _ h => List.mem_cons_of_mem _ (List.mem_append_left _ (List.mem_append_left _ (List.mem_append_left _ (List.mem_append_left _ (List.mem_append_right _ h)))))
  unfold f_X8_swaps at hf
  refine lv_iload_n hx hb dX8_swaps_0 rfl (lv_at hl 1 rfl) ?_
  rcases Classical.em (x1 = 0) with c5 | c5
  · have hf := zif_t c5 hf
    refine lv_tableIn (off := 31) (tgt := 32) hx hb dX8_swaps_1 (by rw [c5]; decide) (by rw [c5]; decide) (by rw [c5]; decide) (by decide) ?_
    refine lv_aload_n hx hb dX8_swaps_32 rfl (lv_at hl 0 rfl) ?_
    refine x_get (j := 0) (v := .ref (G.2.1 328)) hx hb hts hi8 hown hK hP zkL_0 rfl (by decide) (hts (.fieldLink RX8 12 "LeaseOffice" "thought" "LLeaseOffice$Thought;") (by decide +kernel)) rfl (by decide) dX8_swaps_33 ?_
    obtain ⟨q1, hq1, hf⟩ := zb_e hf
    refine x_calli (x_runV (As := []) (rest := []) ⟨hx, hb, hml, hown, hts⟩ (c_X6_swapsNow l G hG I J hq1) (cwV 0 hts gX8_swaps_X6_swapsNow rfl rfl rfl (by decide +kernel) ⟨Nat.le_of_ble_eq_true rfl, Nat.le_of_ble_eq_true rfl⟩) hK hP zkL_328 (by decide) rfl rfl hl.1 rfl (Nat.le_of_ble_eq_true rfl) dX8_swaps_36 ⟨Nat.zero_le _, Nat.zero_le _⟩) hS (fun H locs hP hS => ?_)
    obtain rfl := Option.some.inj hf
    exact x_iret hx hb hr hlocks hK hP hS dX8_swaps_39
  · have hf := zif_f c5 hf
    rcases Classical.em (x1 = 1) with c6 | c6
    · have hf := zif_t c6 hf
      refine lv_tableIn (off := 39) (tgt := 40) hx hb dX8_swaps_1 (by rw [c6]; decide) (by rw [c6]; decide) (by rw [c6]; decide) (by decide) ?_
      refine lv_aload_n hx hb dX8_swaps_40 rfl (lv_at hl 0 rfl) ?_
      refine x_get (j := 0) (v := .ref (G.2.1 328)) hx hb hts hi8 hown hK hP zkL_0 rfl (by decide) (hts (.fieldLink RX8 12 "LeaseOffice" "thought" "LLeaseOffice$Thought;") (by decide +kernel)) rfl (by decide) dX8_swaps_41 ?_
      obtain ⟨q2, hq2, hf⟩ := zb_e hf
      refine x_calli (x_runV (As := []) (rest := []) ⟨hx, hb, hml, hown, hts⟩ (c_X6_bestSwap l G hG I J hq2) (cwV 0 hts gX8_swaps_X6_bestSwap rfl rfl rfl (by decide +kernel) ⟨Nat.le_of_ble_eq_true rfl, Nat.le_of_ble_eq_true rfl⟩) hK hP zkL_328 (by decide) rfl rfl hl.1 rfl (Nat.le_of_ble_eq_true rfl) dX8_swaps_44 ⟨Nat.zero_le _, Nat.zero_le _⟩) hS (fun H locs hP hS => ?_)
      obtain rfl := Option.some.inj hf
      exact x_iret hx hb hr hlocks hK hP hS dX8_swaps_47
    · have hf := zif_f c6 hf
      rcases Classical.em (x1 = 2) with c7 | c7
      · have hf := zif_t c7 hf
        refine lv_tableIn (off := 47) (tgt := 48) hx hb dX8_swaps_1 (by rw [c7]; decide) (by rw [c7]; decide) (by rw [c7]; decide) (by decide) ?_
        refine lv_aload_n hx hb dX8_swaps_48 rfl (lv_at hl 0 rfl) ?_
        refine x_get (j := 0) (v := .ref (G.2.1 328)) hx hb hts hi8 hown hK hP zkL_0 rfl (by decide) (hts (.fieldLink RX8 12 "LeaseOffice" "thought" "LLeaseOffice$Thought;") (by decide +kernel)) rfl (by decide) dX8_swaps_49 ?_
        obtain ⟨q3, hq3, hf⟩ := zb_e hf
        refine x_calli (x_runV (As := []) (rest := []) ⟨hx, hb, hml, hown, hts⟩ (c_X6_ringsNow l G hG I J hq3) (cwV 0 hts gX8_swaps_X6_ringsNow rfl rfl rfl (by decide +kernel) ⟨Nat.le_of_ble_eq_true rfl, Nat.le_of_ble_eq_true rfl⟩) hK hP zkL_328 (by decide) rfl rfl hl.1 rfl (Nat.le_of_ble_eq_true rfl) dX8_swaps_52 ⟨Nat.zero_le _, Nat.zero_le _⟩) hS (fun H locs hP hS => ?_)
        obtain rfl := Option.some.inj hf
        exact x_iret hx hb hr hlocks hK hP hS dX8_swaps_55
      · have hf := zif_f c7 hf
        rcases Classical.em (x1 = 3) with c8 | c8
        · have hf := zif_t c8 hf
          refine lv_tableIn (off := 55) (tgt := 56) hx hb dX8_swaps_1 (by rw [c8]; decide) (by rw [c8]; decide) (by rw [c8]; decide) (by decide) ?_
          refine lv_aload_n hx hb dX8_swaps_56 rfl (lv_at hl 0 rfl) ?_
          refine x_get (j := 0) (v := .ref (G.2.1 328)) hx hb hts hi8 hown hK hP zkL_0 rfl (by decide) (hts (.fieldLink RX8 12 "LeaseOffice" "thought" "LLeaseOffice$Thought;") (by decide +kernel)) rfl (by decide) dX8_swaps_57 ?_
          obtain ⟨q4, hq4, hf⟩ := zb_e hf
          refine x_calli (x_runV (As := []) (rest := []) ⟨hx, hb, hml, hown, hts⟩ (c_X6_allCoins l G hG I J hq4) (cwV 0 hts gX8_swaps_X6_allCoins rfl rfl rfl (by decide +kernel) ⟨Nat.le_of_ble_eq_true rfl, Nat.le_of_ble_eq_true rfl⟩) hK hP zkL_328 (by decide) rfl rfl hl.1 rfl (Nat.le_of_ble_eq_true rfl) dX8_swaps_60 ⟨Nat.zero_le _, Nat.zero_le _⟩) hS (fun H locs hP hS => ?_)
          obtain rfl := Option.some.inj hf
          exact x_iret hx hb hr hlocks hK hP hS dX8_swaps_63
        · have hf := zif_f c8 hf
          have hD : W p l e (zrm 5 114) s m args below meth c H locs 0 0 (MQ below (zQi G r I J) args s 0 0 (zA G)) (F0 m 64 ls []) := by
            refine lv_iconst (v := (-1)) hx hb dX8_swaps_64 (by decide) ?_
            obtain rfl := Option.some.inj hf
            exact x_iret hx hb hr hlocks hK hP hS dX8_swaps_65
          rcases z_sw x1 0 3 4 (by decide) with h | ⟨k, hk, e⟩
          · exact lv_tableOut hx hb dX8_swaps_1 h (by decide) hD
          · match k, hk, e with
            | 0, _, e => exact absurd (e.trans (by decide)) c5
            | 1, _, e => exact absurd (e.trans (by decide)) c6
            | 2, _, e => exact absurd (e.trans (by decide)) c7
            | 3, _, e => exact absurd (e.trans (by decide)) c8
            | _ + 4, hk, _ => exact absurd hk (by omega)
