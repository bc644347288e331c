set_option maxRecDepth 100000 in
set_option maxHeartbeats 4000000 in
theorem c_X9_coins (l : Launch) (G : zGT) (hG : zOK G) (I J : zM) {r : Int32} (hf : f_X9_coins J = some r) : Met l yX9_coins wsX9_coins (zrm 1 22) (va_Pc [.ref (G.2.1 359)] (zS G I J)) (zQi G r I J) 0 0 (zA G) := by
  refine zMet (cc := cX9_coins) (n := 3) (ret := (some .int)) (by decide) rfl (Nat.le_of_ble_eq_true rfl) ?_
  intro p e s m args below meth c H locs ls F hK hP hS hl
  obtain ⟨hx, hb, hr, hml, hts, hown, hlocks⟩ := F
  have hown : s.vm.findClass RX9 = some m.cls := hown
  have hl : lv_has ls 3 [(0, .ref (G.2.1 359))] := hl
  have hi9 : ∀ w ∈ wsX90, w ∈ wsX9_coins := fun _ h => List.mem_cons_of_mem _ (List.mem_append_right _ h)
  have L11 : ∀ (K : Int32 → Option (Int32)) (hKK : ∀ (z1 : Int32) (H : Heap) (locs : List Loc) (ls : Array Slot), K z1 = some r → va_P G.1 vwCl (zW G I J) H → va_S (zA G) s.heap H locs → lv_has ls 3 [(0, .ref (G.2.1 359)), (1, .int z1)] → W p l e (zrm 1 22) s m args below meth c H locs 0 0 (MQ below (zQi G r I J) args s 0 0 (zA G)) (F0 m 38 ls [])) (n : Nat) (y1 : Int32) (y2 : Int32) (H : Heap) (locs : List Loc) (ls : Array Slot), f_X9_coins_l11 J K n y1 y2 = some r → va_P G.1 vwCl (zW G I J) H → va_S (zA G) s.heap H locs → lv_has ls 3 [(0, .ref (G.2.1 359)), (1, .int y1), (2, .int y2)] → W p l e (zrm 1 22) s m args below meth c H locs 0 0 (MQ below (zQi G r I J) args s 0 0 (zA G)) (F0 m 11 ls []) := by
    intro K hKK n
    induction n with
    | zero =>
      intro y1 y2 H locs ls hf
      rw [f_X9_coins_l11] at hf
      cases hf
    | succ n ih =>
      intro y1 y2 H locs ls hf hP hS hl
      rw [f_X9_coins_l11] at hf
      refine lv_iload_n hx hb dX9_coins_11 rfl (lv_at hl 2 rfl) ?_
      refine lv_aload_n hx hb dX9_coins_12 rfl (lv_at hl 0 rfl) ?_
      refine x_get (j := 0) (v := .ref (G.2.1 360)) hx hb hts hi9 hown hK hP zkL_359 rfl (by decide) (hts (.fieldLink RX9 9 "LeaseOfficeModel" "g" "[I") (by decide +kernel)) rfl (by decide) dX9_coins_13 ?_
      refine lv_sipush (v := 1080) hx hb dX9_coins_16 (by decide) ?_
      refine x_ialdL (j := 1080) hx hb hK hP (zK_lt zkL_360 (by decide)) (zE_15 (j := 1) zkL_360 zlL_360 rfl) (by decide) (by decide) dX9_coins_19 ?_
      refine lv_icmp_ge (tgt := 38) hx hb dX9_coins_20 (by decide) (fun c1 => ?_) (fun c1 => ?_)
      · have hf := zif_t c1 hf
        exact hKK y1 H locs ls hf hP hS (lv_sub hl [0, 1] rfl)
      · have hf := zif_f c1 hf
        refine lv_iload_n hx hb dX9_coins_23 rfl (lv_at hl 1 rfl) ?_
        refine lv_aload_n hx hb dX9_coins_24 rfl (lv_at hl 0 rfl) ?_
        refine lv_iload_n hx hb dX9_coins_25 rfl (lv_at hl 2 rfl) ?_
        refine lv_iconst (v := 1) hx hb dX9_coins_26 (by decide) ?_
        obtain ⟨q2, hq2, hf⟩ := zb_e hf
        refine x_calli (x_runV (As := [.int y2, .int 1]) (rest := [.int y1]) ⟨hx, hb, hml, hown, hts⟩ (c_X9_p l G hG I J y2 1 hq2) (cwV 2 hts gX9_coins_X9_p rfl rfl rfl (by decide +kernel) ⟨Nat.le_of_ble_eq_true rfl, Nat.le_of_ble_eq_true rfl⟩) hK hP zkL_359 (by decide) rfl rfl hl.1 rfl (Nat.le_of_ble_eq_true rfl) dX9_coins_27 ⟨Nat.zero_le _, Nat.zero_le _⟩) hS (fun H locs hP hS => ?_)
        refine lv_iadd hx hb dX9_coins_30 ?_
        obtain ⟨w3, ew3, hf⟩ := zlet_e hf
        refine z_topi ew3 ?_
        refine lv_istore_n (lv' := [(1, .int w3), (0, .ref (G.2.1 359)), (2, .int y2)]) hx hb dX9_coins_31 rfl hl (by decide) rfl (fun ls hl => ?_)
        refine lv_iinc (v := (y2 + 1)) (lv' := [(2, .int (y2 + 1)), (1, .int w3), (0, .ref (G.2.1 359))]) hx hb dX9_coins_32 hl (k := 2) rfl rfl (by decide) rfl (fun ls hl => ?_)
        refine lv_goto (tgt := 11) hx hb dX9_coins_35 (by decide) ?_
        exact ih w3 (y2 + 1) H locs ls hf hP hS (lv_sub hl [2, 1, 0] rfl)
  have L40 : ∀ (n : Nat) (y1 : Int32) (y2 : Int32) (H : Heap) (locs : List Loc) (ls : Array Slot), f_X9_coins_l40 J n y1 y2 = some r → va_P G.1 vwCl (zW G I J) H → va_S (zA G) s.heap H locs → lv_has ls 3 [(0, .ref (G.2.1 359)), (1, .int y1), (2, .int y2)] → W p l e (zrm 1 22) s m args below meth c H locs 0 0 (MQ below (zQi G r I J) args s 0 0 (zA G)) (F0 m 40 ls []) := by
    intro n
    induction n with
    | zero =>
      intro y1 y2 H locs ls hf
      rw [f_X9_coins_l40] at hf
      cases hf
    | succ n ih =>
      intro y1 y2 H locs ls hf hP hS hl
      rw [f_X9_coins_l40] at hf
      refine lv_iload_n hx hb dX9_coins_40 rfl (lv_at hl 2 rfl) ?_
      refine lv_aload_n hx hb dX9_coins_41 rfl (lv_at hl 0 rfl) ?_
      refine x_get (j := 0) (v := .ref (G.2.1 360)) hx hb hts hi9 hown hK hP zkL_359 rfl (by decide) (hts (.fieldLink RX9 9 "LeaseOfficeModel" "g" "[I") (by decide +kernel)) rfl (by decide) dX9_coins_42 ?_
      refine lv_sipush (v := 1081) hx hb dX9_coins_45 (by decide) ?_
      refine x_ialdL (j := 1081) hx hb hK hP (zK_lt zkL_360 (by decide)) (zE_15 (j := 1) zkL_360 zlL_360 rfl) (by decide) (by decide) dX9_coins_48 ?_
      refine lv_icmp_ge (tgt := 67) hx hb dX9_coins_49 (by decide) (fun c5 => ?_) (fun c5 => ?_)
      · have hf := zif_t c5 hf
        refine lv_iload_n hx hb dX9_coins_67 rfl (lv_at hl 1 rfl) ?_
        obtain rfl := Option.some.inj hf
        exact x_iret hx hb hr hlocks hK hP hS dX9_coins_68
      · have hf := zif_f c5 hf
        refine lv_iload_n hx hb dX9_coins_52 rfl (lv_at hl 1 rfl) ?_
        refine lv_aload_n hx hb dX9_coins_53 rfl (lv_at hl 0 rfl) ?_
        refine lv_iload_n hx hb dX9_coins_54 rfl (lv_at hl 2 rfl) ?_
        refine lv_iconst (v := 5) hx hb dX9_coins_55 (by decide) ?_
        obtain ⟨q6, hq6, hf⟩ := zb_e hf
        refine x_calli (x_runV (As := [.int y2, .int 5]) (rest := [.int y1]) ⟨hx, hb, hml, hown, hts⟩ (c_X9_t l G hG I J y2 5 hq6) (cwV 2 hts gX9_coins_X9_t rfl rfl rfl (by decide +kernel) ⟨Nat.le_of_ble_eq_true rfl, Nat.le_of_ble_eq_true rfl⟩) hK hP zkL_359 (by decide) rfl rfl hl.1 rfl (Nat.le_of_ble_eq_true rfl) dX9_coins_56 ⟨Nat.zero_le _, Nat.zero_le _⟩) hS (fun H locs hP hS => ?_)
        refine lv_iadd hx hb dX9_coins_59 ?_
        obtain ⟨w7, ew7, hf⟩ := zlet_e hf
        refine z_topi ew7 ?_
        refine lv_istore_n (lv' := [(1, .int w7), (0, .ref (G.2.1 359)), (2, .int y2)]) hx hb dX9_coins_60 rfl hl (by decide) rfl (fun ls hl => ?_)
        refine lv_iinc (v := (y2 + 1)) (lv' := [(2, .int (y2 + 1)), (1, .int w7), (0, .ref (G.2.1 359))]) hx hb dX9_coins_61 hl (k := 2) rfl rfl (by decide) rfl (fun ls hl => ?_)
        refine lv_goto (tgt := 40) hx hb dX9_coins_64 (by decide) ?_
        exact ih w7 (y2 + 1) H locs ls hf hP hS (lv_sub hl [2, 1, 0] rfl)
  unfold f_X9_coins at hf
  refine lv_aload_n hx hb dX9_coins_0 rfl (lv_at hl 0 rfl) ?_
  refine x_get (j := 0) (v := .ref (G.2.1 360)) hx hb hts hi9 hown hK hP zkL_359 rfl (by decide) (hts (.fieldLink RX9 9 "LeaseOfficeModel" "g" "[I") (by decide +kernel)) rfl (by decide) dX9_coins_1 ?_
  refine lv_sipush (v := 1083) hx hb dX9_coins_4 (by decide) ?_
  refine x_ialdL (j := 1083) hx hb hK hP (zK_lt zkL_360 (by decide)) (zE_15 (j := 1) zkL_360 zlL_360 rfl) (by decide) (by decide) dX9_coins_7 ?_
  refine lv_istore_n (lv' := [(1, .int (J 1 1083)), (0, .ref (G.2.1 359))]) hx hb dX9_coins_8 rfl hl (by decide) rfl (fun ls hl => ?_)
  refine lv_iconst (v := 0) hx hb dX9_coins_9 (by decide) ?_
  refine lv_istore_n (lv' := [(2, .int 0), (1, .int (J 1 1083)), (0, .ref (G.2.1 359))]) hx hb dX9_coins_10 rfl hl (by decide) rfl (fun ls hl => ?_)
  refine L11 _ (fun z4 H locs ls hf hP hS hl => ?_) zFu (J 1 1083) 0 H locs ls hf hP hS (lv_sub hl [2, 1, 0] rfl)
  refine lv_iconst (v := 0) hx hb dX9_coins_38 (by decide) ?_
  refine lv_istore_n (lv' := [(2, .int 0), (0, .ref (G.2.1 359)), (1, .int z4)]) hx hb dX9_coins_39 rfl hl (by decide) rfl (fun ls hl => ?_)
  exact L40 zFu z4 0 H locs ls hf hP hS (lv_sub hl [1, 2, 0] rfl)
set_option maxRecDepth 100000 in
set_option maxHeartbeats 4000000 in
theorem c_X9_moreWear (l : Launch) (G : zGT) (hG : zOK G) (I J : zM) (x1 : Int32) {r : Int32} (hf : f_X9_moreWear J x1 = some r) : Met l yX9_moreWear wsX9_moreWear (zrm 1 22) (va_Pc [.ref (G.2.1 359), .int x1] (zS G I J)) (zQi G r I J) 0 0 (zA G) := by
  refine zMet (cc := cX9_moreWear) (n := 2) (ret := (some .int)) (by decide) rfl (Nat.le_of_ble_eq_true rfl) ?_
  intro p e s m args below meth c H locs ls F hK hP hS hl
  obtain ⟨hx, hb, hr, hml, hts, hown, hlocks⟩ := F
  have hown : s.vm.findClass RX9 = some m.cls := hown
  have hl : lv_has ls 2 [(0, .ref (G.2.1 359)), (1, .int x1)] := hl
  unfold f_X9_moreWear at hf
  refine lv_aload_n hx hb dX9_moreWear_0 rfl (lv_at hl 0 rfl) ?_
  refine lv_iload_n hx hb dX9_moreWear_1 rfl (lv_at hl 1 rfl) ?_
  refine lv_iconst (v := 1) hx hb dX9_moreWear_2 (by decide) ?_
  obtain ⟨q1, hq1, hf⟩ := zb_e hf
  refine x_calli (x_runV (As := [.int x1, .int 1]) (rest := []) ⟨hx, hb, hml, hown, hts⟩ (c_X9_t l G hG I J x1 1 hq1) (cwV 2 hts gX9_moreWear_X9_t rfl rfl rfl (by decide +kernel) ⟨Nat.le_of_ble_eq_true rfl, Nat.le_of_ble_eq_true rfl⟩) hK hP zkL_359 (by decide) rfl rfl hl.1 rfl (Nat.le_of_ble_eq_true rfl) dX9_moreWear_3 ⟨Nat.zero_le _, Nat.zero_le _⟩) hS (fun H locs hP hS => ?_)
  refine lv_aload_n hx hb dX9_moreWear_6 rfl (lv_at hl 0 rfl) ?_
  refine lv_iload_n hx hb dX9_moreWear_7 rfl (lv_at hl 1 rfl) ?_
  refine lv_bipush (v := 33) hx hb dX9_moreWear_8 (by decide) ?_
  refine lv_iconst (v := 4) hx hb dX9_moreWear_10 (by decide) ?_
  refine lv_aload_n hx hb dX9_moreWear_11 rfl (lv_at hl 0 rfl) ?_
  refine lv_iload_n hx hb dX9_moreWear_12 rfl (lv_at hl 1 rfl) ?_
  refine lv_bipush (v := 32) hx hb dX9_moreWear_13 (by decide) ?_
  obtain ⟨q2, hq2, hf⟩ := zb_e hf
  refine x_calli (x_runV (As := [.int x1, .int 32]) (rest := [.int 4, .int 33, .int x1, .ref (G.2.1 359), .int q1]) ⟨hx, hb, hml, hown, hts⟩ (c_X9_t l G hG I J x1 32 hq2) (cwV 2 hts gX9_moreWear_X9_t rfl rfl rfl (by decide +kernel) ⟨Nat.le_of_ble_eq_true rfl, Nat.le_of_ble_eq_true rfl⟩) hK hP zkL_359 (by decide) rfl rfl hl.1 rfl (Nat.le_of_ble_eq_true rfl) dX9_moreWear_15 ⟨Nat.zero_le _, Nat.zero_le _⟩) hS (fun H locs hP hS => ?_)
  refine lv_iconst (v := 1) hx hb dX9_moreWear_18 (by decide) ?_
  refine lv_isub hx hb dX9_moreWear_19 ?_
  refine lv_imul hx hb dX9_moreWear_20 ?_
  refine lv_iadd hx hb dX9_moreWear_21 ?_
  refine lv_iconst (v := 1) hx hb dX9_moreWear_22 (by decide) ?_
  refine lv_iadd hx hb dX9_moreWear_23 ?_
  obtain ⟨q3, hq3, hf⟩ := zb_e hf
  refine x_calli (x_runV (As := [.int x1, .int ((33 + (4 * (q2 - 1))) + 1)]) (rest := [.int q1]) ⟨hx, hb, hml, hown, hts⟩ (c_X9_t l G hG I J x1 ((33 + (4 * (q2 - 1))) + 1) hq3) (cwV 2 hts gX9_moreWear_X9_t rfl rfl rfl (by decide +kernel) ⟨Nat.le_of_ble_eq_true rfl, Nat.le_of_ble_eq_true rfl⟩) hK hP zkL_359 (by decide) rfl rfl hl.1 rfl (Nat.le_of_ble_eq_true rfl) dX9_moreWear_24 ⟨Nat.zero_le _, Nat.zero_le _⟩) hS (fun H locs hP hS => ?_)
  refine lv_isub hx hb dX9_moreWear_27 ?_
  obtain rfl := Option.some.inj hf
  exact x_iret hx hb hr hlocks hK hP hS dX9_moreWear_28
set_option maxRecDepth 100000 in
set_option maxHeartbeats 4000000 in
theorem c_X9_costOf (l : Launch) (G : zGT) (hG : zOK G) (I J : zM) (x1 : Int32) {r : Int32} (hf : f_X9_costOf J x1 = some r) : Met l yX9_costOf wsX9_costOf (zrm 2 43) (va_Pc [.ref (G.2.1 359), .int x1] (zS G I J)) (zQi G r I J) 0 0 (zA G) := by
  refine zMet (cc := cX9_costOf) (n := 3) (ret := (some .int)) (by decide) rfl (Nat.le_of_ble_eq_true rfl) ?_
  intro p e s m args below meth c H locs ls F hK hP hS hl
  obtain ⟨hx, hb, hr, hml, hts, hown, hlocks⟩ := F
  have hown : s.vm.findClass RX9 = some m.cls := hown
  have hl : lv_has ls 3 [(0, .ref (G.2.1 359)), (1, .int x1)] := hl
  unfold f_X9_costOf at hf
  refine lv_aload_n hx hb dX9_costOf_0 rfl (lv_at hl 0 rfl) ?_
  refine lv_iload_n hx hb dX9_costOf_1 rfl (lv_at hl 1 rfl) ?_
  obtain ⟨q1, hq1, hf⟩ := zb_e hf
  refine x_calli (x_runV (As := [.int x1]) (rest := []) ⟨hx, hb, hml, hown, hts⟩ (c_X9_moreWear l G hG I J x1 hq1) (cwV 1 hts gX9_costOf_X9_moreWear rfl rfl rfl (by decide +kernel) ⟨Nat.le_of_ble_eq_true rfl, Nat.le_of_ble_eq_true rfl⟩) hK hP zkL_359 (by decide) rfl rfl hl.1 rfl (Nat.le_of_ble_eq_true rfl) dX9_costOf_2 ⟨Nat.zero_le _, Nat.zero_le _⟩) hS (fun H locs hP hS => ?_)
  refine lv_istore_n (lv' := [(2, .int q1), (0, .ref (G.2.1 359)), (1, .int x1)]) hx hb dX9_costOf_5 rfl hl (by decide) rfl (fun ls hl => ?_)
  refine lv_iload_n hx hb dX9_costOf_6 rfl (lv_at hl 0 rfl) ?_
  refine lv_if_le (tgt := 24) hx hb dX9_costOf_7 (by decide) (fun c2 => ?_) (fun c2 => ?_)
  · have hf := zif_t c2 hf
    refine lv_iconst (v := 0) hx hb dX9_costOf_24 (by decide) ?_
    obtain rfl := Option.some.inj hf
    exact x_iret hx hb hr hlocks hK hP hS dX9_costOf_25
  · have hf := zif_f c2 hf
    refine lv_aload_n hx hb dX9_costOf_10 rfl (lv_at hl 1 rfl) ?_
    refine lv_iload_n hx hb dX9_costOf_11 rfl (lv_at hl 2 rfl) ?_
    refine lv_iconst (v := 0) hx hb dX9_costOf_12 (by decide) ?_
    obtain ⟨q3, hq3, hf⟩ := zb_e hf
    refine x_calli (x_runV (As := [.int x1, .int 0]) (rest := []) ⟨hx, hb, hml, hown, hts⟩ (c_X9_t l G hG I J x1 0 hq3) (cwV 2 hts gX9_costOf_X9_t rfl rfl rfl (by decide +kernel) ⟨Nat.le_of_ble_eq_true rfl, Nat.le_of_ble_eq_true rfl⟩) hK hP zkL_359 (by decide) rfl rfl hl.1 rfl (Nat.le_of_ble_eq_true rfl) dX9_costOf_13 ⟨Nat.zero_le _, Nat.zero_le _⟩) hS (fun H locs hP hS => ?_)
    refine lv_iload_n hx hb dX9_costOf_16 rfl (lv_at hl 0 rfl) ?_
    refine lv_imul hx hb dX9_costOf_17 ?_
    refine lv_bipush (v := 9) hx hb dX9_costOf_18 (by decide) ?_
    refine lv_idiv hx hb dX9_costOf_20 (by decide) ?_
    refine lv_goto (tgt := 25) hx hb dX9_costOf_21 (by decide) ?_
    obtain rfl := Option.some.inj hf
    exact x_iret hx hb hr hlocks hK hP hS dX9_costOf_25
set_option maxRecDepth 100000 in
set_option maxHeartbeats 4000000 in
theorem c_X9_count (l : Launch) (G : zGT) (hG : zOK G) (I J : zM) (x1 : Int32) {r : Int32} (hf : f_X9_count J x1 = some r) : Met l yX9_count wsX9_count (zrm 2 43) (va_Pc [.ref (G.2.1 359), .int x1] (zS G I J)) (zQi G r I J) 0 0 (zA G) := by
  refine zMet (cc := cX9_count) (n := 4) (ret := (some .int)) (by decide) rfl (Nat.le_of_ble_eq_true rfl) ?_
  intro p e s m args below meth c H locs ls F hK hP hS hl
  obtain ⟨hx, hb, hr, hml, hts, hown, hlocks⟩ := F
  have hown : s.vm.findClass RX9 = some m.cls := hown
  have hl : lv_has ls 4 [(0, .ref (G.2.1 359)), (1, .int x1)] := hl
  have hi9 : ∀ w ∈ wsX90, w ∈ wsX9_count := fun _ h => List.mem_cons_of_mem _ (List.mem_append_right _ h)
  have L72 : ∀ (n : Nat) (y2 : Int32) (y3 : Int32) (H : Heap) (locs : List Loc) (ls : Array Slot), f_X9_count_l72 J n y2 y3 = some r → va_P G.1 vwCl (zW G I J) H → va_S (zA G) s.heap H locs → lv_has ls 4 [(0, .ref (G.2.1 359)), (2, .int y2), (3, .int y3)] → W p l e (zrm 2 43) s m args below meth c H locs 0 0 (MQ below (zQi G r I J) args s 0 0 (zA G)) (F0 m 72 ls []) := by
    intro n
    induction n with
    | zero =>
      intro y2 y3 H locs ls hf
      rw [f_X9_count_l72] at hf
      cases hf
    | succ n ih =>
      intro y2 y3 H locs ls hf hP hS hl
      rw [f_X9_count_l72] at hf
      refine lv_iload_n hx hb dX9_count_72 rfl (lv_at hl 2 rfl) ?_
      refine lv_aload_n hx hb dX9_count_73 rfl (lv_at hl 0 rfl) ?_
      refine x_get (j := 0) (v := .ref (G.2.1 360)) hx hb hts hi9 hown hK hP zkL_359 rfl (by decide) (hts (.fieldLink RX9 9 "LeaseOfficeModel" "g" "[I") (by decide +kernel)) rfl (by decide) dX9_count_74 ?_
      refine lv_sipush (v := 1081) hx hb dX9_count_77 (by decide) ?_
      refine x_ialdL (j := 1081) hx hb hK hP (zK_lt zkL_360 (by decide)) (zE_15 (j := 1) zkL_360 zlL_360 rfl) (by decide) (by decide) dX9_count_80 ?_
      refine lv_icmp_ge (tgt := 106) hx hb dX9_count_81 (by decide) (fun c1 => ?_) (fun c1 => ?_)
      · have hf := zif_t c1 hf
        refine lv_iload_n hx hb dX9_count_106 rfl (lv_at hl 1 rfl) ?_
        obtain rfl := Option.some.inj hf
        exact x_iret hx hb hr hlocks hK hP hS dX9_count_107
      · have hf := zif_f c1 hf
        refine lv_iload_n hx hb dX9_count_84 rfl (lv_at hl 1 rfl) ?_
        refine lv_aload_n hx hb dX9_count_85 rfl (lv_at hl 0 rfl) ?_
        refine lv_iload_n hx hb dX9_count_86 rfl (lv_at hl 2 rfl) ?_
        obtain ⟨q2, hq2, hf⟩ := zb_e hf
        refine x_calli (x_runV (As := [.int y3]) (rest := [.int y2]) ⟨hx, hb, hml, hown, hts⟩ (c_X9_isOut l G hG I J y3 hq2) (cwV 1 hts gX9_count_X9_isOut rfl rfl rfl (by decide +kernel) ⟨Nat.le_of_ble_eq_true rfl, Nat.le_of_ble_eq_true rfl⟩) hK hP zkL_359 (by decide) rfl rfl hl.1 rfl (Nat.le_of_ble_eq_true rfl) dX9_count_87 ⟨Nat.zero_le _, Nat.zero_le _⟩) hS (fun H locs hP hS => ?_)
        refine lv_if_eq (tgt := 97) hx hb dX9_count_90 (by decide) (fun c3 => ?_) (fun c3 => ?_)
        · have hf := zif_t c3 hf
          refine lv_iconst (v := 0) hx hb dX9_count_97 (by decide) ?_
          refine lv_iadd hx hb dX9_count_98 ?_
          obtain ⟨w4, ew4, hf⟩ := zlet_e hf
          refine z_topi ew4 ?_
          refine lv_istore_n (lv' := [(2, .int w4), (0, .ref (G.2.1 359)), (3, .int y3)]) hx hb dX9_count_99 rfl hl (by decide) rfl (fun ls hl => ?_)
          refine lv_iinc (v := (y3 + 1)) (lv' := [(3, .int (y3 + 1)), (2, .int w4), (0, .ref (G.2.1 359))]) hx hb dX9_count_100 hl (k := 2) rfl rfl (by decide) rfl (fun ls hl => ?_)
          refine lv_goto (tgt := 72) hx hb dX9_count_103 (by decide) ?_
          exact ih w4 (y3 + 1) H locs ls hf hP hS (lv_sub hl [2, 1, 0] rfl)
        · have hf := zif_f c3 hf
          refine lv_iconst (v := 1) hx hb dX9_count_93 (by decide) ?_
          refine lv_goto (tgt := 98) hx hb dX9_count_94 (by decide) ?_
          refine lv_iadd hx hb dX9_count_98 ?_
          obtain ⟨w5, ew5, hf⟩ := zlet_e hf
          refine z_topi ew5 ?_
          refine lv_istore_n (lv' := [(2, .int w5), (0, .ref (G.2.1 359)), (3, .int y3)]) hx hb dX9_count_99 rfl hl (by decide) rfl (fun ls hl => ?_)
          refine lv_iinc (v := (y3 + 1)) (lv' := [(3, .int (y3 + 1)), (2, .int w5), (0, .ref (G.2.1 359))]) hx hb dX9_count_100 hl (k := 2) rfl rfl (by decide) rfl (fun ls hl => ?_)
          refine lv_goto (tgt := 72) hx hb dX9_count_103 (by decide) ?_
          exact ih w5 (y3 + 1) H locs ls hf hP hS (lv_sub hl [2, 1, 0] rfl)
  have L110 : ∀ (n : Nat) (y2 : Int32) (y3 : Int32) (H : Heap) (locs : List Loc) (ls : Array Slot), f_X9_count_l110 J n y2 y3 = some r → va_P G.1 vwCl (zW G I J) H → va_S (zA G) s.heap H locs → lv_has ls 4 [(0, .ref (G.2.1 359)), (2, .int y2), (3, .int y3)] → W p l e (zrm 2 43) s m args below meth c H locs 0 0 (MQ below (zQi G r I J) args s 0 0 (zA G)) (F0 m 110 ls []) := by
    intro n
    induction n with
    | zero =>
      intro y2 y3 H locs ls hf
      rw [f_X9_count_l110] at hf
      cases hf
    | succ n ih =>
      intro y2 y3 H locs ls hf hP hS hl
      rw [f_X9_count_l110] at hf
      refine lv_iload_n hx hb dX9_count_110 rfl (lv_at hl 2 rfl) ?_
      refine lv_aload_n hx hb dX9_count_111 rfl (lv_at hl 0 rfl) ?_
      refine x_get (j := 0) (v := .ref (G.2.1 360)) hx hb hts hi9 hown hK hP zkL_359 rfl (by decide) (hts (.fieldLink RX9 9 "LeaseOfficeModel" "g" "[I") (by decide +kernel)) rfl (by decide) dX9_count_112 ?_
      refine lv_sipush (v := 1081) hx hb dX9_count_115 (by decide) ?_
      refine x_ialdL (j := 1081) hx hb hK hP (zK_lt zkL_360 (by decide)) (zE_15 (j := 1) zkL_360 zlL_360 rfl) (by decide) (by decide) dX9_count_118 ?_
      refine lv_icmp_ge (tgt := 138) hx hb dX9_count_119 (by decide) (fun c6 => ?_) (fun c6 => ?_)
      · have hf := zif_t c6 hf
        refine lv_iload_n hx hb dX9_count_138 rfl (lv_at hl 1 rfl) ?_
        obtain rfl := Option.some.inj hf
        exact x_iret hx hb hr hlocks hK hP hS dX9_count_139
      · have hf := zif_f c6 hf
        refine lv_iload_n hx hb dX9_count_122 rfl (lv_at hl 1 rfl) ?_
        refine lv_aload_n hx hb dX9_count_123 rfl (lv_at hl 0 rfl) ?_
        refine lv_iload_n hx hb dX9_count_124 rfl (lv_at hl 2 rfl) ?_
        refine lv_bipush (v := 57) hx hb dX9_count_125 (by decide) ?_
        obtain ⟨q7, hq7, hf⟩ := zb_e hf
        refine x_calli (x_runV (As := [.int y3, .int 57]) (rest := [.int y2]) ⟨hx, hb, hml, hown, hts⟩ (c_X9_t l G hG I J y3 57 hq7) (cwV 2 hts gX9_count_X9_t rfl rfl rfl (by decide +kernel) ⟨Nat.le_of_ble_eq_true rfl, Nat.le_of_ble_eq_true rfl⟩) hK hP zkL_359 (by decide) rfl rfl hl.1 rfl (Nat.le_of_ble_eq_true rfl) dX9_count_127 ⟨Nat.zero_le _, Nat.zero_le _⟩) hS (fun H locs hP hS => ?_)
        refine lv_iadd hx hb dX9_count_130 ?_
        obtain ⟨w8, ew8, hf⟩ := zlet_e hf
        refine z_topi ew8 ?_
        refine lv_istore_n (lv' := [(2, .int w8), (0, .ref (G.2.1 359)), (3, .int y3)]) hx hb dX9_count_131 rfl hl (by decide) rfl (fun ls hl => ?_)
        refine lv_iinc (v := (y3 + 1)) (lv' := [(3, .int (y3 + 1)), (2, .int w8), (0, .ref (G.2.1 359))]) hx hb dX9_count_132 hl (k := 2) rfl rfl (by decide) rfl (fun ls hl => ?_)
        refine lv_goto (tgt := 110) hx hb dX9_count_135 (by decide) ?_
        exact ih w8 (y3 + 1) H locs ls hf hP hS (lv_sub hl [2, 1, 0] rfl)
  have L160 : ∀ (n : Nat) (y2 : Int32) (y3 : Int32) (H : Heap) (locs : List Loc) (ls : Array Slot), f_X9_count_l160 J n y2 y3 = some r → va_P G.1 vwCl (zW G I J) H → va_S (zA G) s.heap H locs → lv_has ls 4 [(0, .ref (G.2.1 359)), (2, .int y2), (3, .int y3)] → W p l e (zrm 2 43) s m args below meth c H locs 0 0 (MQ below (zQi G r I J) args s 0 0 (zA G)) (F0 m 160 ls []) := by
    intro n
    induction n with
    | zero =>
      intro y2 y3 H locs ls hf
      rw [f_X9_count_l160] at hf
      cases hf
    | succ n ih =>
      intro y2 y3 H locs ls hf hP hS hl
      rw [f_X9_count_l160] at hf
      refine lv_iload_n hx hb dX9_count_160 rfl (lv_at hl 2 rfl) ?_
      refine lv_aload_n hx hb dX9_count_161 rfl (lv_at hl 0 rfl) ?_
      refine x_get (j := 0) (v := .ref (G.2.1 360)) hx hb hts hi9 hown hK hP zkL_359 rfl (by decide) (hts (.fieldLink RX9 9 "LeaseOfficeModel" "g" "[I") (by decide +kernel)) rfl (by decide) dX9_count_162 ?_
      refine lv_sipush (v := 1080) hx hb dX9_count_165 (by decide) ?_
      refine x_ialdL (j := 1080) hx hb hK hP (zK_lt zkL_360 (by decide)) (zE_15 (j := 1) zkL_360 zlL_360 rfl) (by decide) (by decide) dX9_count_168 ?_
      refine lv_icmp_ge (tgt := 187) hx hb dX9_count_169 (by decide) (fun c9 => ?_) (fun c9 => ?_)
      · have hf := zif_t c9 hf
        refine lv_iload_n hx hb dX9_count_187 rfl (lv_at hl 1 rfl) ?_
        obtain rfl := Option.some.inj hf
        exact x_iret hx hb hr hlocks hK hP hS dX9_count_188
      · have hf := zif_f c9 hf
        refine lv_iload_n hx hb dX9_count_172 rfl (lv_at hl 1 rfl) ?_
        refine lv_aload_n hx hb dX9_count_173 rfl (lv_at hl 0 rfl) ?_
        refine lv_iload_n hx hb dX9_count_174 rfl (lv_at hl 2 rfl) ?_
        refine lv_iconst (v := 4) hx hb dX9_count_175 (by decide) ?_
        obtain ⟨q10, hq10, hf⟩ := zb_e hf
        refine x_calli (x_runV (As := [.int y3, .int 4]) (rest := [.int y2]) ⟨hx, hb, hml, hown, hts⟩ (c_X9_p l G hG I J y3 4 hq10) (cwV 2 hts gX9_count_X9_p rfl rfl rfl (by decide +kernel) ⟨Nat.le_of_ble_eq_true rfl, Nat.le_of_ble_eq_true rfl⟩) hK hP zkL_359 (by decide) rfl rfl hl.1 rfl (Nat.le_of_ble_eq_true rfl) dX9_count_176 ⟨Nat.zero_le _, Nat.zero_le _⟩) hS (fun H locs hP hS => ?_)
        refine lv_iadd hx hb dX9_count_179 ?_
        obtain ⟨w11, ew11, hf⟩ := zlet_e hf
        refine z_topi ew11 ?_
        refine lv_istore_n (lv' := [(2, .int w11), (0, .ref (G.2.1 359)), (3, .int y3)]) hx hb dX9_count_180 rfl hl (by decide) rfl (fun ls hl => ?_)
        refine lv_iinc (v := (y3 + 1)) (lv' := [(3, .int (y3 + 1)), (2, .int w11), (0, .ref (G.2.1 359))]) hx hb dX9_count_181 hl (k := 2) rfl rfl (by decide) rfl (fun ls hl => ?_)
        refine lv_goto (tgt := 160) hx hb dX9_count_184 (by decide) ?_
        exact ih w11 (y3 + 1) H locs ls hf hP hS (lv_sub hl [2, 1, 0] rfl)
  have L196 : ∀ (n : Nat) (y2 : Int32) (y3 : Int32) (H : Heap) (locs : List Loc) (ls : Array Slot), f_X9_count_l196 J n y2 y3 = some r → va_P G.1 vwCl (zW G I J) H → va_S (zA G) s.heap H locs → lv_has ls 4 [(0, .ref (G.2.1 359)), (2, .int y2), (3, .int y3)] → W p l e (zrm 2 43) s m args below meth c H locs 0 0 (MQ below (zQi G r I J) args s 0 0 (zA G)) (F0 m 196 ls []) := by
    intro n
    induction n with
    | zero =>
      intro y2 y3 H locs ls hf
      rw [f_X9_count_l196] at hf
      cases hf
    | succ n ih =>
      intro y2 y3 H locs ls hf hP hS hl
      rw [f_X9_count_l196] at hf
      refine lv_iload_n hx hb dX9_count_196 rfl (lv_at hl 2 rfl) ?_
      refine lv_bipush (v := 6) hx hb dX9_count_197 (by decide) ?_
      refine lv_icmp_ge (tgt := 225) hx hb dX9_count_199 (by decide) (fun c12 => ?_) (fun c12 => ?_)
      · have hf := zif_t c12 hf
        refine lv_iload_n hx hb dX9_count_225 rfl (lv_at hl 1 rfl) ?_
        obtain rfl := Option.some.inj hf
        exact x_iret hx hb hr hlocks hK hP hS dX9_count_226
      · have hf := zif_f c12 hf
        refine lv_iload_n hx hb dX9_count_202 rfl (lv_at hl 1 rfl) ?_
        refine lv_aload_n hx hb dX9_count_203 rfl (lv_at hl 0 rfl) ?_
        refine x_get (j := 9) (v := .ref (G.2.1 366)) hx hb hts hi9 hown hK hP zkL_359 rfl (by decide) (hts (.fieldLink RX9 28 "LeaseOfficeModel" "held" "[I") (by decide +kernel)) rfl (by decide) dX9_count_204 ?_
        refine lv_iload_n hx hb dX9_count_207 rfl (lv_at hl 2 rfl) ?_
        obtain ⟨h13, hf⟩ := zck_e hf
        refine x_iald hx hb hK hP (zK_lt zkL_366 (by decide)) (zE_15 (j := 7) zkL_366 zlL_366 rfl) (zin_e h13) dX9_count_208 ?_
        refine lv_if_eq (tgt := 216) hx hb dX9_count_209 (by decide) (fun c14 => ?_) (fun c14 => ?_)
        · have hf := zif_t c14 hf
          refine lv_iconst (v := 0) hx hb dX9_count_216 (by decide) ?_
          refine lv_iadd hx hb dX9_count_217 ?_
          obtain ⟨w15, ew15, hf⟩ := zlet_e hf
          refine z_topi ew15 ?_
          refine lv_istore_n (lv' := [(2, .int w15), (0, .ref (G.2.1 359)), (3, .int y3)]) hx hb dX9_count_218 rfl hl (by decide) rfl (fun ls hl => ?_)
          refine lv_iinc (v := (y3 + 1)) (lv' := [(3, .int (y3 + 1)), (2, .int w15), (0, .ref (G.2.1 359))]) hx hb dX9_count_219 hl (k := 2) rfl rfl (by decide) rfl (fun ls hl => ?_)
          refine lv_goto (tgt := 196) hx hb dX9_count_222 (by decide) ?_
          exact ih w15 (y3 + 1) H locs ls hf hP hS (lv_sub hl [2, 1, 0] rfl)
        · have hf := zif_f c14 hf
          refine lv_iconst (v := 1) hx hb dX9_count_212 (by decide) ?_
          refine lv_goto (tgt := 217) hx hb dX9_count_213 (by decide) ?_
          refine lv_iadd hx hb dX9_count_217 ?_
          obtain ⟨w16, ew16, hf⟩ := zlet_e hf
          refine z_topi ew16 ?_
          refine lv_istore_n (lv' := [(2, .int w16), (0, .ref (G.2.1 359)), (3, .int y3)]) hx hb dX9_count_218 rfl hl (by decide) rfl (fun ls hl => ?_)
          refine lv_iinc (v := (y3 + 1)) (lv' := [(3, .int (y3 + 1)), (2, .int w16), (0, .ref (G.2.1 359))]) hx hb dX9_count_219 hl (k := 2) rfl rfl (by decide) rfl (fun ls hl => ?_)
          refine lv_goto (tgt := 196) hx hb dX9_count_222 (by decide) ?_
          exact ih w16 (y3 + 1) H locs ls hf hP hS (lv_sub hl [2, 1, 0] rfl)
  unfold f_X9_count at hf
  refine lv_iconst (v := 0) hx hb dX9_count_0 (by decide) ?_
  refine lv_istore_n (lv' := [(2, .int 0), (0, .ref (G.2.1 359)), (1, .int x1)]) hx hb dX9_count_1 rfl hl (by decide) rfl (fun ls hl => ?_)
  refine lv_iload_n hx hb dX9_count_2 rfl (lv_at hl 2 rfl) ?_
  rcases Classical.em (x1 = 0) with c17 | c17
  · have hf := zif_t c17 hf
    refine lv_tableIn (off := 49) (tgt := 52) hx hb dX9_count_3 (by rw [c17]; decide) (by rw [c17]; decide) (by rw [c17]; decide) (by decide) ?_
    refine lv_aload_n hx hb dX9_count_52 rfl (lv_at hl 1 rfl) ?_
    refine x_get (j := 0) (v := .ref (G.2.1 360)) hx hb hts hi9 hown hK hP zkL_359 rfl (by decide) (hts (.fieldLink RX9 9 "LeaseOfficeModel" "g" "[I") (by decide +kernel)) rfl (by decide) dX9_count_53 ?_
    refine lv_sipush (v := 1080) hx hb dX9_count_56 (by decide) ?_
    refine x_ialdL (j := 1080) hx hb hK hP (zK_lt zkL_360 (by decide)) (zE_15 (j := 1) zkL_360 zlL_360 rfl) (by decide) (by decide) dX9_count_59 ?_
    obtain rfl := Option.some.inj hf
    exact x_iret hx hb hr hlocks hK hP hS dX9_count_60
  · have hf := zif_f c17 hf
    rcases Classical.em (x1 = 1) with c18 | c18
    · have hf := zif_t c18 hf
      refine lv_tableIn (off := 58) (tgt := 61) hx hb dX9_count_3 (by rw [c18]; decide) (by rw [c18]; decide) (by rw [c18]; decide) (by decide) ?_
      refine lv_aload_n hx hb dX9_count_61 rfl (lv_at hl 1 rfl) ?_
      refine x_get (j := 0) (v := .ref (G.2.1 360)) hx hb hts hi9 hown hK hP zkL_359 rfl (by decide) (hts (.fieldLink RX9 9 "LeaseOfficeModel" "g" "[I") (by decide +kernel)) rfl (by decide) dX9_count_62 ?_
      refine lv_sipush (v := 1081) hx hb dX9_count_65 (by decide) ?_
      refine x_ialdL (j := 1081) hx hb hK hP (zK_lt zkL_360 (by decide)) (zE_15 (j := 1) zkL_360 zlL_360 rfl) (by decide) (by decide) dX9_count_68 ?_
      obtain rfl := Option.some.inj hf
      exact x_iret hx hb hr hlocks hK hP hS dX9_count_69
    · have hf := zif_f c18 hf
      rcases Classical.em (x1 = 2) with c19 | c19
      · have hf := zif_t c19 hf
        refine lv_tableIn (off := 67) (tgt := 70) hx hb dX9_count_3 (by rw [c19]; decide) (by rw [c19]; decide) (by rw [c19]; decide) (by decide) ?_
        refine lv_iconst (v := 0) hx hb dX9_count_70 (by decide) ?_
        refine lv_istore_n (lv' := [(3, .int 0), (2, .int 0), (0, .ref (G.2.1 359)), (1, .int x1)]) hx hb dX9_count_71 rfl hl (by decide) rfl (fun ls hl => ?_)
        exact L72 zFu 0 0 H locs ls hf hP hS (lv_sub hl [2, 1, 0] rfl)
      · have hf := zif_f c19 hf
        rcases Classical.em (x1 = 3) with c20 | c20
        · have hf := zif_t c20 hf
          refine lv_tableIn (off := 105) (tgt := 108) hx hb dX9_count_3 (by rw [c20]; decide) (by rw [c20]; decide) (by rw [c20]; decide) (by decide) ?_
          refine lv_iconst (v := 0) hx hb dX9_count_108 (by decide) ?_
          refine lv_istore_n (lv' := [(3, .int 0), (2, .int 0), (0, .ref (G.2.1 359)), (1, .int x1)]) hx hb dX9_count_109 rfl hl (by decide) rfl (fun ls hl => ?_)
          exact L110 zFu 0 0 H locs ls hf hP hS (lv_sub hl [2, 1, 0] rfl)
        · have hf := zif_f c20 hf
          rcases Classical.em (x1 = 4) with c21 | c21
          · have hf := zif_t c21 hf
            refine lv_tableIn (off := 137) (tgt := 140) hx hb dX9_count_3 (by rw [c21]; decide) (by rw [c21]; decide) (by rw [c21]; decide) (by decide) ?_
            refine lv_aload_n hx hb dX9_count_140 rfl (lv_at hl 1 rfl) ?_
            refine x_get (j := 0) (v := .ref (G.2.1 360)) hx hb hts hi9 hown hK hP zkL_359 rfl (by decide) (hts (.fieldLink RX9 9 "LeaseOfficeModel" "g" "[I") (by decide +kernel)) rfl (by decide) dX9_count_141 ?_
            refine lv_sipush (v := 1082) hx hb dX9_count_144 (by decide) ?_
            refine x_ialdL (j := 1082) hx hb hK hP (zK_lt zkL_360 (by decide)) (zE_15 (j := 1) zkL_360 zlL_360 rfl) (by decide) (by decide) dX9_count_147 ?_
            obtain rfl := Option.some.inj hf
            exact x_iret hx hb hr hlocks hK hP hS dX9_count_148
          · have hf := zif_f c21 hf
            rcases Classical.em (x1 = 5) with c22 | c22
            · have hf := zif_t c22 hf
              refine lv_tableIn (off := 146) (tgt := 149) hx hb dX9_count_3 (by rw [c22]; decide) (by rw [c22]; decide) (by rw [c22]; decide) (by decide) ?_
              refine lv_aload_n hx hb dX9_count_149 rfl (lv_at hl 1 rfl) ?_
              refine x_get (j := 0) (v := .ref (G.2.1 360)) hx hb hts hi9 hown hK hP zkL_359 rfl (by decide) (hts (.fieldLink RX9 9 "LeaseOfficeModel" "g" "[I") (by decide +kernel)) rfl (by decide) dX9_count_150 ?_
              refine lv_sipush (v := 1083) hx hb dX9_count_153 (by decide) ?_
              refine x_ialdL (j := 1083) hx hb hK hP (zK_lt zkL_360 (by decide)) (zE_15 (j := 1) zkL_360 zlL_360 rfl) (by decide) (by decide) dX9_count_156 ?_
              obtain rfl := Option.some.inj hf
              exact x_iret hx hb hr hlocks hK hP hS dX9_count_157
            · have hf := zif_f c22 hf
              rcases Classical.em (x1 = 6) with c23 | c23
              · have hf := zif_t c23 hf
                refine lv_tableIn (off := 155) (tgt := 158) hx hb dX9_count_3 (by rw [c23]; decide) (by rw [c23]; decide) (by rw [c23]; decide) (by decide) ?_
                refine lv_iconst (v := 0) hx hb dX9_count_158 (by decide) ?_
                refine lv_istore_n (lv' := [(3, .int 0), (2, .int 0), (0, .ref (G.2.1 359)), (1, .int x1)]) hx hb dX9_count_159 rfl hl (by decide) rfl (fun ls hl => ?_)
                exact L160 zFu 0 0 H locs ls hf hP hS (lv_sub hl [2, 1, 0] rfl)
              · have hf := zif_f c23 hf
                rcases Classical.em (x1 = 7) with c24 | c24
                · have hf := zif_t c24 hf
                  refine lv_tableIn (off := 186) (tgt := 189) hx hb dX9_count_3 (by rw [c24]; decide) (by rw [c24]; decide) (by rw [c24]; decide) (by decide) ?_
                  refine lv_aload_n hx hb dX9_count_189 rfl (lv_at hl 1 rfl) ?_
                  refine x_get (j := 8) (v := .int (J 0 8)) hx hb hts hi9 hown hK hP zkL_359 rfl (by decide) (hts (.fieldLink RX9 208 "LeaseOfficeModel" "tapeMany" "I") (by decide +kernel)) rfl (by decide) dX9_count_190 ?_
                  obtain rfl := Option.some.inj hf
                  exact x_iret hx hb hr hlocks hK hP hS dX9_count_193
                · have hf := zif_f c24 hf
                  rcases Classical.em (x1 = 8) with c25 | c25
                  · have hf := zif_t c25 hf
                    refine lv_tableIn (off := 191) (tgt := 194) hx hb dX9_count_3 (by rw [c25]; decide) (by rw [c25]; decide) (by rw [c25]; decide) (by decide) ?_
                    refine lv_iconst (v := 0) hx hb dX9_count_194 (by decide) ?_
                    refine lv_istore_n (lv' := [(3, .int 0), (2, .int 0), (0, .ref (G.2.1 359)), (1, .int x1)]) hx hb dX9_count_195 rfl hl (by decide) rfl (fun ls hl => ?_)
                    exact L196 zFu 0 0 H locs ls hf hP hS (lv_sub hl [2, 1, 0] rfl)
                  · have hf := zif_f c25 hf
                    have hD : W p l e (zrm 2 43) s m args below meth c H locs 0 0 (MQ below (zQi G r I J) args s 0 0 (zA G)) (F0 m 227 ls []) := by
                      refine lv_iconst (v := (-1)) hx hb dX9_count_227 (by decide) ?_
                      obtain rfl := Option.some.inj hf
                      exact x_iret hx hb hr hlocks hK hP hS dX9_count_228
                    rcases z_sw x1 0 8 9 (by decide) with h | ⟨k, hk, e⟩
                    · exact lv_tableOut hx hb dX9_count_3 h (by decide) hD
                    · match k, hk, e with
                      | 0, _, e => exact absurd (e.trans (by decide)) c17
                      | 1, _, e => exact absurd (e.trans (by decide)) c18
                      | 2, _, e => exact absurd (e.trans (by decide)) c19
                      | 3, _, e => exact absurd (e.trans (by decide)) c20
                      | 4, _, e => exact absurd (e.trans (by decide)) c21
                      | 5, _, e => exact absurd (e.trans (by decide)) c22
                      | 6, _, e => exact absurd (e.trans (by decide)) c23
                      | 7, _, e => exact absurd (e.trans (by decide)) c24
                      | 8, _, e => exact absurd (e.trans (by decide)) c25
                      | _ + 9, hk, _ => exact absurd hk (by omega)
set_option maxRecDepth 100000 in
set_option maxHeartbeats 4000000 in
theorem c_X9_cut (l : Launch) (G : zGT) (hG : zOK G) (I J : zM) (x0 : Int32) (x1 : Int32) (x2 : Int32) {r : Int32} (hf : f_X9_cut J x0 x1 x2 = some r) : Met l yX9_cut wsX9_cut (zrm 0 0) (va_Pc [.int x0, .int x1, .int x2] (zS G I J)) (zQi G r I J) 0 0 (zA G) := by
  refine zMet (cc := cX9_cut) (n := 3) (ret := (some .int)) (by decide) rfl (Nat.le_of_ble_eq_true rfl) ?_
  intro p e s m args below meth c H locs ls F hK hP hS hl
  obtain ⟨hx, hb, hr, hml, hts, hown, hlocks⟩ := F
  have hown : s.vm.findClass RX9 = some m.cls := hown
  have hl : lv_has ls 3 [(0, .int x0), (1, .int x1), (2, .int x2)] := hl
  unfold f_X9_cut at hf
  refine lv_iload_n hx hb dX9_cut_0 rfl (lv_at hl 0 rfl) ?_
  refine lv_iload_n hx hb dX9_cut_1 rfl (lv_at hl 1 rfl) ?_
  refine lv_icmp_ge (tgt := 9) hx hb dX9_cut_2 (by decide) (fun c1 => ?_) (fun c1 => ?_)
  · have hf := zif_t c1 hf
    refine lv_iload_n hx hb dX9_cut_9 rfl (lv_at hl 0 rfl) ?_
    refine lv_iload_n hx hb dX9_cut_10 rfl (lv_at hl 2 rfl) ?_
    refine lv_icmp_le (tgt := 18) hx hb dX9_cut_11 (by decide) (fun c2 => ?_) (fun c2 => ?_)
    · have hf := zif_t c2 hf
      refine lv_iload_n hx hb dX9_cut_18 rfl (lv_at hl 0 rfl) ?_
      obtain rfl := Option.some.inj hf
      exact x_iret hx hb hr hlocks hK hP hS dX9_cut_19
    · have hf := zif_f c2 hf
      refine lv_iload_n hx hb dX9_cut_14 rfl (lv_at hl 2 rfl) ?_
      refine lv_goto (tgt := 19) hx hb dX9_cut_15 (by decide) ?_
      obtain rfl := Option.some.inj hf
      exact x_iret hx hb hr hlocks hK hP hS dX9_cut_19
  · have hf := zif_f c1 hf
    refine lv_iload_n hx hb dX9_cut_5 rfl (lv_at hl 1 rfl) ?_
    refine lv_goto (tgt := 19) hx hb dX9_cut_6 (by decide) ?_
    obtain rfl := Option.some.inj hf
    exact x_iret hx hb hr hlocks hK hP hS dX9_cut_19
set_option maxRecDepth 100000 in
set_option maxHeartbeats 4000000 in
theorem c_X9_days (l : Launch) (G : zGT) (hG : zOK G) (I J : zM) (x1 : Int32) {r : Int32 × zM} (hf : f_X9_days J x1 = some r) : Met l yX9_days wsX9_days (zrm 1 22) (va_Pc [.ref (G.2.1 359), .int x1] (zS G I J)) (zQi G r.1 I r.2) 0 0 (zA G) := by
  refine zMet (cc := cX9_days) (n := 2) (ret := (some .int)) (by decide) rfl (Nat.le_of_ble_eq_true rfl) ?_
  intro p e s m args below meth c H locs ls F hK hP hS hl
  obtain ⟨hx, hb, hr, hml, hts, hown, hlocks⟩ := F
  have hown : s.vm.findClass RX9 = some m.cls := hown
  have hl : lv_has ls 2 [(0, .ref (G.2.1 359)), (1, .int x1)] := hl
  have hi9 : ∀ w ∈ wsX90, w ∈ wsX9_days := fun _ h => List.mem_cons_of_mem _ (List.mem_append_right _ h)
  unfold f_X9_days at hf
  refine lv_iload_n hx hb dX9_days_0 rfl (lv_at hl 1 rfl) ?_
  refine lv_iconst (v := 1) hx hb dX9_days_1 (by decide) ?_
  refine lv_bipush (v := 99) hx hb dX9_days_2 (by decide) ?_
  obtain ⟨q1, hq1, hf⟩ := zb_e hf
  refine x_calli (x_runS (As := [.int x1, .int 1, .int 99]) (rest := []) ⟨hx, hb, hml, hown, hts⟩ (c_X9_in l G hG I J x1 1 99 hq1) (va_cwS 3 hts gX9_days_X9_in rfl rfl rfl (by decide +kernel) ⟨Nat.le_of_ble_eq_true rfl, Nat.le_of_ble_eq_true rfl⟩) hK hP rfl hl.1 rfl (Nat.le_of_ble_eq_true rfl) dX9_days_4 ⟨Nat.zero_le _, Nat.zero_le _⟩) hS (fun H locs hP hS => ?_)
  refine lv_if_ne (tgt := 12) hx hb dX9_days_7 (by decide) (fun c2 => ?_) (fun c2 => ?_)
  · have hf := zif_f c2 hf
    refine lv_aload_n hx hb dX9_days_12 rfl (lv_at hl 0 rfl) ?_
    refine x_get (j := 0) (v := .ref (G.2.1 360)) hx hb hts hi9 hown hK hP zkL_359 rfl (by decide) (hts (.fieldLink RX9 9 "LeaseOfficeModel" "g" "[I") (by decide +kernel)) rfl (by decide) dX9_days_13 ?_
    refine lv_sipush (v := 1082) hx hb dX9_days_16 (by decide) ?_
    refine lv_dup2_11 hx hb dX9_days_19 rfl rfl ?_
    refine x_ialdL (j := 1082) hx hb hK hP (zK_lt zkL_360 (by decide)) (zE_15 (j := 1) zkL_360 zlL_360 rfl) (by decide) (by decide) dX9_days_20 ?_
    refine lv_iload_n hx hb dX9_days_21 rfl (lv_at hl 1 rfl) ?_
    refine lv_iadd hx hb dX9_days_22 ?_
    obtain ⟨M3, eM3, hf⟩ := zlet_e hf
    refine x_iastM (j := 1) (a := 1082) eM3 (by decide) hx hb hG hK hP hS zkL_360 zlL_360 (zin_e (by decide)) dX9_days_23 (fun H locs hP hS => ?_)
    refine lv_aload_n hx hb dX9_days_24 rfl (lv_at hl 0 rfl) ?_
    refine x_get (j := 0) (v := .ref (G.2.1 360)) hx hb hts hi9 hown hK hP zkL_359 rfl (by decide) (hts (.fieldLink RX9 9 "LeaseOfficeModel" "g" "[I") (by decide +kernel)) rfl (by decide) dX9_days_25 ?_
    refine lv_sipush (v := 1082) hx hb dX9_days_28 (by decide) ?_
    refine x_ialdL (j := 1082) hx hb hK hP (zK_lt zkL_360 (by decide)) (zE_15 (j := 1) zkL_360 zlL_360 rfl) (by decide) (by decide) dX9_days_31 ?_
    obtain rfl := Option.some.inj hf
    exact x_iret hx hb hr hlocks hK hP hS dX9_days_32
  · have hf := zif_t c2 hf
    refine lv_iconst (v := (-1)) hx hb dX9_days_10 (by decide) ?_
    obtain rfl := Option.some.inj hf
    exact x_iret hx hb hr hlocks hK hP hS dX9_days_11
set_option maxRecDepth 100000 in
set_option maxHeartbeats 4000000 in
theorem c_X9_isName (l : Launch) (G : zGT) (hG : zOK G) (I J : zM) (x0 : Int32) {r : Int32} (hf : f_X9_isName J x0 = some r) : Met l yX9_isName wsX9_isName (zrm 1 22) (va_Pc [.int x0] (zS G I J)) (zQi G r I J) 0 0 (zA G) := by
  refine zMet (cc := cX9_isName) (n := 2) (ret := (some .boolean)) (by decide) rfl (Nat.le_of_ble_eq_true rfl) ?_
  intro p e s m args below meth c H locs ls F hK hP hS hl
  obtain ⟨hx, hb, hr, hml, hts, hown, hlocks⟩ := F
  have hown : s.vm.findClass RX9 = some m.cls := hown
  have hl : lv_has ls 2 [(0, .int x0)] := hl
  have L15 : ∀ (n : Nat) (y1 : Int32) (H : Heap) (locs : List Loc) (ls : Array Slot), f_X9_isName_l15 J n y1 = some r → va_P G.1 vwCl (zW G I J) H → va_S (zA G) s.heap H locs → lv_has ls 2 [(1, .int y1)] → W p l e (zrm 1 22) s m args below meth c H locs 0 0 (MQ below (zQi G r I J) args s 0 0 (zA G)) (F0 m 15 ls []) := by
    intro n
    induction n with
    | zero =>
      intro y1 H locs ls hf
      rw [f_X9_isName_l15] at hf
      cases hf
    | succ n ih =>
      intro y1 H locs ls hf hP hS hl
      rw [f_X9_isName_l15] at hf
      refine lv_iload_n hx hb dX9_isName_15 rfl (lv_at hl 0 rfl) ?_
      refine lv_if_le (tgt := 36) hx hb dX9_isName_16 (by decide) (fun c3 => ?_) (fun c3 => ?_)
      · have hf := zif_t c3 hf
        refine lv_iconst (v := 1) hx hb dX9_isName_36 (by decide) ?_
        obtain rfl := Option.some.inj hf
        exact x_zret (v := 1) rfl hx hb hr hlocks hK hP hS dX9_isName_37
      · have hf := zif_f c3 hf
        refine lv_iload_n hx hb dX9_isName_19 rfl (lv_at hl 0 rfl) ?_
        refine lv_bipush (v := 27) hx hb dX9_isName_20 (by decide) ?_
        refine lv_irem hx hb dX9_isName_22 (by decide) ?_
        refine lv_if_ne (tgt := 28) hx hb dX9_isName_23 (by decide) (fun c4 => ?_) (fun c4 => ?_)
        · have hf := zif_f c4 hf
          refine lv_iload_n hx hb dX9_isName_28 rfl (lv_at hl 0 rfl) ?_
          refine lv_bipush (v := 27) hx hb dX9_isName_29 (by decide) ?_
          refine lv_idiv hx hb dX9_isName_31 (by decide) ?_
          obtain ⟨w5, ew5, hf⟩ := zlet_e hf
          refine z_topi ew5 ?_
          refine lv_istore_n (lv' := [(1, .int w5)]) hx hb dX9_isName_32 rfl hl (by decide) rfl (fun ls hl => ?_)
          refine lv_goto (tgt := 15) hx hb dX9_isName_33 (by decide) ?_
          exact ih w5 H locs ls hf hP hS (lv_sub hl [0] rfl)
        · have hf := zif_t c4 hf
          refine lv_iconst (v := 0) hx hb dX9_isName_26 (by decide) ?_
          obtain rfl := Option.some.inj hf
          exact x_zret (v := 0) rfl hx hb hr hlocks hK hP hS dX9_isName_27
  unfold f_X9_isName at hf
  refine lv_iload_n hx hb dX9_isName_0 rfl (lv_at hl 0 rfl) ?_
  refine lv_iconst (v := 1) hx hb dX9_isName_1 (by decide) ?_
  refine lv_sipush (v := 19682) hx hb dX9_isName_2 (by decide) ?_
  obtain ⟨q1, hq1, hf⟩ := zb_e hf
  refine x_calli (x_runS (As := [.int x0, .int 1, .int 19682]) (rest := []) ⟨hx, hb, hml, hown, hts⟩ (c_X9_in l G hG I J x0 1 19682 hq1) (va_cwS 3 hts gX9_isName_X9_in rfl rfl rfl (by decide +kernel) ⟨Nat.le_of_ble_eq_true rfl, Nat.le_of_ble_eq_true rfl⟩) hK hP rfl hl.1 rfl (Nat.le_of_ble_eq_true rfl) dX9_isName_5 ⟨Nat.zero_le _, Nat.zero_le _⟩) hS (fun H locs hP hS => ?_)
  refine lv_if_ne (tgt := 13) hx hb dX9_isName_8 (by decide) (fun c2 => ?_) (fun c2 => ?_)
  · have hf := zif_f c2 hf
    refine lv_iload_n hx hb dX9_isName_13 rfl (lv_at hl 0 rfl) ?_
    refine lv_istore_n (lv' := [(1, .int x0), (0, .int x0)]) hx hb dX9_isName_14 rfl hl (by decide) rfl (fun ls hl => ?_)
    exact L15 zFu x0 H locs ls hf hP hS (lv_sub hl [0] rfl)
  · have hf := zif_t c2 hf
    refine lv_iconst (v := 0) hx hb dX9_isName_11 (by decide) ?_
    obtain rfl := Option.some.inj hf
    exact x_zret (v := 0) rfl hx hb hr hlocks hK hP hS dX9_isName_12
set_option maxRecDepth 100000 in
set_option maxHeartbeats 4000000 in
theorem c_X9_setP (l : Launch) (G : zGT) (hG : zOK G) (I J : zM) (x1 : Int32) (x2 : Int32) (x3 : Int32) {r : zM} (hf : f_X9_setP J x1 x2 x3 = some r) : Met l yX9_setP wsX9_setP (zrm 0 0) (va_Pc [.ref (G.2.1 359), .int x1, .int x2, .int x3] (zS G I J)) (zQv G I r) 0 0 (zA G) := by
  refine zMet (cc := cX9_setP) (n := 4) (ret := none) (by decide) rfl (Nat.le_of_ble_eq_true rfl) ?_
  intro p e s m args below meth c H locs ls F hK hP hS hl
  obtain ⟨hx, hb, hr, hml, hts, hown, hlocks⟩ := F
  have hown : s.vm.findClass RX9 = some m.cls := hown
  have hl : lv_has ls 4 [(0, .ref (G.2.1 359)), (1, .int x1), (2, .int x2), (3, .int x3)] := hl
  have hi9 : ∀ w ∈ wsX90, w ∈ wsX9_setP := fun _ h => List.mem_cons_of_mem _ (List.mem_append_right _ h)
  unfold f_X9_setP at hf
  refine lv_aload_n hx hb dX9_setP_0 rfl (lv_at hl 0 rfl) ?_
  refine x_get (j := 0) (v := .ref (G.2.1 360)) hx hb hts hi9 hown hK hP zkL_359 rfl (by decide) (hts (.fieldLink RX9 9 "LeaseOfficeModel" "g" "[I") (by decide +kernel)) rfl (by decide) dX9_setP_1 ?_
  refine lv_iload_n hx hb dX9_setP_4 rfl (lv_at hl 1 rfl) ?_
  refine lv_bipush (v := 15) hx hb dX9_setP_5 (by decide) ?_
  refine lv_imul hx hb dX9_setP_7 ?_
  refine lv_iload_n hx hb dX9_setP_8 rfl (lv_at hl 2 rfl) ?_
  refine lv_iadd hx hb dX9_setP_9 ?_
  refine lv_iload_n hx hb dX9_setP_10 rfl (lv_at hl 3 rfl) ?_
  obtain ⟨h2, hf⟩ := zck_e hf
  obtain ⟨M1, eM1, hf⟩ := zlet_e hf
  refine x_iastM (j := 1) (a := ((x1 * 15) + x2).toNatClampNeg) eM1 rfl hx hb hG hK hP hS zkL_360 zlL_360 (zin_e h2) dX9_setP_11 (fun H locs hP hS => ?_)
  obtain rfl := Option.some.inj hf
  exact x_vret hx hb hr hlocks hK hP hS dX9_setP_12
set_option maxRecDepth 100000 in
set_option maxHeartbeats 4000000 in
theorem c_X9_person (l : Launch) (G : zGT) (hG : zOK G) (I J : zM) (x1 : Int32) (x2 : Int32) {r : Int32 × zM} (hf : f_X9_person J x1 x2 = some r) : Met l yX9_person wsX9_person (zrm 2 43) (va_Pc [.ref (G.2.1 359), .int x1, .int x2] (zS G I J)) (zQi G r.1 I r.2) 0 0 (zA G) := by
  refine zMet (cc := cX9_person) (n := 5) (ret := (some .int)) (by decide) rfl (Nat.le_of_ble_eq_true rfl) ?_
  intro p e s m args below meth c H locs ls F hK hP hS hl
  obtain ⟨hx, hb, hr, hml, hts, hown, hlocks⟩ := F
  have hown : s.vm.findClass RX9 = some m.cls := hown
  have hl : lv_has ls 5 [(0, .ref (G.2.1 359)), (1, .int x1), (2, .int x2)] := hl
  have hi9 : ∀ w ∈ wsX90, w ∈ wsX9_person := fun _ h => List.mem_cons_of_mem _ (List.mem_append_right _ h)
  have L22 : ∀ (M : zM) (K : Option (Int32 × zM)) (hKK : ∀ (H : Heap) (locs : List Loc) (ls : Array Slot), K = some r → va_P G.1 vwCl (zW G I M) H → va_S (zA G) s.heap H locs → lv_has ls 5 [(0, .ref (G.2.1 359)), (1, .int x1), (2, .int x2)] → W p l e (zrm 2 43) s m args below meth c H locs 0 0 (MQ below (zQi G r.1 I r.2) args s 0 0 (zA G)) (F0 m 53 ls [])) (n : Nat) (y3 : Int32) (H : Heap) (locs : List Loc) (ls : Array Slot), f_X9_person_l22 M x1 x2 K n y3 = some r → va_P G.1 vwCl (zW G I M) H → va_S (zA G) s.heap H locs → lv_has ls 5 [(0, .ref (G.2.1 359)), (1, .int x1), (2, .int x2), (3, .int y3)] → W p l e (zrm 2 43) s m args below meth c H locs 0 0 (MQ below (zQi G r.1 I r.2) args s 0 0 (zA G)) (F0 m 22 ls []) := by
    intro M K hKK n
    induction n with
    | zero =>
      intro y3 H locs ls hf
      rw [f_X9_person_l22] at hf
      cases hf
    | succ n ih =>
      intro y3 H locs ls hf hP hS hl
      rw [f_X9_person_l22] at hf
      refine lv_iload_n hx hb dX9_person_22 rfl (lv_at hl 3 rfl) ?_
      refine lv_aload_n hx hb dX9_person_23 rfl (lv_at hl 0 rfl) ?_
      refine x_get (j := 0) (v := .ref (G.2.1 360)) hx hb hts hi9 hown hK hP zkL_359 rfl (by decide) (hts (.fieldLink RX9 9 "LeaseOfficeModel" "g" "[I") (by decide +kernel)) rfl (by decide) dX9_person_24 ?_
      refine lv_sipush (v := 1080) hx hb dX9_person_27 (by decide) ?_
      refine x_ialdL (j := 1080) hx hb hK hP (zK_lt zkL_360 (by decide)) (zE_15 (j := 1) zkL_360 zlL_360 rfl) (by decide) (by decide) dX9_person_30 ?_
      refine lv_icmp_ge (tgt := 53) hx hb dX9_person_31 (by decide) (fun c5 => ?_) (fun c5 => ?_)
      · have hf := zif_t c5 hf
        exact hKK H locs ls hf hP hS (lv_sub hl [0, 1, 2] rfl)
      · have hf := zif_f c5 hf
        refine lv_aload_n hx hb dX9_person_34 rfl (lv_at hl 0 rfl) ?_
        refine lv_iload_n hx hb dX9_person_35 rfl (lv_at hl 3 rfl) ?_
        refine lv_iconst (v := 0) hx hb dX9_person_36 (by decide) ?_
        obtain ⟨q6, hq6, hf⟩ := zb_e hf
        refine x_calli (x_runV (As := [.int y3, .int 0]) (rest := []) ⟨hx, hb, hml, hown, hts⟩ (c_X9_p l G hG I M y3 0 hq6) (cwV 2 hts gX9_person_X9_p rfl rfl rfl (by decide +kernel) ⟨Nat.le_of_ble_eq_true rfl, Nat.le_of_ble_eq_true rfl⟩) hK hP zkL_359 (by decide) rfl rfl hl.1 rfl (Nat.le_of_ble_eq_true rfl) dX9_person_37 ⟨Nat.zero_le _, Nat.zero_le _⟩) hS (fun H locs hP hS => ?_)
        refine lv_iload_n hx hb dX9_person_40 rfl (lv_at hl 1 rfl) ?_
        refine lv_icmp_ne (tgt := 47) hx hb dX9_person_41 (by decide) (fun c7 => ?_) (fun c7 => ?_)
        · have hf := zif_f c7 hf
          refine lv_iinc (v := (y3 + 1)) (lv' := [(3, .int (y3 + 1)), (0, .ref (G.2.1 359)), (1, .int x1), (2, .int x2)]) hx hb dX9_person_47 hl (k := 3) rfl rfl (by decide) rfl (fun ls hl => ?_)
          refine lv_goto (tgt := 22) hx hb dX9_person_50 (by decide) ?_
          exact ih (y3 + 1) H locs ls hf hP hS (lv_sub hl [1, 2, 3, 0] rfl)
        · have hf := zif_t c7 hf
          refine lv_bipush (v := (-5)) hx hb dX9_person_44 (by decide) ?_
          obtain rfl := Option.some.inj hf
          exact x_iret hx hb hr hlocks hK hP hS dX9_person_46
  have L86 : ∀ (y3 : Int32) (K : zM → Option (Int32 × zM)) (hKK : ∀ (M2 : zM) (H : Heap) (locs : List Loc) (ls : Array Slot), K M2 = some r → va_P G.1 vwCl (zW G I M2) H → va_S (zA G) s.heap H locs → lv_has ls 5 [(0, .ref (G.2.1 359)), (1, .int x1), (2, .int x2), (3, .int y3)] → W p l e (zrm 2 43) s m args below meth c H locs 0 0 (MQ below (zQi G r.1 I r.2) args s 0 0 (zA G)) (F0 m 107 ls [])) (n : Nat) (M : zM) (y4 : Int32) (H : Heap) (locs : List Loc) (ls : Array Slot), f_X9_person_l86 x1 x2 y3 K n M y4 = some r → va_P G.1 vwCl (zW G I M) H → va_S (zA G) s.heap H locs → lv_has ls 5 [(0, .ref (G.2.1 359)), (1, .int x1), (2, .int x2), (3, .int y3), (4, .int y4)] → W p l e (zrm 2 43) s m args below meth c H locs 0 0 (MQ below (zQi G r.1 I r.2) args s 0 0 (zA G)) (F0 m 86 ls []) := by
    intro y3 K hKK n
    induction n with
    | zero =>
      intro M y4 H locs ls hf
      rw [f_X9_person_l86] at hf
      cases hf
    | succ n ih =>
      intro M y4 H locs ls hf hP hS hl
      rw [f_X9_person_l86] at hf
      refine lv_iload hx hb dX9_person_86 (lv_at hl 4 rfl) ?_
      refine lv_bipush (v := 15) hx hb dX9_person_88 (by decide) ?_
      refine lv_icmp_ge (tgt := 107) hx hb dX9_person_90 (by decide) (fun c10 => ?_) (fun c10 => ?_)
      · have hf := zif_t c10 hf
        exact hKK M H locs ls hf hP hS (lv_sub hl [0, 1, 2, 3] rfl)
      · have hf := zif_f c10 hf
        refine lv_aload_n hx hb dX9_person_93 rfl (lv_at hl 0 rfl) ?_
        refine lv_iload_n hx hb dX9_person_94 rfl (lv_at hl 3 rfl) ?_
        refine lv_iload hx hb dX9_person_95 (lv_at hl 4 rfl) ?_
        refine lv_iconst (v := 0) hx hb dX9_person_97 (by decide) ?_
        obtain ⟨q11, hq11, hf⟩ := zb_e hf
        refine x_callv (x_runV (As := [.int y3, .int y4, .int 0]) (rest := []) ⟨hx, hb, hml, hown, hts⟩ (c_X9_setP l G hG I M y3 y4 0 hq11) (cwV 3 hts gX9_person_X9_setP rfl rfl rfl (by decide +kernel) ⟨Nat.le_of_ble_eq_true rfl, Nat.le_of_ble_eq_true rfl⟩) hK hP zkL_359 (by decide) rfl rfl hl.1 rfl (Nat.le_of_ble_eq_true rfl) dX9_person_98 ⟨Nat.zero_le _, Nat.zero_le _⟩) hS (fun H locs hP hS => ?_)
        refine lv_iinc (v := (y4 + 1)) (lv' := [(4, .int (y4 + 1)), (0, .ref (G.2.1 359)), (1, .int x1), (2, .int x2), (3, .int y3)]) hx hb dX9_person_101 hl (k := 4) rfl rfl (by decide) rfl (fun ls hl => ?_)
        refine lv_goto (tgt := 86) hx hb dX9_person_104 (by decide) ?_
        exact ih q11 (y4 + 1) H locs ls hf hP hS (lv_sub hl [1, 2, 3, 4, 0] rfl)
  unfold f_X9_person at hf
  refine lv_iload_n hx hb dX9_person_0 rfl (lv_at hl 1 rfl) ?_
  obtain ⟨q1, hq1, hf⟩ := zb_e hf
  refine x_calli (x_runS (As := [.int x1]) (rest := []) ⟨hx, hb, hml, hown, hts⟩ (c_X9_isName l G hG I J x1 hq1) (va_cwS 1 hts gX9_person_X9_isName rfl rfl rfl (by decide +kernel) ⟨Nat.le_of_ble_eq_true rfl, Nat.le_of_ble_eq_true rfl⟩) hK hP rfl hl.1 rfl (Nat.le_of_ble_eq_true rfl) dX9_person_1 ⟨Nat.zero_le _, Nat.zero_le _⟩) hS (fun H locs hP hS => ?_)
  refine lv_if_eq (tgt := 18) hx hb dX9_person_4 (by decide) (fun c2 => ?_) (fun c2 => ?_)
  · have hf := zif_t c2 hf
    refine lv_iconst (v := (-1)) hx hb dX9_person_18 (by decide) ?_
    obtain rfl := Option.some.inj hf
    exact x_iret hx hb hr hlocks hK hP hS dX9_person_19
  · have hf := zif_f c2 hf
    refine lv_iload_n hx hb dX9_person_7 rfl (lv_at hl 2 rfl) ?_
    refine lv_iconst (v := 0) hx hb dX9_person_8 (by decide) ?_
    refine lv_sipush (v := 9999) hx hb dX9_person_9 (by decide) ?_
    obtain ⟨q3, hq3, hf⟩ := zb_e hf
    refine x_calli (x_runS (As := [.int x2, .int 0, .int 9999]) (rest := []) ⟨hx, hb, hml, hown, hts⟩ (c_X9_in l G hG I J x2 0 9999 hq3) (va_cwS 3 hts gX9_person_X9_in rfl rfl rfl (by decide +kernel) ⟨Nat.le_of_ble_eq_true rfl, Nat.le_of_ble_eq_true rfl⟩) hK hP rfl hl.1 rfl (Nat.le_of_ble_eq_true rfl) dX9_person_12 ⟨Nat.zero_le _, Nat.zero_le _⟩) hS (fun H locs hP hS => ?_)
    refine lv_if_ne (tgt := 20) hx hb dX9_person_15 (by decide) (fun c4 => ?_) (fun c4 => ?_)
    · have hf := zif_f c4 hf
      refine lv_iconst (v := 0) hx hb dX9_person_20 (by decide) ?_
      refine lv_istore_n (lv' := [(3, .int 0), (0, .ref (G.2.1 359)), (1, .int x1), (2, .int x2)]) hx hb dX9_person_21 rfl hl (by decide) rfl (fun ls hl => ?_)
      refine L22 J _ (fun H locs ls hf hP hS hl => ?_) zFu 0 H locs ls hf hP hS (lv_sub hl [1, 2, 3, 0] rfl)
      refine lv_aload_n hx hb dX9_person_53 rfl (lv_at hl 0 rfl) ?_
      refine x_get (j := 0) (v := .ref (G.2.1 360)) hx hb hts hi9 hown hK hP zkL_359 rfl (by decide) (hts (.fieldLink RX9 9 "LeaseOfficeModel" "g" "[I") (by decide +kernel)) rfl (by decide) dX9_person_54 ?_
      refine lv_sipush (v := 1080) hx hb dX9_person_57 (by decide) ?_
      refine x_ialdL (j := 1080) hx hb hK hP (zK_lt zkL_360 (by decide)) (zE_15 (j := 1) zkL_360 zlL_360 rfl) (by decide) (by decide) dX9_person_60 ?_
      refine lv_bipush (v := 12) hx hb dX9_person_61 (by decide) ?_
      refine lv_icmp_ne (tgt := 69) hx hb dX9_person_63 (by decide) (fun c8 => ?_) (fun c8 => ?_)
      · have hf := zif_f c8 hf
        refine lv_aload_n hx hb dX9_person_69 rfl (lv_at hl 0 rfl) ?_
        refine x_get (j := 0) (v := .ref (G.2.1 360)) hx hb hts hi9 hown hK hP zkL_359 rfl (by decide) (hts (.fieldLink RX9 9 "LeaseOfficeModel" "g" "[I") (by decide +kernel)) rfl (by decide) dX9_person_70 ?_
        refine lv_sipush (v := 1080) hx hb dX9_person_73 (by decide) ?_
        refine lv_dup2_11 hx hb dX9_person_76 rfl rfl ?_
        refine x_ialdL (j := 1080) hx hb hK hP (zK_lt zkL_360 (by decide)) (zE_15 (j := 1) zkL_360 zlL_360 rfl) (by decide) (by decide) dX9_person_77 ?_
        refine lv_dup_x2 hx hb dX9_person_78 rfl rfl rfl ?_
        refine lv_iconst (v := 1) hx hb dX9_person_79 (by decide) ?_
        refine lv_iadd hx hb dX9_person_80 ?_
        obtain ⟨M9, eM9, hf⟩ := zlet_e hf
        refine x_iastM (j := 1) (a := 1080) eM9 (by decide) hx hb hG hK hP hS zkL_360 zlL_360 (zin_e (by decide)) dX9_person_81 (fun H locs hP hS => ?_)
        refine lv_istore_n (lv' := [(3, .int (J 1 1080)), (0, .ref (G.2.1 359)), (1, .int x1), (2, .int x2)]) hx hb dX9_person_82 rfl hl (by decide) rfl (fun ls hl => ?_)
        refine lv_iconst (v := 0) hx hb dX9_person_83 (by decide) ?_
        refine lv_istore (lv' := [(4, .int 0), (3, .int (J 1 1080)), (0, .ref (G.2.1 359)), (1, .int x1), (2, .int x2)]) hx hb dX9_person_84 hl (by decide) rfl (fun ls hl => ?_)
        refine L86 (J 1 1080) _ (fun M12 H locs ls hf hP hS hl => ?_) zFu M9 0 H locs ls hf hP hS (lv_sub hl [2, 3, 4, 1, 0] rfl)
        refine lv_aload_n hx hb dX9_person_107 rfl (lv_at hl 0 rfl) ?_
        refine lv_iload_n hx hb dX9_person_108 rfl (lv_at hl 3 rfl) ?_
        refine lv_iconst (v := 0) hx hb dX9_person_109 (by decide) ?_
        refine lv_iload_n hx hb dX9_person_110 rfl (lv_at hl 1 rfl) ?_
        obtain ⟨q13, hq13, hf⟩ := zb_e hf
        refine x_callv (x_runV (As := [.int (J 1 1080), .int 0, .int x1]) (rest := []) ⟨hx, hb, hml, hown, hts⟩ (c_X9_setP l G hG I M12 (J 1 1080) 0 x1 hq13) (cwV 3 hts gX9_person_X9_setP rfl rfl rfl (by decide +kernel) ⟨Nat.le_of_ble_eq_true rfl, Nat.le_of_ble_eq_true rfl⟩) hK hP zkL_359 (by decide) rfl rfl hl.1 rfl (Nat.le_of_ble_eq_true rfl) dX9_person_111 ⟨Nat.zero_le _, Nat.zero_le _⟩) hS (fun H locs hP hS => ?_)
        refine lv_aload_n hx hb dX9_person_114 rfl (lv_at hl 0 rfl) ?_
        refine lv_iload_n hx hb dX9_person_115 rfl (lv_at hl 3 rfl) ?_
        refine lv_iconst (v := 1) hx hb dX9_person_116 (by decide) ?_
        refine lv_iload_n hx hb dX9_person_117 rfl (lv_at hl 2 rfl) ?_
        obtain ⟨q14, hq14, hf⟩ := zb_e hf
        refine x_callv (x_runV (As := [.int (J 1 1080), .int 1, .int x2]) (rest := []) ⟨hx, hb, hml, hown, hts⟩ (c_X9_setP l G hG I q13 (J 1 1080) 1 x2 hq14) (cwV 3 hts gX9_person_X9_setP rfl rfl rfl (by decide +kernel) ⟨Nat.le_of_ble_eq_true rfl, Nat.le_of_ble_eq_true rfl⟩) hK hP zkL_359 (by decide) rfl rfl hl.1 rfl (Nat.le_of_ble_eq_true rfl) dX9_person_118 ⟨Nat.zero_le _, Nat.zero_le _⟩) hS (fun H locs hP hS => ?_)
        refine lv_aload_n hx hb dX9_person_121 rfl (lv_at hl 0 rfl) ?_
        refine lv_iload_n hx hb dX9_person_122 rfl (lv_at hl 3 rfl) ?_
        refine lv_iconst (v := 2) hx hb dX9_person_123 (by decide) ?_
        refine lv_bipush (v := 50) hx hb dX9_person_124 (by decide) ?_
        obtain ⟨q15, hq15, hf⟩ := zb_e hf
        refine x_callv (x_runV (As := [.int (J 1 1080), .int 2, .int 50]) (rest := []) ⟨hx, hb, hml, hown, hts⟩ (c_X9_setP l G hG I q14 (J 1 1080) 2 50 hq15) (cwV 3 hts gX9_person_X9_setP rfl rfl rfl (by decide +kernel) ⟨Nat.le_of_ble_eq_true rfl, Nat.le_of_ble_eq_true rfl⟩) hK hP zkL_359 (by decide) rfl rfl hl.1 rfl (Nat.le_of_ble_eq_true rfl) dX9_person_126 ⟨Nat.zero_le _, Nat.zero_le _⟩) hS (fun H locs hP hS => ?_)
        refine lv_iload_n hx hb dX9_person_129 rfl (lv_at hl 3 rfl) ?_
        obtain rfl := Option.some.inj hf
        exact x_iret hx hb hr hlocks hK hP hS dX9_person_130
      · have hf := zif_t c8 hf
        refine lv_bipush (v := (-3)) hx hb dX9_person_66 (by decide) ?_
        obtain rfl := Option.some.inj hf
        exact x_iret hx hb hr hlocks hK hP hS dX9_person_68
    · have hf := zif_t c4 hf
      refine lv_iconst (v := (-1)) hx hb dX9_person_18 (by decide) ?_
      obtain rfl := Option.some.inj hf
      exact x_iret hx hb hr hlocks hK hP hS dX9_person_19
set_option maxRecDepth 100000 in
set_option maxHeartbeats 4000000 in
theorem c_X9_seesNow (l : Launch) (G : zGT) (hG : zOK G) (I J : zM) (x1 : Int32) {r : zM} (hf : f_X9_seesNow J x1 = some r) : Met l yX9_seesNow wsX9_seesNow (zrm 2 50) (va_Pc [.ref (G.2.1 359), .int x1] (zS G I J)) (zQv G I r) 0 0 (zA G) := by
  refine zMet (cc := cX9_seesNow) (n := 3) (ret := none) (by decide) rfl (Nat.le_of_ble_eq_true rfl) ?_
  intro p e s m args below meth c H locs ls F hK hP hS hl
  obtain ⟨hx, hb, hr, hml, hts, hown, hlocks⟩ := F
  have hown : s.vm.findClass RX9 = some m.cls := hown
  have hl : lv_has ls 3 [(0, .ref (G.2.1 359)), (1, .int x1)] := hl
  have hi9 : ∀ w ∈ wsX90, w ∈ wsX9_seesNow := fun _ h => List.mem_cons_of_mem _ (List.mem_append_right _ h)
  have J74 : ∀ (M : zM) (s0 : Int32) (s1 : Int32) (s2 : Int32) (H : Heap) (locs : List Loc) (ls : Array Slot), f_X9_seesNow_j74 M s0 s1 s2 = some r → va_P G.1 vwCl (zW G I M) H → va_S (zA G) s.heap H locs → lv_has ls 3 [] → W p l e (zrm 2 50) s m args below meth c H locs 0 0 (MQ below (zQv G I r) args s 0 0 (zA G)) (F0 m 74 ls [.int s0, .int s1, .int s2, .ref (G.2.1 359)]) := by
    intro M s0 s1 s2 H locs ls hf hP hS hl
    unfold f_X9_seesNow_j74 at hf
    obtain ⟨q9, hq9, hf⟩ := zb_e hf
    refine x_callv (x_runV (As := [.int s2, .int s1, .int s0]) (rest := []) ⟨hx, hb, hml, hown, hts⟩ (c_X9_setT l G hG I M s2 s1 s0 hq9) (cwV 3 hts gX9_seesNow_X9_setT rfl rfl rfl (by decide +kernel) ⟨Nat.le_of_ble_eq_true rfl, Nat.le_of_ble_eq_true rfl⟩) hK hP zkL_359 (by decide) rfl rfl hl.1 rfl (Nat.le_of_ble_eq_true rfl) dX9_seesNow_74 ⟨Nat.zero_le _, Nat.zero_le _⟩) hS (fun H locs hP hS => ?_)
    obtain rfl := Option.some.inj hf
    exact x_vret hx hb hr hlocks hK hP hS dX9_seesNow_77
  unfold f_X9_seesNow at hf
  refine lv_aload_n hx hb dX9_seesNow_0 rfl (lv_at hl 0 rfl) ?_
  refine lv_iload_n hx hb dX9_seesNow_1 rfl (lv_at hl 1 rfl) ?_
  refine lv_bipush (v := 32) hx hb dX9_seesNow_2 (by decide) ?_
  refine lv_bipush (v := 33) hx hb dX9_seesNow_4 (by decide) ?_
  refine lv_iconst (v := 4) hx hb dX9_seesNow_6 (by decide) ?_
  refine lv_bipush (v := 6) hx hb dX9_seesNow_7 (by decide) ?_
  obtain ⟨q1, hq1, hf⟩ := zb_e hf
  refine x_calli (x_runV (As := [.int x1, .int 32, .int 33, .int 4, .int 6]) (rest := []) ⟨hx, hb, hml, hown, hts⟩ (c_X9_placeFor l G hG I J x1 32 33 4 6 hq1) (cwV 5 hts gX9_seesNow_X9_placeFor rfl rfl rfl (by decide +kernel) ⟨Nat.le_of_ble_eq_true rfl, Nat.le_of_ble_eq_true rfl⟩) hK hP zkL_359 (by decide) rfl rfl hl.1 rfl (Nat.le_of_ble_eq_true rfl) dX9_seesNow_9 ⟨Nat.zero_le _, Nat.zero_le _⟩) hS (fun H locs hP hS => ?_)
  refine lv_istore_n (lv' := [(2, .int q1.1), (0, .ref (G.2.1 359)), (1, .int x1)]) hx hb dX9_seesNow_12 rfl hl (by decide) rfl (fun ls hl => ?_)
  refine lv_aload_n hx hb dX9_seesNow_13 rfl (lv_at hl 1 rfl) ?_
  refine lv_iload_n hx hb dX9_seesNow_14 rfl (lv_at hl 2 rfl) ?_
  refine lv_iload_n hx hb dX9_seesNow_15 rfl (lv_at hl 0 rfl) ?_
  refine lv_aload_n hx hb dX9_seesNow_16 rfl (lv_at hl 1 rfl) ?_
  refine x_get (j := 0) (v := .ref (G.2.1 360)) hx hb hts hi9 hown hK hP zkL_359 rfl (by decide) (hts (.fieldLink RX9 9 "LeaseOfficeModel" "g" "[I") (by decide +kernel)) rfl (by decide) dX9_seesNow_17 ?_
  refine lv_sipush (v := 1082) hx hb dX9_seesNow_20 (by decide) ?_
  refine x_ialdL (j := 1082) hx hb hK hP (zK_lt zkL_360 (by decide)) (zE_15 (j := 1) zkL_360 zlL_360 rfl) (by decide) (by decide) dX9_seesNow_23 ?_
  obtain ⟨q2, hq2, hf⟩ := zb_e hf
  refine x_callv (x_runV (As := [.int x1, .int q1.1, .int (q1.2 1 1082)]) (rest := []) ⟨hx, hb, hml, hown, hts⟩ (c_X9_setT l G hG I q1.2 x1 q1.1 (q1.2 1 1082) hq2) (cwV 3 hts gX9_seesNow_X9_setT rfl rfl rfl (by decide +kernel) ⟨Nat.le_of_ble_eq_true rfl, Nat.le_of_ble_eq_true rfl⟩) hK hP zkL_359 (by decide) rfl rfl hl.1 rfl (Nat.le_of_ble_eq_true rfl) dX9_seesNow_24 ⟨Nat.zero_le _, Nat.zero_le _⟩) hS (fun H locs hP hS => ?_)
  refine lv_aload_n hx hb dX9_seesNow_27 rfl (lv_at hl 1 rfl) ?_
  refine lv_iload_n hx hb dX9_seesNow_28 rfl (lv_at hl 2 rfl) ?_
  refine lv_iload_n hx hb dX9_seesNow_29 rfl (lv_at hl 0 rfl) ?_
  refine lv_iconst (v := 1) hx hb dX9_seesNow_30 (by decide) ?_
  refine lv_iadd hx hb dX9_seesNow_31 ?_
  refine lv_aload_n hx hb dX9_seesNow_32 rfl (lv_at hl 1 rfl) ?_
  refine lv_iload_n hx hb dX9_seesNow_33 rfl (lv_at hl 2 rfl) ?_
  refine lv_iconst (v := 1) hx hb dX9_seesNow_34 (by decide) ?_
  obtain ⟨q3, hq3, hf⟩ := zb_e hf
  refine x_calli (x_runV (As := [.int x1, .int 1]) (rest := [.int (q1.1 + 1), .int x1, .ref (G.2.1 359)]) ⟨hx, hb, hml, hown, hts⟩ (c_X9_t l G hG I q2 x1 1 hq3) (cwV 2 hts gX9_seesNow_X9_t rfl rfl rfl (by decide +kernel) ⟨Nat.le_of_ble_eq_true rfl, Nat.le_of_ble_eq_true rfl⟩) hK hP zkL_359 (by decide) rfl rfl hl.1 rfl (Nat.le_of_ble_eq_true rfl) dX9_seesNow_35 ⟨Nat.zero_le _, Nat.zero_le _⟩) hS (fun H locs hP hS => ?_)
  obtain ⟨q4, hq4, hf⟩ := zb_e hf
  refine x_callv (x_runV (As := [.int x1, .int (q1.1 + 1), .int q3]) (rest := []) ⟨hx, hb, hml, hown, hts⟩ (c_X9_setT l G hG I q2 x1 (q1.1 + 1) q3 hq4) (cwV 3 hts gX9_seesNow_X9_setT rfl rfl rfl (by decide +kernel) ⟨Nat.le_of_ble_eq_true rfl, Nat.le_of_ble_eq_true rfl⟩) hK hP zkL_359 (by decide) rfl rfl hl.1 rfl (Nat.le_of_ble_eq_true rfl) dX9_seesNow_38 ⟨Nat.zero_le _, Nat.zero_le _⟩) hS (fun H locs hP hS => ?_)
  refine lv_aload_n hx hb dX9_seesNow_41 rfl (lv_at hl 1 rfl) ?_
  refine lv_iload_n hx hb dX9_seesNow_42 rfl (lv_at hl 2 rfl) ?_
  refine lv_iload_n hx hb dX9_seesNow_43 rfl (lv_at hl 0 rfl) ?_
  refine lv_iconst (v := 2) hx hb dX9_seesNow_44 (by decide) ?_
  refine lv_iadd hx hb dX9_seesNow_45 ?_
  refine lv_aload_n hx hb dX9_seesNow_46 rfl (lv_at hl 1 rfl) ?_
  refine lv_iload_n hx hb dX9_seesNow_47 rfl (lv_at hl 2 rfl) ?_
  refine lv_bipush (v := 7) hx hb dX9_seesNow_48 (by decide) ?_
  obtain ⟨q5, hq5, hf⟩ := zb_e hf
  refine x_calli (x_runV (As := [.int x1, .int 7]) (rest := [.int (q1.1 + 2), .int x1, .ref (G.2.1 359)]) ⟨hx, hb, hml, hown, hts⟩ (c_X9_t l G hG I q4 x1 7 hq5) (cwV 2 hts gX9_seesNow_X9_t rfl rfl rfl (by decide +kernel) ⟨Nat.le_of_ble_eq_true rfl, Nat.le_of_ble_eq_true rfl⟩) hK hP zkL_359 (by decide) rfl rfl hl.1 rfl (Nat.le_of_ble_eq_true rfl) dX9_seesNow_50 ⟨Nat.zero_le _, Nat.zero_le _⟩) hS (fun H locs hP hS => ?_)
  obtain ⟨q6, hq6, hf⟩ := zb_e hf
  refine x_callv (x_runV (As := [.int x1, .int (q1.1 + 2), .int q5]) (rest := []) ⟨hx, hb, hml, hown, hts⟩ (c_X9_setT l G hG I q4 x1 (q1.1 + 2) q5 hq6) (cwV 3 hts gX9_seesNow_X9_setT rfl rfl rfl (by decide +kernel) ⟨Nat.le_of_ble_eq_true rfl, Nat.le_of_ble_eq_true rfl⟩) hK hP zkL_359 (by decide) rfl rfl hl.1 rfl (Nat.le_of_ble_eq_true rfl) dX9_seesNow_53 ⟨Nat.zero_le _, Nat.zero_le _⟩) hS (fun H locs hP hS => ?_)
  refine lv_aload_n hx hb dX9_seesNow_56 rfl (lv_at hl 1 rfl) ?_
  refine lv_iload_n hx hb dX9_seesNow_57 rfl (lv_at hl 2 rfl) ?_
  refine lv_iload_n hx hb dX9_seesNow_58 rfl (lv_at hl 0 rfl) ?_
  refine lv_iconst (v := 3) hx hb dX9_seesNow_59 (by decide) ?_
  refine lv_iadd hx hb dX9_seesNow_60 ?_
  refine lv_aload_n hx hb dX9_seesNow_61 rfl (lv_at hl 1 rfl) ?_
  refine lv_iload_n hx hb dX9_seesNow_62 rfl (lv_at hl 2 rfl) ?_
  obtain ⟨q7, hq7, hf⟩ := zb_e hf
  refine x_calli (x_runV (As := [.int x1]) (rest := [.int (q1.1 + 3), .int x1, .ref (G.2.1 359)]) ⟨hx, hb, hml, hown, hts⟩ (c_X9_isOut l G hG I q6 x1 hq7) (cwV 1 hts gX9_seesNow_X9_isOut rfl rfl rfl (by decide +kernel) ⟨Nat.le_of_ble_eq_true rfl, Nat.le_of_ble_eq_true rfl⟩) hK hP zkL_359 (by decide) rfl rfl hl.1 rfl (Nat.le_of_ble_eq_true rfl) dX9_seesNow_63 ⟨Nat.zero_le _, Nat.zero_le _⟩) hS (fun H locs hP hS => ?_)
  refine lv_if_eq (tgt := 73) hx hb dX9_seesNow_66 (by decide) (fun c8 => ?_) (fun c8 => ?_)
  · have hf := zif_t c8 hf
    refine lv_iconst (v := 0) hx hb dX9_seesNow_73 (by decide) ?_
    exact J74 q6 0 (q1.1 + 3) x1 H locs ls hf hP hS (lv_sub hl [] rfl)
  · have hf := zif_f c8 hf
    refine lv_iconst (v := 1) hx hb dX9_seesNow_69 (by decide) ?_
    refine lv_goto (tgt := 74) hx hb dX9_seesNow_70 (by decide) ?_
    exact J74 q6 1 (q1.1 + 3) x1 H locs ls hf hP hS (lv_sub hl [] rfl)
set_option maxRecDepth 100000 in
set_option maxHeartbeats 4000000 in
theorem c_X9_tool (l : Launch) (G : zGT) (hG : zOK G) (I J : zM) (x1 : Int32) {r : Int32 × zM} (hf : f_X9_tool J x1 = some r) : Met l yX9_tool wsX9_tool (zrm 3 72) (va_Pc [.ref (G.2.1 359), .int x1] (zS G I J)) (zQi G r.1 I r.2) 0 0 (zA G) := by
  refine zMet (cc := cX9_tool) (n := 4) (ret := (some .int)) (by decide) rfl (Nat.le_of_ble_eq_true rfl) ?_
  intro p e s m args below meth c H locs ls F hK hP hS hl
  obtain ⟨hx, hb, hr, hml, hts, hown, hlocks⟩ := F
  have hown : s.vm.findClass RX9 = some m.cls := hown
  have hl : lv_has ls 4 [(0, .ref (G.2.1 359)), (1, .int x1)] := hl
  have hi9 : ∀ w ∈ wsX90, w ∈ wsX9_tool := fun _ h => List.mem_cons_of_mem _ (List.mem_append_right _ h)
  have L44 : ∀ (y2 : Int32) (K : zM → Option (Int32 × zM)) (hKK : ∀ (M2 : zM) (H : Heap) (locs : List Loc) (ls : Array Slot), K M2 = some r → va_P G.1 vwCl (zW G I M2) H → va_S (zA G) s.heap H locs → lv_has ls 4 [(0, .ref (G.2.1 359)), (1, .int x1), (2, .int y2)] → W p l e (zrm 3 72) s m args below meth c H locs 0 0 (MQ below (zQi G r.1 I r.2) args s 0 0 (zA G)) (F0 m 63 ls [])) (n : Nat) (M : zM) (y3 : Int32) (H : Heap) (locs : List Loc) (ls : Array Slot), f_X9_tool_l44 x1 y2 K n M y3 = some r → va_P G.1 vwCl (zW G I M) H → va_S (zA G) s.heap H locs → lv_has ls 4 [(0, .ref (G.2.1 359)), (1, .int x1), (2, .int y2), (3, .int y3)] → W p l e (zrm 3 72) s m args below meth c H locs 0 0 (MQ below (zQi G r.1 I r.2) args s 0 0 (zA G)) (F0 m 44 ls []) := by
    intro y2 K hKK n
    induction n with
    | zero =>
      intro M y3 H locs ls hf
      rw [f_X9_tool_l44] at hf
      cases hf
    | succ n ih =>
      intro M y3 H locs ls hf hP hS hl
      rw [f_X9_tool_l44] at hf
      refine lv_iload_n hx hb dX9_tool_44 rfl (lv_at hl 3 rfl) ?_
      refine lv_bipush (v := 90) hx hb dX9_tool_45 (by decide) ?_
      refine lv_icmp_ge (tgt := 63) hx hb dX9_tool_47 (by decide) (fun c5 => ?_) (fun c5 => ?_)
      · have hf := zif_t c5 hf
        exact hKK M H locs ls hf hP hS (lv_sub hl [0, 1, 2] rfl)
      · have hf := zif_f c5 hf
        refine lv_aload_n hx hb dX9_tool_50 rfl (lv_at hl 0 rfl) ?_
        refine lv_iload_n hx hb dX9_tool_51 rfl (lv_at hl 2 rfl) ?_
        refine lv_iload_n hx hb dX9_tool_52 rfl (lv_at hl 3 rfl) ?_
        refine lv_iconst (v := 0) hx hb dX9_tool_53 (by decide) ?_
        obtain ⟨q6, hq6, hf⟩ := zb_e hf
        refine x_callv (x_runV (As := [.int y2, .int y3, .int 0]) (rest := []) ⟨hx, hb, hml, hown, hts⟩ (c_X9_setT l G hG I M y2 y3 0 hq6) (cwV 3 hts gX9_tool_X9_setT rfl rfl rfl (by decide +kernel) ⟨Nat.le_of_ble_eq_true rfl, Nat.le_of_ble_eq_true rfl⟩) hK hP zkL_359 (by decide) rfl rfl hl.1 rfl (Nat.le_of_ble_eq_true rfl) dX9_tool_54 ⟨Nat.zero_le _, Nat.zero_le _⟩) hS (fun H locs hP hS => ?_)
        refine lv_iinc (v := (y3 + 1)) (lv' := [(3, .int (y3 + 1)), (0, .ref (G.2.1 359)), (1, .int x1), (2, .int y2)]) hx hb dX9_tool_57 hl (k := 3) rfl rfl (by decide) rfl (fun ls hl => ?_)
        refine lv_goto (tgt := 44) hx hb dX9_tool_60 (by decide) ?_
        exact ih q6 (y3 + 1) H locs ls hf hP hS (lv_sub hl [1, 2, 3, 0] rfl)
  have L65 : ∀ (y2 : Int32) (K : zM → Option (Int32 × zM)) (hKK : ∀ (M2 : zM) (H : Heap) (locs : List Loc) (ls : Array Slot), K M2 = some r → va_P G.1 vwCl (zW G I M2) H → va_S (zA G) s.heap H locs → lv_has ls 4 [(0, .ref (G.2.1 359)), (1, .int x1), (2, .int y2)] → W p l e (zrm 3 72) s m args below meth c H locs 0 0 (MQ below (zQi G r.1 I r.2) args s 0 0 (zA G)) (F0 m 86 ls [])) (n : Nat) (M : zM) (y3 : Int32) (H : Heap) (locs : List Loc) (ls : Array Slot), f_X9_tool_l65 x1 y2 K n M y3 = some r → va_P G.1 vwCl (zW G I M) H → va_S (zA G) s.heap H locs → lv_has ls 4 [(0, .ref (G.2.1 359)), (1, .int x1), (2, .int y2), (3, .int y3)] → W p l e (zrm 3 72) s m args below meth c H locs 0 0 (MQ below (zQi G r.1 I r.2) args s 0 0 (zA G)) (F0 m 65 ls []) := by
    intro y2 K hKK n
    induction n with
    | zero =>
      intro M y3 H locs ls hf
      rw [f_X9_tool_l65] at hf
      cases hf
    | succ n ih =>
      intro M y3 H locs ls hf hP hS hl
      rw [f_X9_tool_l65] at hf
      refine lv_iload_n hx hb dX9_tool_65 rfl (lv_at hl 3 rfl) ?_
      refine lv_bipush (v := 12) hx hb dX9_tool_66 (by decide) ?_
      refine lv_icmp_ge (tgt := 86) hx hb dX9_tool_68 (by decide) (fun c8 => ?_) (fun c8 => ?_)
      · have hf := zif_t c8 hf
        exact hKK M H locs ls hf hP hS (lv_sub hl [0, 1, 2] rfl)
      · have hf := zif_f c8 hf
        refine lv_aload_n hx hb dX9_tool_71 rfl (lv_at hl 0 rfl) ?_
        refine lv_iload_n hx hb dX9_tool_72 rfl (lv_at hl 3 rfl) ?_
        refine lv_iconst (v := 5) hx hb dX9_tool_73 (by decide) ?_
        refine lv_iload_n hx hb dX9_tool_74 rfl (lv_at hl 2 rfl) ?_
        refine lv_iadd hx hb dX9_tool_75 ?_
        refine lv_iconst (v := 0) hx hb dX9_tool_76 (by decide) ?_
        obtain ⟨q9, hq9, hf⟩ := zb_e hf
        refine x_callv (x_runV (As := [.int y3, .int (5 + y2), .int 0]) (rest := []) ⟨hx, hb, hml, hown, hts⟩ (c_X9_setP l G hG I M y3 (5 + y2) 0 hq9) (cwV 3 hts gX9_tool_X9_setP rfl rfl rfl (by decide +kernel) ⟨Nat.le_of_ble_eq_true rfl, Nat.le_of_ble_eq_true rfl⟩) hK hP zkL_359 (by decide) rfl rfl hl.1 rfl (Nat.le_of_ble_eq_true rfl) dX9_tool_77 ⟨Nat.zero_le _, Nat.zero_le _⟩) hS (fun H locs hP hS => ?_)
        refine lv_iinc (v := (y3 + 1)) (lv' := [(3, .int (y3 + 1)), (0, .ref (G.2.1 359)), (1, .int x1), (2, .int y2)]) hx hb dX9_tool_80 hl (k := 3) rfl rfl (by decide) rfl (fun ls hl => ?_)
        refine lv_goto (tgt := 65) hx hb dX9_tool_83 (by decide) ?_
        exact ih q9 (y3 + 1) H locs ls hf hP hS (lv_sub hl [1, 2, 3, 0] rfl)
  unfold f_X9_tool at hf
  refine lv_iload_n hx hb dX9_tool_0 rfl (lv_at hl 1 rfl) ?_
  refine lv_iconst (v := 1) hx hb dX9_tool_1 (by decide) ?_
  refine lv_bipush (v := 99) hx hb dX9_tool_2 (by decide) ?_
  obtain ⟨q1, hq1, hf⟩ := zb_e hf
  refine x_calli (x_runS (As := [.int x1, .int 1, .int 99]) (rest := []) ⟨hx, hb, hml, hown, hts⟩ (c_X9_in l G hG I J x1 1 99 hq1) (va_cwS 3 hts gX9_tool_X9_in rfl rfl rfl (by decide +kernel) ⟨Nat.le_of_ble_eq_true rfl, Nat.le_of_ble_eq_true rfl⟩) hK hP rfl hl.1 rfl (Nat.le_of_ble_eq_true rfl) dX9_tool_4 ⟨Nat.zero_le _, Nat.zero_le _⟩) hS (fun H locs hP hS => ?_)
  refine lv_if_ne (tgt := 12) hx hb dX9_tool_7 (by decide) (fun c2 => ?_) (fun c2 => ?_)
  · have hf := zif_f c2 hf
    refine lv_aload_n hx hb dX9_tool_12 rfl (lv_at hl 0 rfl) ?_
    refine x_get (j := 0) (v := .ref (G.2.1 360)) hx hb hts hi9 hown hK hP zkL_359 rfl (by decide) (hts (.fieldLink RX9 9 "LeaseOfficeModel" "g" "[I") (by decide +kernel)) rfl (by decide) dX9_tool_13 ?_
    refine lv_sipush (v := 1081) hx hb dX9_tool_16 (by decide) ?_
    refine x_ialdL (j := 1081) hx hb hK hP (zK_lt zkL_360 (by decide)) (zE_15 (j := 1) zkL_360 zlL_360 rfl) (by decide) (by decide) dX9_tool_19 ?_
    refine lv_bipush (v := 10) hx hb dX9_tool_20 (by decide) ?_
    refine lv_icmp_ne (tgt := 28) hx hb dX9_tool_22 (by decide) (fun c3 => ?_) (fun c3 => ?_)
    · have hf := zif_f c3 hf
      refine lv_aload_n hx hb dX9_tool_28 rfl (lv_at hl 0 rfl) ?_
      refine x_get (j := 0) (v := .ref (G.2.1 360)) hx hb hts hi9 hown hK hP zkL_359 rfl (by decide) (hts (.fieldLink RX9 9 "LeaseOfficeModel" "g" "[I") (by decide +kernel)) rfl (by decide) dX9_tool_29 ?_
      refine lv_sipush (v := 1081) hx hb dX9_tool_32 (by decide) ?_
      refine lv_dup2_11 hx hb dX9_tool_35 rfl rfl ?_
      refine x_ialdL (j := 1081) hx hb hK hP (zK_lt zkL_360 (by decide)) (zE_15 (j := 1) zkL_360 zlL_360 rfl) (by decide) (by decide) dX9_tool_36 ?_
      refine lv_dup_x2 hx hb dX9_tool_37 rfl rfl rfl ?_
      refine lv_iconst (v := 1) hx hb dX9_tool_38 (by decide) ?_
      refine lv_iadd hx hb dX9_tool_39 ?_
      obtain ⟨M4, eM4, hf⟩ := zlet_e hf
      refine x_iastM (j := 1) (a := 1081) eM4 (by decide) hx hb hG hK hP hS zkL_360 zlL_360 (zin_e (by decide)) dX9_tool_40 (fun H locs hP hS => ?_)
      refine lv_istore_n (lv' := [(2, .int (J 1 1081)), (0, .ref (G.2.1 359)), (1, .int x1)]) hx hb dX9_tool_41 rfl hl (by decide) rfl (fun ls hl => ?_)
      refine lv_iconst (v := 0) hx hb dX9_tool_42 (by decide) ?_
      refine lv_istore_n (lv' := [(3, .int 0), (2, .int (J 1 1081)), (0, .ref (G.2.1 359)), (1, .int x1)]) hx hb dX9_tool_43 rfl hl (by decide) rfl (fun ls hl => ?_)
      refine L44 (J 1 1081) _ (fun M7 H locs ls hf hP hS hl => ?_) zFu M4 0 H locs ls hf hP hS (lv_sub hl [2, 3, 1, 0] rfl)
      refine lv_iconst (v := 0) hx hb dX9_tool_63 (by decide) ?_
      refine lv_istore_n (lv' := [(3, .int 0), (0, .ref (G.2.1 359)), (1, .int x1), (2, .int (J 1 1081))]) hx hb dX9_tool_64 rfl hl (by decide) rfl (fun ls hl => ?_)
      refine L65 (J 1 1081) _ (fun M10 H locs ls hf hP hS hl => ?_) zFu M7 0 H locs ls hf hP hS (lv_sub hl [1, 2, 3, 0] rfl)
      refine lv_aload_n hx hb dX9_tool_86 rfl (lv_at hl 0 rfl) ?_
      refine lv_iload_n hx hb dX9_tool_87 rfl (lv_at hl 2 rfl) ?_
      refine lv_iconst (v := 0) hx hb dX9_tool_88 (by decide) ?_
      refine lv_iload_n hx hb dX9_tool_89 rfl (lv_at hl 1 rfl) ?_
      obtain ⟨q11, hq11, hf⟩ := zb_e hf
      refine x_callv (x_runV (As := [.int (J 1 1081), .int 0, .int x1]) (rest := []) ⟨hx, hb, hml, hown, hts⟩ (c_X9_setT l G hG I M10 (J 1 1081) 0 x1 hq11) (cwV 3 hts gX9_tool_X9_setT rfl rfl rfl (by decide +kernel) ⟨Nat.le_of_ble_eq_true rfl, Nat.le_of_ble_eq_true rfl⟩) hK hP zkL_359 (by decide) rfl rfl hl.1 rfl (Nat.le_of_ble_eq_true rfl) dX9_tool_90 ⟨Nat.zero_le _, Nat.zero_le _⟩) hS (fun H locs hP hS => ?_)
      refine lv_aload_n hx hb dX9_tool_93 rfl (lv_at hl 0 rfl) ?_
      refine lv_iload_n hx hb dX9_tool_94 rfl (lv_at hl 2 rfl) ?_
      refine lv_iconst (v := 2) hx hb dX9_tool_95 (by decide) ?_
      refine lv_iconst (v := (-1)) hx hb dX9_tool_96 (by decide) ?_
      obtain ⟨q12, hq12, hf⟩ := zb_e hf
      refine x_callv (x_runV (As := [.int (J 1 1081), .int 2, .int (-1)]) (rest := []) ⟨hx, hb, hml, hown, hts⟩ (c_X9_setT l G hG I q11 (J 1 1081) 2 (-1) hq12) (cwV 3 hts gX9_tool_X9_setT rfl rfl rfl (by decide +kernel) ⟨Nat.le_of_ble_eq_true rfl, Nat.le_of_ble_eq_true rfl⟩) hK hP zkL_359 (by decide) rfl rfl hl.1 rfl (Nat.le_of_ble_eq_true rfl) dX9_tool_97 ⟨Nat.zero_le _, Nat.zero_le _⟩) hS (fun H locs hP hS => ?_)
      refine lv_aload_n hx hb dX9_tool_100 rfl (lv_at hl 0 rfl) ?_
      refine lv_iload_n hx hb dX9_tool_101 rfl (lv_at hl 2 rfl) ?_
      obtain ⟨q13, hq13, hf⟩ := zb_e hf
      refine x_callv (x_runV (As := [.int (J 1 1081)]) (rest := []) ⟨hx, hb, hml, hown, hts⟩ (c_X9_seesNow l G hG I q12 (J 1 1081) hq13) (cwV 1 hts gX9_tool_X9_seesNow rfl rfl rfl (by decide +kernel) ⟨Nat.le_of_ble_eq_true rfl, Nat.le_of_ble_eq_true rfl⟩) hK hP zkL_359 (by decide) rfl rfl hl.1 rfl (Nat.le_of_ble_eq_true rfl) dX9_tool_102 ⟨Nat.zero_le _, Nat.zero_le _⟩) hS (fun H locs hP hS => ?_)
      refine lv_iload_n hx hb dX9_tool_105 rfl (lv_at hl 2 rfl) ?_
      obtain rfl := Option.some.inj hf
      exact x_iret hx hb hr hlocks hK hP hS dX9_tool_106
    · have hf := zif_t c3 hf
      refine lv_bipush (v := (-3)) hx hb dX9_tool_25 (by decide) ?_
      obtain rfl := Option.some.inj hf
      exact x_iret hx hb hr hlocks hK hP hS dX9_tool_27
  · have hf := zif_t c2 hf
    refine lv_iconst (v := (-1)) hx hb dX9_tool_10 (by decide) ?_
    obtain rfl := Option.some.inj hf
    exact x_iret hx hb hr hlocks hK hP hS dX9_tool_11
set_option maxRecDepth 100000 in
set_option maxHeartbeats 4000000 in
theorem c_X9_wish (l : Launch) (G : zGT) (hG : zOK G) (I J : zM) (x1 : Int32) (x2 : Int32) (x3 : Int32) {r : Int32 × zM} (hf : f_X9_wish J x1 x2 x3 = some r) : Met l yX9_wish wsX9_wish (zrm 2 43) (va_Pc [.ref (G.2.1 359), .int x1, .int x2, .int x3] (zS G I J)) (zQi G r.1 I r.2) 0 0 (zA G) := by
  refine zMet (cc := cX9_wish) (n := 5) (ret := (some .int)) (by decide) rfl (Nat.le_of_ble_eq_true rfl) ?_
  intro p e s m args below meth c H locs ls F hK hP hS hl
  obtain ⟨hx, hb, hr, hml, hts, hown, hlocks⟩ := F
  have hown : s.vm.findClass RX9 = some m.cls := hown
  have hl : lv_has ls 5 [(0, .ref (G.2.1 359)), (1, .int x1), (2, .int x2), (3, .int x3)] := hl
  unfold f_X9_wish at hf
  refine lv_aload_n hx hb dX9_wish_0 rfl (lv_at hl 0 rfl) ?_
  refine lv_iload_n hx hb dX9_wish_1 rfl (lv_at hl 1 rfl) ?_
  obtain ⟨q1, hq1, hf⟩ := zb_e hf
  refine x_calli (x_runV (As := [.int x1]) (rest := []) ⟨hx, hb, hml, hown, hts⟩ (c_X9_isPerson l G hG I J x1 hq1) (cwV 1 hts gX9_wish_X9_isPerson rfl rfl rfl (by decide +kernel) ⟨Nat.le_of_ble_eq_true rfl, Nat.le_of_ble_eq_true rfl⟩) hK hP zkL_359 (by decide) rfl rfl hl.1 rfl (Nat.le_of_ble_eq_true rfl) dX9_wish_2 ⟨Nat.zero_le _, Nat.zero_le _⟩) hS (fun H locs hP hS => ?_)
  refine lv_if_eq (tgt := 26) hx hb dX9_wish_5 (by decide) (fun c2 => ?_) (fun c2 => ?_)
  · have hf := zif_t c2 hf
    refine lv_iconst (v := (-1)) hx hb dX9_wish_26 (by decide) ?_
    obtain rfl := Option.some.inj hf
    exact x_iret hx hb hr hlocks hK hP hS dX9_wish_27
  · have hf := zif_f c2 hf
    refine lv_aload_n hx hb dX9_wish_8 rfl (lv_at hl 0 rfl) ?_
    refine lv_iload_n hx hb dX9_wish_9 rfl (lv_at hl 2 rfl) ?_
    obtain ⟨q3, hq3, hf⟩ := zb_e hf
    refine x_calli (x_runV (As := [.int x2]) (rest := []) ⟨hx, hb, hml, hown, hts⟩ (c_X9_isTool l G hG I J x2 hq3) (cwV 1 hts gX9_wish_X9_isTool rfl rfl rfl (by decide +kernel) ⟨Nat.le_of_ble_eq_true rfl, Nat.le_of_ble_eq_true rfl⟩) hK hP zkL_359 (by decide) rfl rfl hl.1 rfl (Nat.le_of_ble_eq_true rfl) dX9_wish_10 ⟨Nat.zero_le _, Nat.zero_le _⟩) hS (fun H locs hP hS => ?_)
    refine lv_if_eq (tgt := 26) hx hb dX9_wish_13 (by decide) (fun c4 => ?_) (fun c4 => ?_)
    · have hf := zif_t c4 hf
      refine lv_iconst (v := (-1)) hx hb dX9_wish_26 (by decide) ?_
      obtain rfl := Option.some.inj hf
      exact x_iret hx hb hr hlocks hK hP hS dX9_wish_27
    · have hf := zif_f c4 hf
      refine lv_iload_n hx hb dX9_wish_16 rfl (lv_at hl 3 rfl) ?_
      refine lv_iconst (v := 0) hx hb dX9_wish_17 (by decide) ?_
      refine lv_bipush (v := 9) hx hb dX9_wish_18 (by decide) ?_
      obtain ⟨q5, hq5, hf⟩ := zb_e hf
      refine x_calli (x_runS (As := [.int x3, .int 0, .int 9]) (rest := []) ⟨hx, hb, hml, hown, hts⟩ (c_X9_in l G hG I J x3 0 9 hq5) (va_cwS 3 hts gX9_wish_X9_in rfl rfl rfl (by decide +kernel) ⟨Nat.le_of_ble_eq_true rfl, Nat.le_of_ble_eq_true rfl⟩) hK hP rfl hl.1 rfl (Nat.le_of_ble_eq_true rfl) dX9_wish_20 ⟨Nat.zero_le _, Nat.zero_le _⟩) hS (fun H locs hP hS => ?_)
      refine lv_if_ne (tgt := 28) hx hb dX9_wish_23 (by decide) (fun c6 => ?_) (fun c6 => ?_)
      · have hf := zif_f c6 hf
        refine lv_aload_n hx hb dX9_wish_28 rfl (lv_at hl 0 rfl) ?_
        refine lv_iload_n hx hb dX9_wish_29 rfl (lv_at hl 1 rfl) ?_
        refine lv_iconst (v := 5) hx hb dX9_wish_30 (by decide) ?_
        refine lv_iload_n hx hb dX9_wish_31 rfl (lv_at hl 2 rfl) ?_
        refine lv_iadd hx hb dX9_wish_32 ?_
        obtain ⟨q7, hq7, hf⟩ := zb_e hf
        refine x_calli (x_runV (As := [.int x1, .int (5 + x2)]) (rest := []) ⟨hx, hb, hml, hown, hts⟩ (c_X9_p l G hG I J x1 (5 + x2) hq7) (cwV 2 hts gX9_wish_X9_p rfl rfl rfl (by decide +kernel) ⟨Nat.le_of_ble_eq_true rfl, Nat.le_of_ble_eq_true rfl⟩) hK hP zkL_359 (by decide) rfl rfl hl.1 rfl (Nat.le_of_ble_eq_true rfl) dX9_wish_33 ⟨Nat.zero_le _, Nat.zero_le _⟩) hS (fun H locs hP hS => ?_)
        refine lv_istore (lv' := [(4, .int q7), (0, .ref (G.2.1 359)), (1, .int x1), (2, .int x2), (3, .int x3)]) hx hb dX9_wish_36 hl (by decide) rfl (fun ls hl => ?_)
        refine lv_aload_n hx hb dX9_wish_38 rfl (lv_at hl 1 rfl) ?_
        refine lv_iload_n hx hb dX9_wish_39 rfl (lv_at hl 2 rfl) ?_
        refine lv_iconst (v := 5) hx hb dX9_wish_40 (by decide) ?_
        refine lv_iload_n hx hb dX9_wish_41 rfl (lv_at hl 3 rfl) ?_
        refine lv_iadd hx hb dX9_wish_42 ?_
        refine lv_iload_n hx hb dX9_wish_43 rfl (lv_at hl 4 rfl) ?_
        obtain ⟨q8, hq8, hf⟩ := zb_e hf
        refine x_callv (x_runV (As := [.int x1, .int (5 + x2), .int x3]) (rest := []) ⟨hx, hb, hml, hown, hts⟩ (c_X9_setP l G hG I J x1 (5 + x2) x3 hq8) (cwV 3 hts gX9_wish_X9_setP rfl rfl rfl (by decide +kernel) ⟨Nat.le_of_ble_eq_true rfl, Nat.le_of_ble_eq_true rfl⟩) hK hP zkL_359 (by decide) rfl rfl hl.1 rfl (Nat.le_of_ble_eq_true rfl) dX9_wish_44 ⟨Nat.zero_le _, Nat.zero_le _⟩) hS (fun H locs hP hS => ?_)
        refine lv_iload hx hb dX9_wish_47 (lv_at hl 0 rfl) ?_
        obtain rfl := Option.some.inj hf
        exact x_iret hx hb hr hlocks hK hP hS dX9_wish_49
      · have hf := zif_t c6 hf
        refine lv_iconst (v := (-1)) hx hb dX9_wish_26 (by decide) ?_
        obtain rfl := Option.some.inj hf
        exact x_iret hx hb hr hlocks hK hP hS dX9_wish_27
set_option maxRecDepth 100000 in
set_option maxHeartbeats 4000000 in
theorem c_X9_refused (l : Launch) (G : zGT) (hG : zOK G) (I J : zM) (x1 : Int32) (x2 : Int32) {r : Int32 × zM} (hf : f_X9_refused J x1 x2 = some r) : Met l yX9_refused wsX9_refused (zrm 0 0) (va_Pc [.ref (G.2.1 359), .int x1, .int x2] (zS G I J)) (zQi G r.1 I r.2) 0 0 (zA G) := by
  refine zMet (cc := cX9_refused) (n := 3) (ret := (some .int)) (by decide) rfl (Nat.le_of_ble_eq_true rfl) ?_
  intro p e s m args below meth c H locs ls F hK hP hS hl
  obtain ⟨hx, hb, hr, hml, hts, hown, hlocks⟩ := F
  have hown : s.vm.findClass RX9 = some m.cls := hown
  have hl : lv_has ls 3 [(0, .ref (G.2.1 359)), (1, .int x1), (2, .int x2)] := hl
  have hi9 : ∀ w ∈ wsX90, w ∈ wsX9_refused := fun _ h => List.mem_cons_of_mem _ (List.mem_append_right _ h)
  have J16 : ∀ (M : zM) (s0 : Int32) (H : Heap) (locs : List Loc) (ls : Array Slot), f_X9_refused_j16 M x1 x2 s0 = some r → va_P G.1 vwCl (zW G I M) H → va_S (zA G) s.heap H locs → lv_has ls 3 [(0, .ref (G.2.1 359)), (1, .int x1), (2, .int x2)] → W p l e (zrm 0 0) s m args below meth c H locs 0 0 (MQ below (zQi G r.1 I r.2) args s 0 0 (zA G)) (F0 m 16 ls [.int s0, .int 1084, .ref (G.2.1 360)]) := by
    intro M s0 H locs ls hf hP hS hl
    unfold f_X9_refused_j16 at hf
    obtain ⟨M2, eM2, hf⟩ := zlet_e hf
    refine x_iastM (j := 1) (a := 1084) eM2 (by decide) hx hb hG hK hP hS zkL_360 zlL_360 (zin_e (by decide)) dX9_refused_16 (fun H locs hP hS => ?_)
    refine lv_aload_n hx hb dX9_refused_17 rfl (lv_at hl 0 rfl) ?_
    refine x_get (j := 0) (v := .ref (G.2.1 360)) hx hb hts hi9 hown hK hP zkL_359 rfl (by decide) (hts (.fieldLink RX9 9 "LeaseOfficeModel" "g" "[I") (by decide +kernel)) rfl (by decide) dX9_refused_18 ?_
    refine lv_sipush (v := 1085) hx hb dX9_refused_21 (by decide) ?_
    refine lv_iload_n hx hb dX9_refused_24 rfl (lv_at hl 1 rfl) ?_
    obtain ⟨M3, eM3, hf⟩ := zlet_e hf
    refine x_iastM (j := 1) (a := 1085) eM3 (by decide) hx hb hG hK hP hS zkL_360 zlL_360 (zin_e (by decide)) dX9_refused_25 (fun H locs hP hS => ?_)
    refine lv_aload_n hx hb dX9_refused_26 rfl (lv_at hl 0 rfl) ?_
    refine x_get (j := 0) (v := .ref (G.2.1 360)) hx hb hts hi9 hown hK hP zkL_359 rfl (by decide) (hts (.fieldLink RX9 9 "LeaseOfficeModel" "g" "[I") (by decide +kernel)) rfl (by decide) dX9_refused_27 ?_
    refine lv_sipush (v := 1086) hx hb dX9_refused_30 (by decide) ?_
    refine lv_iload_n hx hb dX9_refused_33 rfl (lv_at hl 2 rfl) ?_
    obtain ⟨M4, eM4, hf⟩ := zlet_e hf
    refine x_iastM (j := 1) (a := 1086) eM4 (by decide) hx hb hG hK hP hS zkL_360 zlL_360 (zin_e (by decide)) dX9_refused_34 (fun H locs hP hS => ?_)
    refine lv_bipush (v := (-5)) hx hb dX9_refused_35 (by decide) ?_
    obtain rfl := Option.some.inj hf
    exact x_iret hx hb hr hlocks hK hP hS dX9_refused_37
  unfold f_X9_refused at hf
  refine lv_aload_n hx hb dX9_refused_0 rfl (lv_at hl 0 rfl) ?_
  refine x_get (j := 0) (v := .ref (G.2.1 360)) hx hb hts hi9 hown hK hP zkL_359 rfl (by decide) (hts (.fieldLink RX9 9 "LeaseOfficeModel" "g" "[I") (by decide +kernel)) rfl (by decide) dX9_refused_1 ?_
  refine lv_sipush (v := 1084) hx hb dX9_refused_4 (by decide) ?_
  refine lv_iload_n hx hb dX9_refused_7 rfl (lv_at hl 2 rfl) ?_
  refine lv_if_ne (tgt := 15) hx hb dX9_refused_8 (by decide) (fun c1 => ?_) (fun c1 => ?_)
  · have hf := zif_f c1 hf
    refine lv_iconst (v := 2) hx hb dX9_refused_15 (by decide) ?_
    exact J16 J 2 H locs ls hf hP hS (lv_sub hl [0, 1, 2] rfl)
  · have hf := zif_t c1 hf
    refine lv_iconst (v := 1) hx hb dX9_refused_11 (by decide) ?_
    refine lv_goto (tgt := 16) hx hb dX9_refused_12 (by decide) ?_
    exact J16 J 1 H locs ls hf hP hS (lv_sub hl [0, 1, 2] rfl)
set_option maxRecDepth 100000 in
set_option maxHeartbeats 4000000 in
theorem c_X9_mayPay (l : Launch) (G : zGT) (hG : zOK G) (I J : zM) (x1 : Int32) (x2 : Int32) {r : Int32} (hf : f_X9_mayPay J x1 x2 = some r) : Met l yX9_mayPay wsX9_mayPay (zrm 1 22) (va_Pc [.ref (G.2.1 359), .int x1, .int x2] (zS G I J)) (zQi G r I J) 0 0 (zA G) := by
  refine zMet (cc := cX9_mayPay) (n := 3) (ret := (some .boolean)) (by decide) rfl (Nat.le_of_ble_eq_true rfl) ?_
  intro p e s m args below meth c H locs ls F hK hP hS hl
  obtain ⟨hx, hb, hr, hml, hts, hown, hlocks⟩ := F
  have hown : s.vm.findClass RX9 = some m.cls := hown
  have hl : lv_has ls 3 [(0, .ref (G.2.1 359)), (1, .int x1), (2, .int x2)] := hl
  unfold f_X9_mayPay at hf
  refine lv_aload_n hx hb dX9_mayPay_0 rfl (lv_at hl 0 rfl) ?_
  refine lv_iload_n hx hb dX9_mayPay_1 rfl (lv_at hl 1 rfl) ?_
  refine lv_iconst (v := 1) hx hb dX9_mayPay_2 (by decide) ?_
  obtain ⟨q1, hq1, hf⟩ := zb_e hf
  refine x_calli (x_runV (As := [.int x1, .int 1]) (rest := []) ⟨hx, hb, hml, hown, hts⟩ (c_X9_t l G hG I J x1 1 hq1) (cwV 2 hts gX9_mayPay_X9_t rfl rfl rfl (by decide +kernel) ⟨Nat.le_of_ble_eq_true rfl, Nat.le_of_ble_eq_true rfl⟩) hK hP zkL_359 (by decide) rfl rfl hl.1 rfl (Nat.le_of_ble_eq_true rfl) dX9_mayPay_3 ⟨Nat.zero_le _, Nat.zero_le _⟩) hS (fun H locs hP hS => ?_)
  refine lv_bipush (v := 9) hx hb dX9_mayPay_6 (by decide) ?_
  refine lv_icmp_ge (tgt := 30) hx hb dX9_mayPay_8 (by decide) (fun c2 => ?_) (fun c2 => ?_)
  · have hf := zif_t c2 hf
    refine lv_iconst (v := 0) hx hb dX9_mayPay_30 (by decide) ?_
    obtain rfl := Option.some.inj hf
    exact x_zret (v := 0) rfl hx hb hr hlocks hK hP hS dX9_mayPay_31
  · have hf := zif_f c2 hf
    refine lv_aload_n hx hb dX9_mayPay_11 rfl (lv_at hl 0 rfl) ?_
    refine lv_iload_n hx hb dX9_mayPay_12 rfl (lv_at hl 2 rfl) ?_
    refine lv_iconst (v := 1) hx hb dX9_mayPay_13 (by decide) ?_
    obtain ⟨q3, hq3, hf⟩ := zb_e hf
    refine x_calli (x_runV (As := [.int x2, .int 1]) (rest := []) ⟨hx, hb, hml, hown, hts⟩ (c_X9_p l G hG I J x2 1 hq3) (cwV 2 hts gX9_mayPay_X9_p rfl rfl rfl (by decide +kernel) ⟨Nat.le_of_ble_eq_true rfl, Nat.le_of_ble_eq_true rfl⟩) hK hP zkL_359 (by decide) rfl rfl hl.1 rfl (Nat.le_of_ble_eq_true rfl) dX9_mayPay_14 ⟨Nat.zero_le _, Nat.zero_le _⟩) hS (fun H locs hP hS => ?_)
    refine lv_aload_n hx hb dX9_mayPay_17 rfl (lv_at hl 0 rfl) ?_
    refine lv_iload_n hx hb dX9_mayPay_18 rfl (lv_at hl 1 rfl) ?_
    refine lv_iconst (v := 0) hx hb dX9_mayPay_19 (by decide) ?_
    obtain ⟨q4, hq4, hf⟩ := zb_e hf
    refine x_calli (x_runV (As := [.int x1, .int 0]) (rest := [.int q3]) ⟨hx, hb, hml, hown, hts⟩ (c_X9_t l G hG I J x1 0 hq4) (cwV 2 hts gX9_mayPay_X9_t rfl rfl rfl (by decide +kernel) ⟨Nat.le_of_ble_eq_true rfl, Nat.le_of_ble_eq_true rfl⟩) hK hP zkL_359 (by decide) rfl rfl hl.1 rfl (Nat.le_of_ble_eq_true rfl) dX9_mayPay_20 ⟨Nat.zero_le _, Nat.zero_le _⟩) hS (fun H locs hP hS => ?_)
    refine lv_icmp_lt (tgt := 30) hx hb dX9_mayPay_23 (by decide) (fun c5 => ?_) (fun c5 => ?_)
    · have hf := zif_t c5 hf
      refine lv_iconst (v := 0) hx hb dX9_mayPay_30 (by decide) ?_
      obtain rfl := Option.some.inj hf
      exact x_zret (v := 0) rfl hx hb hr hlocks hK hP hS dX9_mayPay_31
    · have hf := zif_f c5 hf
      refine lv_iconst (v := 1) hx hb dX9_mayPay_26 (by decide) ?_
      refine lv_goto (tgt := 31) hx hb dX9_mayPay_27 (by decide) ?_
      obtain rfl := Option.some.inj hf
      exact x_zret (v := 1) rfl hx hb hr hlocks hK hP hS dX9_mayPay_31
set_option maxRecDepth 100000 in
set_option maxHeartbeats 4000000 in
theorem c_X9_leased (l : Launch) (G : zGT) (hG : zOK G) (I J : zM) (x1 : Int32) (x2 : Int32) (x3 : Int32) {r : Int32 × zM} (hf : f_X9_leased J x1 x2 x3 = some r) : Met l yX9_leased wsX9_leased (zrm 3 73) (va_Pc [.ref (G.2.1 359), .int x1, .int x2, .int x3] (zS G I J)) (zQi G r.1 I r.2) 0 0 (zA G) := by
  refine zMet (cc := cX9_leased) (n := 4) (ret := (some .int)) (by decide) rfl (Nat.le_of_ble_eq_true rfl) ?_
  intro p e s m args below meth c H locs ls F hK hP hS hl
  obtain ⟨hx, hb, hr, hml, hts, hown, hlocks⟩ := F
  have hown : s.vm.findClass RX9 = some m.cls := hown
  have hl : lv_has ls 4 [(0, .ref (G.2.1 359)), (1, .int x1), (2, .int x2), (3, .int x3)] := hl
  have hi9 : ∀ w ∈ wsX90, w ∈ wsX9_leased := fun _ h => List.mem_cons_of_mem _ (List.mem_append_right _ h)
  unfold f_X9_leased at hf
  refine lv_aload_n hx hb dX9_leased_0 rfl (lv_at hl 0 rfl) ?_
  refine lv_iload_n hx hb dX9_leased_1 rfl (lv_at hl 2 rfl) ?_
  refine lv_iconst (v := 1) hx hb dX9_leased_2 (by decide) ?_
  refine lv_aload_n hx hb dX9_leased_3 rfl (lv_at hl 0 rfl) ?_
  refine lv_iload_n hx hb dX9_leased_4 rfl (lv_at hl 2 rfl) ?_
  refine lv_iconst (v := 1) hx hb dX9_leased_5 (by decide) ?_
  obtain ⟨q1, hq1, hf⟩ := zb_e hf
  refine x_calli (x_runV (As := [.int x2, .int 1]) (rest := [.int 1, .int x2, .ref (G.2.1 359)]) ⟨hx, hb, hml, hown, hts⟩ (c_X9_p l G hG I J x2 1 hq1) (cwV 2 hts gX9_leased_X9_p rfl rfl rfl (by decide +kernel) ⟨Nat.le_of_ble_eq_true rfl, Nat.le_of_ble_eq_true rfl⟩) hK hP zkL_359 (by decide) rfl rfl hl.1 rfl (Nat.le_of_ble_eq_true rfl) dX9_leased_6 ⟨Nat.zero_le _, Nat.zero_le _⟩) hS (fun H locs hP hS => ?_)
  refine lv_aload_n hx hb dX9_leased_9 rfl (lv_at hl 0 rfl) ?_
  refine lv_iload_n hx hb dX9_leased_10 rfl (lv_at hl 1 rfl) ?_
  refine lv_iconst (v := 0) hx hb dX9_leased_11 (by decide) ?_
  obtain ⟨q2, hq2, hf⟩ := zb_e hf
  refine x_calli (x_runV (As := [.int x1, .int 0]) (rest := [.int q1, .int 1, .int x2, .ref (G.2.1 359)]) ⟨hx, hb, hml, hown, hts⟩ (c_X9_t l G hG I J x1 0 hq2) (cwV 2 hts gX9_leased_X9_t rfl rfl rfl (by decide +kernel) ⟨Nat.le_of_ble_eq_true rfl, Nat.le_of_ble_eq_true rfl⟩) hK hP zkL_359 (by decide) rfl rfl hl.1 rfl (Nat.le_of_ble_eq_true rfl) dX9_leased_12 ⟨Nat.zero_le _, Nat.zero_le _⟩) hS (fun H locs hP hS => ?_)
  refine lv_isub hx hb dX9_leased_15 ?_
  obtain ⟨q3, hq3, hf⟩ := zb_e hf
  refine x_callv (x_runV (As := [.int x2, .int 1, .int (q1 - q2)]) (rest := []) ⟨hx, hb, hml, hown, hts⟩ (c_X9_setP l G hG I J x2 1 (q1 - q2) hq3) (cwV 3 hts gX9_leased_X9_setP rfl rfl rfl (by decide +kernel) ⟨Nat.le_of_ble_eq_true rfl, Nat.le_of_ble_eq_true rfl⟩) hK hP zkL_359 (by decide) rfl rfl hl.1 rfl (Nat.le_of_ble_eq_true rfl) dX9_leased_16 ⟨Nat.zero_le _, Nat.zero_le _⟩) hS (fun H locs hP hS => ?_)
  refine lv_aload_n hx hb dX9_leased_19 rfl (lv_at hl 0 rfl) ?_
  refine lv_iload_n hx hb dX9_leased_20 rfl (lv_at hl 1 rfl) ?_
  refine lv_iconst (v := 5) hx hb dX9_leased_21 (by decide) ?_
  refine lv_aload_n hx hb dX9_leased_22 rfl (lv_at hl 0 rfl) ?_
  refine lv_iload_n hx hb dX9_leased_23 rfl (lv_at hl 1 rfl) ?_
  refine lv_iconst (v := 0) hx hb dX9_leased_24 (by decide) ?_
  obtain ⟨q4, hq4, hf⟩ := zb_e hf
  refine x_calli (x_runV (As := [.int x1, .int 0]) (rest := [.int 5, .int x1, .ref (G.2.1 359)]) ⟨hx, hb, hml, hown, hts⟩ (c_X9_t l G hG I q3 x1 0 hq4) (cwV 2 hts gX9_leased_X9_t rfl rfl rfl (by decide +kernel) ⟨Nat.le_of_ble_eq_true rfl, Nat.le_of_ble_eq_true rfl⟩) hK hP zkL_359 (by decide) rfl rfl hl.1 rfl (Nat.le_of_ble_eq_true rfl) dX9_leased_25 ⟨Nat.zero_le _, Nat.zero_le _⟩) hS (fun H locs hP hS => ?_)
  obtain ⟨q5, hq5, hf⟩ := zb_e hf
  refine x_callv (x_runV (As := [.int x1, .int 5, .int q4]) (rest := []) ⟨hx, hb, hml, hown, hts⟩ (c_X9_setT l G hG I q3 x1 5 q4 hq5) (cwV 3 hts gX9_leased_X9_setT rfl rfl rfl (by decide +kernel) ⟨Nat.le_of_ble_eq_true rfl, Nat.le_of_ble_eq_true rfl⟩) hK hP zkL_359 (by decide) rfl rfl hl.1 rfl (Nat.le_of_ble_eq_true rfl) dX9_leased_28 ⟨Nat.zero_le _, Nat.zero_le _⟩) hS (fun H locs hP hS => ?_)
  refine lv_aload_n hx hb dX9_leased_31 rfl (lv_at hl 0 rfl) ?_
  refine lv_iload_n hx hb dX9_leased_32 rfl (lv_at hl 1 rfl) ?_
  refine lv_iconst (v := 4) hx hb dX9_leased_33 (by decide) ?_
  refine lv_aload_n hx hb dX9_leased_34 rfl (lv_at hl 0 rfl) ?_
  refine x_get (j := 0) (v := .ref (G.2.1 360)) hx hb hts hi9 hown hK hP zkL_359 rfl (by decide) (hts (.fieldLink RX9 9 "LeaseOfficeModel" "g" "[I") (by decide +kernel)) rfl (by decide) dX9_leased_35 ?_
  refine lv_sipush (v := 1082) hx hb dX9_leased_38 (by decide) ?_
  refine x_ialdL (j := 1082) hx hb hK hP (zK_lt zkL_360 (by decide)) (zE_15 (j := 1) zkL_360 zlL_360 rfl) (by decide) (by decide) dX9_leased_41 ?_
  refine lv_iload_n hx hb dX9_leased_42 rfl (lv_at hl 3 rfl) ?_
  refine lv_iadd hx hb dX9_leased_43 ?_
  obtain ⟨q6, hq6, hf⟩ := zb_e hf
  refine x_callv (x_runV (As := [.int x1, .int 4, .int ((q5 1 1082) + x3)]) (rest := []) ⟨hx, hb, hml, hown, hts⟩ (c_X9_setT l G hG I q5 x1 4 ((q5 1 1082) + x3) hq6) (cwV 3 hts gX9_leased_X9_setT rfl rfl rfl (by decide +kernel) ⟨Nat.le_of_ble_eq_true rfl, Nat.le_of_ble_eq_true rfl⟩) hK hP zkL_359 (by decide) rfl rfl hl.1 rfl (Nat.le_of_ble_eq_true rfl) dX9_leased_44 ⟨Nat.zero_le _, Nat.zero_le _⟩) hS (fun H locs hP hS => ?_)
  refine lv_aload_n hx hb dX9_leased_47 rfl (lv_at hl 0 rfl) ?_
  refine lv_iload_n hx hb dX9_leased_48 rfl (lv_at hl 1 rfl) ?_
  refine lv_iload_n hx hb dX9_leased_49 rfl (lv_at hl 2 rfl) ?_
  obtain ⟨q7, hq7, hf⟩ := zb_e hf
  refine x_callv (x_runV (As := [.int x1, .int x2]) (rest := []) ⟨hx, hb, hml, hown, hts⟩ (c_X9_begins l G hG I q6 x1 x2 hq7) (cwV 2 hts gX9_leased_X9_begins rfl rfl rfl (by decide +kernel) ⟨Nat.le_of_ble_eq_true rfl, Nat.le_of_ble_eq_true rfl⟩) hK hP zkL_359 (by decide) rfl rfl hl.1 rfl (Nat.le_of_ble_eq_true rfl) dX9_leased_50 ⟨Nat.zero_le _, Nat.zero_le _⟩) hS (fun H locs hP hS => ?_)
  refine lv_aload_n hx hb dX9_leased_53 rfl (lv_at hl 0 rfl) ?_
  refine x_get (j := 0) (v := .ref (G.2.1 360)) hx hb hts hi9 hown hK hP zkL_359 rfl (by decide) (hts (.fieldLink RX9 9 "LeaseOfficeModel" "g" "[I") (by decide +kernel)) rfl (by decide) dX9_leased_54 ?_
  refine lv_sipush (v := 1082) hx hb dX9_leased_57 (by decide) ?_
  refine x_ialdL (j := 1082) hx hb hK hP (zK_lt zkL_360 (by decide)) (zE_15 (j := 1) zkL_360 zlL_360 rfl) (by decide) (by decide) dX9_leased_60 ?_
  refine lv_iload_n hx hb dX9_leased_61 rfl (lv_at hl 3 rfl) ?_
  refine lv_iadd hx hb dX9_leased_62 ?_
  obtain rfl := Option.some.inj hf
  exact x_iret hx hb hr hlocks hK hP hS dX9_leased_63
set_option maxRecDepth 100000 in
set_option maxHeartbeats 4000000 in
theorem c_X9_lease (l : Launch) (G : zGT) (hG : zOK G) (I J : zM) (x1 : Int32) (x2 : Int32) (x3 : Int32) {r : Int32 × zM} (hf : f_X9_lease J x1 x2 x3 = some r) : Met l yX9_lease wsX9_lease (zrm 4 96) (va_Pc [.ref (G.2.1 359), .int x1, .int x2, .int x3] (zS G I J)) (zQi G r.1 I r.2) 0 0 (zA G) := by
  refine zMet (cc := cX9_lease) (n := 4) (ret := (some .int)) (by decide) rfl (Nat.le_of_ble_eq_true rfl) ?_
  intro p e s m args below meth c H locs ls F hK hP hS hl
  obtain ⟨hx, hb, hr, hml, hts, hown, hlocks⟩ := F
  have hown : s.vm.findClass RX9 = some m.cls := hown
  have hl : lv_has ls 4 [(0, .ref (G.2.1 359)), (1, .int x1), (2, .int x2), (3, .int x3)] := hl
  have J47 : ∀ (M : zM) (H : Heap) (locs : List Loc) (ls : Array Slot), f_X9_lease_j47 M = some r → va_P G.1 vwCl (zW G I M) H → va_S (zA G) s.heap H locs → lv_has ls 4 [(0, .ref (G.2.1 359))] → W p l e (zrm 4 96) s m args below meth c H locs 0 0 (MQ below (zQi G r.1 I r.2) args s 0 0 (zA G)) (F0 m 47 ls []) := by
    intro M H locs ls hf hP hS hl
    unfold f_X9_lease_j47 at hf
    refine lv_aload_n hx hb dX9_lease_47 rfl (lv_at hl 0 rfl) ?_
    refine lv_iconst (v := 1) hx hb dX9_lease_48 (by decide) ?_
    refine lv_iconst (v := 0) hx hb dX9_lease_49 (by decide) ?_
    obtain ⟨q9, hq9, hf⟩ := zb_e hf
    refine x_calli (x_runV (As := [.int 1, .int 0]) (rest := []) ⟨hx, hb, hml, hown, hts⟩ (c_X9_refused l G hG I M 1 0 hq9) (cwV 2 hts gX9_lease_X9_refused rfl rfl rfl (by decide +kernel) ⟨Nat.le_of_ble_eq_true rfl, Nat.le_of_ble_eq_true rfl⟩) hK hP zkL_359 (by decide) rfl rfl hl.1 rfl (Nat.le_of_ble_eq_true rfl) dX9_lease_50 ⟨Nat.zero_le _, Nat.zero_le _⟩) hS (fun H locs hP hS => ?_)
    obtain rfl := Option.some.inj hf
    exact x_iret hx hb hr hlocks hK hP hS dX9_lease_53
  unfold f_X9_lease at hf
  refine lv_aload_n hx hb dX9_lease_0 rfl (lv_at hl 0 rfl) ?_
  refine lv_iload_n hx hb dX9_lease_1 rfl (lv_at hl 1 rfl) ?_
  obtain ⟨q1, hq1, hf⟩ := zb_e hf
  refine x_calli (x_runV (As := [.int x1]) (rest := []) ⟨hx, hb, hml, hown, hts⟩ (c_X9_isPerson l G hG I J x1 hq1) (cwV 1 hts gX9_lease_X9_isPerson rfl rfl rfl (by decide +kernel) ⟨Nat.le_of_ble_eq_true rfl, Nat.le_of_ble_eq_true rfl⟩) hK hP zkL_359 (by decide) rfl rfl hl.1 rfl (Nat.le_of_ble_eq_true rfl) dX9_lease_2 ⟨Nat.zero_le _, Nat.zero_le _⟩) hS (fun H locs hP hS => ?_)
  refine lv_if_eq (tgt := 26) hx hb dX9_lease_5 (by decide) (fun c2 => ?_) (fun c2 => ?_)
  · have hf := zif_t c2 hf
    refine lv_iconst (v := (-1)) hx hb dX9_lease_26 (by decide) ?_
    obtain rfl := Option.some.inj hf
    exact x_iret hx hb hr hlocks hK hP hS dX9_lease_27
  · have hf := zif_f c2 hf
    refine lv_aload_n hx hb dX9_lease_8 rfl (lv_at hl 0 rfl) ?_
    refine lv_iload_n hx hb dX9_lease_9 rfl (lv_at hl 2 rfl) ?_
    obtain ⟨q3, hq3, hf⟩ := zb_e hf
    refine x_calli (x_runV (As := [.int x2]) (rest := []) ⟨hx, hb, hml, hown, hts⟩ (c_X9_isTool l G hG I J x2 hq3) (cwV 1 hts gX9_lease_X9_isTool rfl rfl rfl (by decide +kernel) ⟨Nat.le_of_ble_eq_true rfl, Nat.le_of_ble_eq_true rfl⟩) hK hP zkL_359 (by decide) rfl rfl hl.1 rfl (Nat.le_of_ble_eq_true rfl) dX9_lease_10 ⟨Nat.zero_le _, Nat.zero_le _⟩) hS (fun H locs hP hS => ?_)
    refine lv_if_eq (tgt := 26) hx hb dX9_lease_13 (by decide) (fun c4 => ?_) (fun c4 => ?_)
    · have hf := zif_t c4 hf
      refine lv_iconst (v := (-1)) hx hb dX9_lease_26 (by decide) ?_
      obtain rfl := Option.some.inj hf
      exact x_iret hx hb hr hlocks hK hP hS dX9_lease_27
    · have hf := zif_f c4 hf
      refine lv_iload_n hx hb dX9_lease_16 rfl (lv_at hl 3 rfl) ?_
      refine lv_iconst (v := 1) hx hb dX9_lease_17 (by decide) ?_
      refine lv_bipush (v := 30) hx hb dX9_lease_18 (by decide) ?_
      obtain ⟨q5, hq5, hf⟩ := zb_e hf
      refine x_calli (x_runS (As := [.int x3, .int 1, .int 30]) (rest := []) ⟨hx, hb, hml, hown, hts⟩ (c_X9_in l G hG I J x3 1 30 hq5) (va_cwS 3 hts gX9_lease_X9_in rfl rfl rfl (by decide +kernel) ⟨Nat.le_of_ble_eq_true rfl, Nat.le_of_ble_eq_true rfl⟩) hK hP rfl hl.1 rfl (Nat.le_of_ble_eq_true rfl) dX9_lease_20 ⟨Nat.zero_le _, Nat.zero_le _⟩) hS (fun H locs hP hS => ?_)
      refine lv_if_ne (tgt := 28) hx hb dX9_lease_23 (by decide) (fun c6 => ?_) (fun c6 => ?_)
      · have hf := zif_f c6 hf
        refine lv_aload_n hx hb dX9_lease_28 rfl (lv_at hl 0 rfl) ?_
        refine lv_iload_n hx hb dX9_lease_29 rfl (lv_at hl 2 rfl) ?_
        obtain ⟨q7, hq7, hf⟩ := zb_e hf
        refine x_calli (x_runV (As := [.int x2]) (rest := []) ⟨hx, hb, hml, hown, hts⟩ (c_X9_isOut l G hG I J x2 hq7) (cwV 1 hts gX9_lease_X9_isOut rfl rfl rfl (by decide +kernel) ⟨Nat.le_of_ble_eq_true rfl, Nat.le_of_ble_eq_true rfl⟩) hK hP zkL_359 (by decide) rfl rfl hl.1 rfl (Nat.le_of_ble_eq_true rfl) dX9_lease_30 ⟨Nat.zero_le _, Nat.zero_le _⟩) hS (fun H locs hP hS => ?_)
        refine lv_if_ne (tgt := 47) hx hb dX9_lease_33 (by decide) (fun c8 => ?_) (fun c8 => ?_)
        · have hf := zif_f c8 hf
          exact J47 J H locs ls hf hP hS (lv_sub hl [0] rfl)
        · have hf := zif_t c8 hf
          refine lv_aload_n hx hb dX9_lease_36 rfl (lv_at hl 0 rfl) ?_
          refine lv_iload_n hx hb dX9_lease_37 rfl (lv_at hl 2 rfl) ?_
          refine lv_iconst (v := 1) hx hb dX9_lease_38 (by decide) ?_
          obtain ⟨q10, hq10, hf⟩ := zb_e hf
          refine x_calli (x_runV (As := [.int x2, .int 1]) (rest := []) ⟨hx, hb, hml, hown, hts⟩ (c_X9_t l G hG I J x2 1 hq10) (cwV 2 hts gX9_lease_X9_t rfl rfl rfl (by decide +kernel) ⟨Nat.le_of_ble_eq_true rfl, Nat.le_of_ble_eq_true rfl⟩) hK hP zkL_359 (by decide) rfl rfl hl.1 rfl (Nat.le_of_ble_eq_true rfl) dX9_lease_39 ⟨Nat.zero_le _, Nat.zero_le _⟩) hS (fun H locs hP hS => ?_)
          refine lv_bipush (v := 9) hx hb dX9_lease_42 (by decide) ?_
          refine lv_icmp_ne (tgt := 54) hx hb dX9_lease_44 (by decide) (fun c11 => ?_) (fun c11 => ?_)
          · have hf := zif_f c11 hf
            refine lv_aload_n hx hb dX9_lease_54 rfl (lv_at hl 0 rfl) ?_
            refine lv_iload_n hx hb dX9_lease_55 rfl (lv_at hl 2 rfl) ?_
            refine lv_iload_n hx hb dX9_lease_56 rfl (lv_at hl 1 rfl) ?_
            obtain ⟨q12, hq12, hf⟩ := zb_e hf
            refine x_calli (x_runV (As := [.int x2, .int x1]) (rest := []) ⟨hx, hb, hml, hown, hts⟩ (c_X9_mayPay l G hG I J x2 x1 hq12) (cwV 2 hts gX9_lease_X9_mayPay rfl rfl rfl (by decide +kernel) ⟨Nat.le_of_ble_eq_true rfl, Nat.le_of_ble_eq_true rfl⟩) hK hP zkL_359 (by decide) rfl rfl hl.1 rfl (Nat.le_of_ble_eq_true rfl) dX9_lease_57 ⟨Nat.zero_le _, Nat.zero_le _⟩) hS (fun H locs hP hS => ?_)
            refine lv_if_eq (tgt := 73) hx hb dX9_lease_60 (by decide) (fun c13 => ?_) (fun c13 => ?_)
            · have hf := zif_t c13 hf
              refine lv_aload_n hx hb dX9_lease_73 rfl (lv_at hl 0 rfl) ?_
              refine lv_iconst (v := 2) hx hb dX9_lease_74 (by decide) ?_
              refine lv_iconst (v := 0) hx hb dX9_lease_75 (by decide) ?_
              obtain ⟨q14, hq14, hf⟩ := zb_e hf
              refine x_calli (x_runV (As := [.int 2, .int 0]) (rest := []) ⟨hx, hb, hml, hown, hts⟩ (c_X9_refused l G hG I J 2 0 hq14) (cwV 2 hts gX9_lease_X9_refused rfl rfl rfl (by decide +kernel) ⟨Nat.le_of_ble_eq_true rfl, Nat.le_of_ble_eq_true rfl⟩) hK hP zkL_359 (by decide) rfl rfl hl.1 rfl (Nat.le_of_ble_eq_true rfl) dX9_lease_76 ⟨Nat.zero_le _, Nat.zero_le _⟩) hS (fun H locs hP hS => ?_)
              obtain rfl := Option.some.inj hf
              exact x_iret hx hb hr hlocks hK hP hS dX9_lease_79
            · have hf := zif_f c13 hf
              refine lv_aload_n hx hb dX9_lease_63 rfl (lv_at hl 0 rfl) ?_
              refine lv_iload_n hx hb dX9_lease_64 rfl (lv_at hl 2 rfl) ?_
              refine lv_iload_n hx hb dX9_lease_65 rfl (lv_at hl 1 rfl) ?_
              refine lv_iload_n hx hb dX9_lease_66 rfl (lv_at hl 3 rfl) ?_
              obtain ⟨q15, hq15, hf⟩ := zb_e hf
              refine x_calli (x_runV (As := [.int x2, .int x1, .int x3]) (rest := []) ⟨hx, hb, hml, hown, hts⟩ (c_X9_leased l G hG I J x2 x1 x3 hq15) (cwV 3 hts gX9_lease_X9_leased rfl rfl rfl (by decide +kernel) ⟨Nat.le_of_ble_eq_true rfl, Nat.le_of_ble_eq_true rfl⟩) hK hP zkL_359 (by decide) rfl rfl hl.1 rfl (Nat.le_of_ble_eq_true rfl) dX9_lease_67 ⟨Nat.zero_le _, Nat.zero_le _⟩) hS (fun H locs hP hS => ?_)
              refine lv_goto (tgt := 79) hx hb dX9_lease_70 (by decide) ?_
              obtain rfl := Option.some.inj hf
              exact x_iret hx hb hr hlocks hK hP hS dX9_lease_79
          · have hf := zif_t c11 hf
            exact J47 J H locs ls hf hP hS (lv_sub hl [0] rfl)
      · have hf := zif_t c6 hf
        refine lv_iconst (v := (-1)) hx hb dX9_lease_26 (by decide) ?_
        obtain rfl := Option.some.inj hf
        exact x_iret hx hb hr hlocks hK hP hS dX9_lease_27
set_option maxRecDepth 100000 in
set_option maxHeartbeats 4000000 in
theorem c_X9_shareOf (l : Launch) (G : zGT) (hG : zOK G) (I J : zM) (x1 : Int32) (x2 : Int32) {r : Int32} (hf : f_X9_shareOf J x1 x2 = some r) : Met l yX9_shareOf wsX9_shareOf (zrm 0 0) (va_Pc [.ref (G.2.1 359), .int x1, .int x2] (zS G I J)) (zQi G r I J) 0 0 (zA G) := by
  refine zMet (cc := cX9_shareOf) (n := 4) (ret := (some .int)) (by decide) rfl (Nat.le_of_ble_eq_true rfl) ?_
  intro p e s m args below meth c H locs ls F hK hP hS hl
  obtain ⟨hx, hb, hr, hml, hts, hown, hlocks⟩ := F
  have hown : s.vm.findClass RX9 = some m.cls := hown
  have hl : lv_has ls 4 [(0, .ref (G.2.1 359)), (1, .int x1), (2, .int x2)] := hl
  have hi9 : ∀ w ∈ wsX90, w ∈ wsX9_shareOf := fun _ h => List.mem_cons_of_mem _ (List.mem_append_right _ h)
  unfold f_X9_shareOf at hf
  refine lv_iload_n hx hb dX9_shareOf_0 rfl (lv_at hl 1 rfl) ?_
  refine lv_aload_n hx hb dX9_shareOf_1 rfl (lv_at hl 0 rfl) ?_
  refine x_get (j := 6) (v := .int (J 0 6)) hx hb hts hi9 hown hK hP zkL_359 rfl (by decide) (hts (.fieldLink RX9 139 "LeaseOfficeModel" "blamedMany" "I") (by decide +kernel)) rfl (by decide) dX9_shareOf_2 ?_
  obtain ⟨h1, hf⟩ := zck_e hf
  refine lv_idiv hx hb dX9_shareOf_5 (zne_e h1) ?_
  obtain ⟨w2, ew2, hf⟩ := zlet_e hf
  refine z_topi ew2 ?_
  refine lv_istore_n (lv' := [(3, .int w2), (0, .ref (G.2.1 359)), (1, .int x1), (2, .int x2)]) hx hb dX9_shareOf_6 rfl hl (by decide) rfl (fun ls hl => ?_)
  refine lv_iload_n hx hb dX9_shareOf_7 rfl (lv_at hl 3 rfl) ?_
  refine lv_if_ne (tgt := 24) hx hb dX9_shareOf_8 (by decide) (fun c3 => ?_) (fun c3 => ?_)
  · have hf := zif_f c3 hf
    refine lv_iload_n hx hb dX9_shareOf_24 rfl (lv_at hl 0 rfl) ?_
    obtain rfl := Option.some.inj hf
    exact x_iret hx hb hr hlocks hK hP hS dX9_shareOf_25
  · have hf := zif_t c3 hf
    refine lv_iload_n hx hb dX9_shareOf_11 rfl (lv_at hl 2 rfl) ?_
    refine lv_iload_n hx hb dX9_shareOf_12 rfl (lv_at hl 0 rfl) ?_
    refine lv_aload_n hx hb dX9_shareOf_13 rfl (lv_at hl 1 rfl) ?_
    refine x_get (j := 6) (v := .int (J 0 6)) hx hb hts hi9 hown hK hP zkL_359 rfl (by decide) (hts (.fieldLink RX9 139 "LeaseOfficeModel" "blamedMany" "I") (by decide +kernel)) rfl (by decide) dX9_shareOf_14 ?_
    refine lv_iconst (v := 1) hx hb dX9_shareOf_17 (by decide) ?_
    refine lv_isub hx hb dX9_shareOf_18 ?_
    refine lv_imul hx hb dX9_shareOf_19 ?_
    refine lv_isub hx hb dX9_shareOf_20 ?_
    refine lv_goto (tgt := 25) hx hb dX9_shareOf_21 (by decide) ?_
    obtain rfl := Option.some.inj hf
    exact x_iret hx hb hr hlocks hK hP hS dX9_shareOf_25
set_option maxRecDepth 100000 in
set_option maxHeartbeats 4000000 in
theorem c_X9_looks (l : Launch) (G : zGT) (hG : zOK G) (I J : zM) (x1 : Int32) {r : Int32 × zM} (hf : f_X9_looks J x1 = some r) : Met l yX9_looks wsX9_looks (zrm 3 72) (va_Pc [.ref (G.2.1 359), .int x1] (zS G I J)) (zQi G r.1 I r.2) 0 0 (zA G) := by
  refine zMet (cc := cX9_looks) (n := 8) (ret := (some .int)) (by decide) rfl (Nat.le_of_ble_eq_true rfl) ?_
  intro p e s m args below meth c H locs ls F hK hP hS hl
  obtain ⟨hx, hb, hr, hml, hts, hown, hlocks⟩ := F
  have hown : s.vm.findClass RX9 = some m.cls := hown
  have hl : lv_has ls 8 [(0, .ref (G.2.1 359)), (1, .int x1)] := hl
  have hi9 : ∀ w ∈ wsX90, w ∈ wsX9_looks := fun _ h => List.mem_cons_of_mem _ (List.mem_append_right _ h)
  have L31 : ∀ (y2 : Int32) (y3 : Int32) (n : Nat) (M : zM) (y4 : Int32) (H : Heap) (locs : List Loc) (ls : Array Slot), f_X9_looks_l31 y2 y3 n M y4 = some r → va_P G.1 vwCl (zW G I M) H → va_S (zA G) s.heap H locs → lv_has ls 8 [(0, .ref (G.2.1 359)), (2, .int y2), (3, .int y3), (4, .int y4)] → W p l e (zrm 3 72) s m args below meth c H locs 0 0 (MQ below (zQi G r.1 I r.2) args s 0 0 (zA G)) (F0 m 31 ls []) := by
    intro y2 y3 n
    induction n with
    | zero =>
      intro M y4 H locs ls hf
      rw [f_X9_looks_l31] at hf
      cases hf
    | succ n ih =>
      intro M y4 H locs ls hf hP hS hl
      rw [f_X9_looks_l31] at hf
      refine lv_iload hx hb dX9_looks_31 (lv_at hl 3 rfl) ?_
      refine lv_aload_n hx hb dX9_looks_33 rfl (lv_at hl 0 rfl) ?_
      refine x_get (j := 6) (v := .int (M 0 6)) hx hb hts hi9 hown hK hP zkL_359 rfl (by decide) (hts (.fieldLink RX9 139 "LeaseOfficeModel" "blamedMany" "I") (by decide +kernel)) rfl (by decide) dX9_looks_34 ?_
      refine lv_icmp_ge (tgt := 162) hx hb dX9_looks_37 (by decide) (fun c6 => ?_) (fun c6 => ?_)
      · have hf := zif_t c6 hf
        refine lv_aload_n hx hb dX9_looks_162 rfl (lv_at hl 0 rfl) ?_
        refine x_get (j := 6) (v := .int (M 0 6)) hx hb hts hi9 hown hK hP zkL_359 rfl (by decide) (hts (.fieldLink RX9 139 "LeaseOfficeModel" "blamedMany" "I") (by decide +kernel)) rfl (by decide) dX9_looks_163 ?_
        obtain rfl := Option.some.inj hf
        exact x_iret hx hb hr hlocks hK hP hS dX9_looks_166
      · have hf := zif_f c6 hf
        refine lv_aload_n hx hb dX9_looks_40 rfl (lv_at hl 0 rfl) ?_
        refine x_get (j := 5) (v := .ref (G.2.1 364)) hx hb hts hi9 hown hK hP zkL_359 rfl (by decide) (hts (.fieldLink RX9 22 "LeaseOfficeModel" "blamed" "[I") (by decide +kernel)) rfl (by decide) dX9_looks_41 ?_
        refine lv_iload hx hb dX9_looks_44 (lv_at hl 3 rfl) ?_
        obtain ⟨h7, hf⟩ := zck_e hf
        refine x_iald hx hb hK hP (zK_lt zkL_364 (by decide)) (zE_15 (j := 5) zkL_364 zlL_364 rfl) (zin_e h7) dX9_looks_46 ?_
        obtain ⟨w8, ew8, hf⟩ := zlet_e hf
        refine z_topi ew8 ?_
        refine lv_istore (lv' := [(5, .int w8), (0, .ref (G.2.1 359)), (2, .int y2), (3, .int y3), (4, .int y4)]) hx hb dX9_looks_47 hl (by decide) rfl (fun ls hl => ?_)
        refine lv_aload_n hx hb dX9_looks_49 rfl (lv_at hl 1 rfl) ?_
        refine lv_iload_n hx hb dX9_looks_50 rfl (lv_at hl 3 rfl) ?_
        refine lv_iload hx hb dX9_looks_51 (lv_at hl 4 rfl) ?_
        obtain ⟨q9, hq9, hf⟩ := zb_e hf
        refine x_calli (x_runV (As := [.int y3, .int y4]) (rest := []) ⟨hx, hb, hml, hown, hts⟩ (c_X9_shareOf l G hG I M y3 y4 hq9) (cwV 2 hts gX9_looks_X9_shareOf rfl rfl rfl (by decide +kernel) ⟨Nat.le_of_ble_eq_true rfl, Nat.le_of_ble_eq_true rfl⟩) hK hP zkL_359 (by decide) rfl rfl hl.1 rfl (Nat.le_of_ble_eq_true rfl) dX9_looks_53 ⟨Nat.zero_le _, Nat.zero_le _⟩) hS (fun H locs hP hS => ?_)
        refine lv_istore (lv' := [(6, .int q9), (5, .int w8), (0, .ref (G.2.1 359)), (2, .int y2), (3, .int y3), (4, .int y4)]) hx hb dX9_looks_56 hl (by decide) rfl (fun ls hl => ?_)
        refine lv_aload_n hx hb dX9_looks_58 rfl (lv_at hl 2 rfl) ?_
        refine lv_iload hx hb dX9_looks_59 (lv_at hl 1 rfl) ?_
        refine lv_iconst (v := 1) hx hb dX9_looks_61 (by decide) ?_
        obtain ⟨q10, hq10, hf⟩ := zb_e hf
        refine x_calli (x_runV (As := [.int w8, .int 1]) (rest := []) ⟨hx, hb, hml, hown, hts⟩ (c_X9_p l G hG I M w8 1 hq10) (cwV 2 hts gX9_looks_X9_p rfl rfl rfl (by decide +kernel) ⟨Nat.le_of_ble_eq_true rfl, Nat.le_of_ble_eq_true rfl⟩) hK hP zkL_359 (by decide) rfl rfl hl.1 rfl (Nat.le_of_ble_eq_true rfl) dX9_looks_62 ⟨Nat.zero_le _, Nat.zero_le _⟩) hS (fun H locs hP hS => ?_)
        refine lv_iload hx hb dX9_looks_65 (lv_at hl 0 rfl) ?_
        refine lv_icmp_ge (tgt := 80) hx hb dX9_looks_67 (by decide) (fun c11 => ?_) (fun c11 => ?_)
        · have hf := zif_t c11 hf
          refine lv_iload hx hb dX9_looks_80 (lv_at hl 0 rfl) ?_
          refine lv_istore (lv' := [(7, .int q9), (6, .int q9), (5, .int w8), (0, .ref (G.2.1 359)), (2, .int y2), (3, .int y3), (4, .int y4)]) hx hb dX9_looks_82 hl (by decide) rfl (fun ls hl => ?_)
          refine lv_aload_n hx hb dX9_looks_84 rfl (lv_at hl 3 rfl) ?_
          refine lv_iload hx hb dX9_looks_85 (lv_at hl 2 rfl) ?_
          refine lv_iconst (v := 1) hx hb dX9_looks_87 (by decide) ?_
          refine lv_aload_n hx hb dX9_looks_88 rfl (lv_at hl 3 rfl) ?_
          refine lv_iload hx hb dX9_looks_89 (lv_at hl 2 rfl) ?_
          refine lv_iconst (v := 1) hx hb dX9_looks_91 (by decide) ?_
          obtain ⟨q12, hq12, hf⟩ := zb_e hf
          refine x_calli (x_runV (As := [.int w8, .int 1]) (rest := [.int 1, .int w8, .ref (G.2.1 359)]) ⟨hx, hb, hml, hown, hts⟩ (c_X9_p l G hG I M w8 1 hq12) (cwV 2 hts gX9_looks_X9_p rfl rfl rfl (by decide +kernel) ⟨Nat.le_of_ble_eq_true rfl, Nat.le_of_ble_eq_true rfl⟩) hK hP zkL_359 (by decide) rfl rfl hl.1 rfl (Nat.le_of_ble_eq_true rfl) dX9_looks_92 ⟨Nat.zero_le _, Nat.zero_le _⟩) hS (fun H locs hP hS => ?_)
          refine lv_iload hx hb dX9_looks_95 (lv_at hl 0 rfl) ?_
          refine lv_isub hx hb dX9_looks_97 ?_
          obtain ⟨q13, hq13, hf⟩ := zb_e hf
          refine x_callv (x_runV (As := [.int w8, .int 1, .int (q12 - q9)]) (rest := []) ⟨hx, hb, hml, hown, hts⟩ (c_X9_setP l G hG I M w8 1 (q12 - q9) hq13) (cwV 3 hts gX9_looks_X9_setP rfl rfl rfl (by decide +kernel) ⟨Nat.le_of_ble_eq_true rfl, Nat.le_of_ble_eq_true rfl⟩) hK hP zkL_359 (by decide) rfl rfl hl.1 rfl (Nat.le_of_ble_eq_true rfl) dX9_looks_98 ⟨Nat.zero_le _, Nat.zero_le _⟩) hS (fun H locs hP hS => ?_)
          refine lv_aload_n hx hb dX9_looks_101 rfl (lv_at hl 3 rfl) ?_
          refine lv_iload hx hb dX9_looks_102 (lv_at hl 2 rfl) ?_
          refine lv_iconst (v := 4) hx hb dX9_looks_104 (by decide) ?_
          refine lv_aload_n hx hb dX9_looks_105 rfl (lv_at hl 3 rfl) ?_
          refine lv_iload hx hb dX9_looks_106 (lv_at hl 2 rfl) ?_
          refine lv_iconst (v := 4) hx hb dX9_looks_108 (by decide) ?_
          obtain ⟨q14, hq14, hf⟩ := zb_e hf
          refine x_calli (x_runV (As := [.int w8, .int 4]) (rest := [.int 4, .int w8, .ref (G.2.1 359)]) ⟨hx, hb, hml, hown, hts⟩ (c_X9_p l G hG I q13 w8 4 hq14) (cwV 2 hts gX9_looks_X9_p rfl rfl rfl (by decide +kernel) ⟨Nat.le_of_ble_eq_true rfl, Nat.le_of_ble_eq_true rfl⟩) hK hP zkL_359 (by decide) rfl rfl hl.1 rfl (Nat.le_of_ble_eq_true rfl) dX9_looks_109 ⟨Nat.zero_le _, Nat.zero_le _⟩) hS (fun H locs hP hS => ?_)
          refine lv_iload hx hb dX9_looks_112 (lv_at hl 1 rfl) ?_
          refine lv_iadd hx hb dX9_looks_114 ?_
          refine lv_iload hx hb dX9_looks_115 (lv_at hl 0 rfl) ?_
          refine lv_isub hx hb dX9_looks_117 ?_
          obtain ⟨q15, hq15, hf⟩ := zb_e hf
          refine x_callv (x_runV (As := [.int w8, .int 4, .int ((q14 + q9) - q9)]) (rest := []) ⟨hx, hb, hml, hown, hts⟩ (c_X9_setP l G hG I q13 w8 4 ((q14 + q9) - q9) hq15) (cwV 3 hts gX9_looks_X9_setP rfl rfl rfl (by decide +kernel) ⟨Nat.le_of_ble_eq_true rfl, Nat.le_of_ble_eq_true rfl⟩) hK hP zkL_359 (by decide) rfl rfl hl.1 rfl (Nat.le_of_ble_eq_true rfl) dX9_looks_118 ⟨Nat.zero_le _, Nat.zero_le _⟩) hS (fun H locs hP hS => ?_)
          refine lv_aload_n hx hb dX9_looks_121 rfl (lv_at hl 3 rfl) ?_
          refine x_get (j := 0) (v := .ref (G.2.1 360)) hx hb hts hi9 hown hK hP zkL_359 rfl (by decide) (hts (.fieldLink RX9 9 "LeaseOfficeModel" "g" "[I") (by decide +kernel)) rfl (by decide) dX9_looks_122 ?_
          refine lv_sipush (v := 1083) hx hb dX9_looks_125 (by decide) ?_
          refine lv_dup2_11 hx hb dX9_looks_128 rfl rfl ?_
          refine x_ialdL (j := 1083) hx hb hK hP (zK_lt zkL_360 (by decide)) (zE_15 (j := 1) zkL_360 zlL_360 rfl) (by decide) (by decide) dX9_looks_129 ?_
          refine lv_iload hx hb dX9_looks_130 (lv_at hl 0 rfl) ?_
          refine lv_iadd hx hb dX9_looks_132 ?_
          obtain ⟨M16, eM16, hf⟩ := zlet_e hf
          refine x_iastM (j := 1) (a := 1083) eM16 (by decide) hx hb hG hK hP hS zkL_360 zlL_360 (zin_e (by decide)) dX9_looks_133 (fun H locs hP hS => ?_)
          refine lv_aload_n hx hb dX9_looks_134 rfl (lv_at hl 3 rfl) ?_
          refine lv_iload hx hb dX9_looks_135 (lv_at hl 2 rfl) ?_
          refine lv_iconst (v := 2) hx hb dX9_looks_137 (by decide) ?_
          refine lv_aload_n hx hb dX9_looks_138 rfl (lv_at hl 3 rfl) ?_
          refine lv_iload hx hb dX9_looks_139 (lv_at hl 2 rfl) ?_
          refine lv_iconst (v := 2) hx hb dX9_looks_141 (by decide) ?_
          obtain ⟨q17, hq17, hf⟩ := zb_e hf
          refine x_calli (x_runV (As := [.int w8, .int 2]) (rest := [.int 2, .int w8, .ref (G.2.1 359)]) ⟨hx, hb, hml, hown, hts⟩ (c_X9_p l G hG I M16 w8 2 hq17) (cwV 2 hts gX9_looks_X9_p rfl rfl rfl (by decide +kernel) ⟨Nat.le_of_ble_eq_true rfl, Nat.le_of_ble_eq_true rfl⟩) hK hP zkL_359 (by decide) rfl rfl hl.1 rfl (Nat.le_of_ble_eq_true rfl) dX9_looks_142 ⟨Nat.zero_le _, Nat.zero_le _⟩) hS (fun H locs hP hS => ?_)
          refine lv_iload_n hx hb dX9_looks_145 rfl (lv_at hl 4 rfl) ?_
          refine lv_isub hx hb dX9_looks_146 ?_
          refine lv_iconst (v := 0) hx hb dX9_looks_147 (by decide) ?_
          refine lv_bipush (v := 99) hx hb dX9_looks_148 (by decide) ?_
          obtain ⟨q18, hq18, hf⟩ := zb_e hf
          refine x_calli (x_runS (As := [.int (q17 - y2), .int 0, .int 99]) (rest := [.int 2, .int w8, .ref (G.2.1 359)]) ⟨hx, hb, hml, hown, hts⟩ (c_X9_cut l G hG I M16 (q17 - y2) 0 99 hq18) (va_cwS 3 hts gX9_looks_X9_cut rfl rfl rfl (by decide +kernel) ⟨Nat.le_of_ble_eq_true rfl, Nat.le_of_ble_eq_true rfl⟩) hK hP rfl hl.1 rfl (Nat.le_of_ble_eq_true rfl) dX9_looks_150 ⟨Nat.zero_le _, Nat.zero_le _⟩) hS (fun H locs hP hS => ?_)
          obtain ⟨q19, hq19, hf⟩ := zb_e hf
          refine x_callv (x_runV (As := [.int w8, .int 2, .int q18]) (rest := []) ⟨hx, hb, hml, hown, hts⟩ (c_X9_setP l G hG I M16 w8 2 q18 hq19) (cwV 3 hts gX9_looks_X9_setP rfl rfl rfl (by decide +kernel) ⟨Nat.le_of_ble_eq_true rfl, Nat.le_of_ble_eq_true rfl⟩) hK hP zkL_359 (by decide) rfl rfl hl.1 rfl (Nat.le_of_ble_eq_true rfl) dX9_looks_153 ⟨Nat.zero_le _, Nat.zero_le _⟩) hS (fun H locs hP hS => ?_)
          refine lv_iinc (v := (y4 + 1)) (lv' := [(4, .int (y4 + 1)), (7, .int q9), (6, .int q9), (5, .int w8), (0, .ref (G.2.1 359)), (2, .int y2), (3, .int y3)]) hx hb dX9_looks_156 hl (k := 6) rfl rfl (by decide) rfl (fun ls hl => ?_)
          refine lv_goto (tgt := 31) hx hb dX9_looks_159 (by decide) ?_
          exact ih q19 (y4 + 1) H locs ls hf hP hS (lv_sub hl [4, 5, 6, 0] rfl)
        · have hf := zif_f c11 hf
          refine lv_aload_n hx hb dX9_looks_70 rfl (lv_at hl 2 rfl) ?_
          refine lv_iload hx hb dX9_looks_71 (lv_at hl 1 rfl) ?_
          refine lv_iconst (v := 1) hx hb dX9_looks_73 (by decide) ?_
          obtain ⟨q20, hq20, hf⟩ := zb_e hf
          refine x_calli (x_runV (As := [.int w8, .int 1]) (rest := []) ⟨hx, hb, hml, hown, hts⟩ (c_X9_p l G hG I M w8 1 hq20) (cwV 2 hts gX9_looks_X9_p rfl rfl rfl (by decide +kernel) ⟨Nat.le_of_ble_eq_true rfl, Nat.le_of_ble_eq_true rfl⟩) hK hP zkL_359 (by decide) rfl rfl hl.1 rfl (Nat.le_of_ble_eq_true rfl) dX9_looks_74 ⟨Nat.zero_le _, Nat.zero_le _⟩) hS (fun H locs hP hS => ?_)
          refine lv_goto (tgt := 82) hx hb dX9_looks_77 (by decide) ?_
          refine lv_istore (lv' := [(7, .int q20), (6, .int q9), (5, .int w8), (0, .ref (G.2.1 359)), (2, .int y2), (3, .int y3), (4, .int y4)]) hx hb dX9_looks_82 hl (by decide) rfl (fun ls hl => ?_)
          refine lv_aload_n hx hb dX9_looks_84 rfl (lv_at hl 3 rfl) ?_
          refine lv_iload hx hb dX9_looks_85 (lv_at hl 2 rfl) ?_
          refine lv_iconst (v := 1) hx hb dX9_looks_87 (by decide) ?_
          refine lv_aload_n hx hb dX9_looks_88 rfl (lv_at hl 3 rfl) ?_
          refine lv_iload hx hb dX9_looks_89 (lv_at hl 2 rfl) ?_
          refine lv_iconst (v := 1) hx hb dX9_looks_91 (by decide) ?_
          obtain ⟨q21, hq21, hf⟩ := zb_e hf
          refine x_calli (x_runV (As := [.int w8, .int 1]) (rest := [.int 1, .int w8, .ref (G.2.1 359)]) ⟨hx, hb, hml, hown, hts⟩ (c_X9_p l G hG I M w8 1 hq21) (cwV 2 hts gX9_looks_X9_p rfl rfl rfl (by decide +kernel) ⟨Nat.le_of_ble_eq_true rfl, Nat.le_of_ble_eq_true rfl⟩) hK hP zkL_359 (by decide) rfl rfl hl.1 rfl (Nat.le_of_ble_eq_true rfl) dX9_looks_92 ⟨Nat.zero_le _, Nat.zero_le _⟩) hS (fun H locs hP hS => ?_)
          refine lv_iload hx hb dX9_looks_95 (lv_at hl 0 rfl) ?_
          refine lv_isub hx hb dX9_looks_97 ?_
          obtain ⟨q22, hq22, hf⟩ := zb_e hf
          refine x_callv (x_runV (As := [.int w8, .int 1, .int (q21 - q20)]) (rest := []) ⟨hx, hb, hml, hown, hts⟩ (c_X9_setP l G hG I M w8 1 (q21 - q20) hq22) (cwV 3 hts gX9_looks_X9_setP rfl rfl rfl (by decide +kernel) ⟨Nat.le_of_ble_eq_true rfl, Nat.le_of_ble_eq_true rfl⟩) hK hP zkL_359 (by decide) rfl rfl hl.1 rfl (Nat.le_of_ble_eq_true rfl) dX9_looks_98 ⟨Nat.zero_le _, Nat.zero_le _⟩) hS (fun H locs hP hS => ?_)
          refine lv_aload_n hx hb dX9_looks_101 rfl (lv_at hl 3 rfl) ?_
          refine lv_iload hx hb dX9_looks_102 (lv_at hl 2 rfl) ?_
          refine lv_iconst (v := 4) hx hb dX9_looks_104 (by decide) ?_
          refine lv_aload_n hx hb dX9_looks_105 rfl (lv_at hl 3 rfl) ?_
          refine lv_iload hx hb dX9_looks_106 (lv_at hl 2 rfl) ?_
          refine lv_iconst (v := 4) hx hb dX9_looks_108 (by decide) ?_
          obtain ⟨q23, hq23, hf⟩ := zb_e hf
          refine x_calli (x_runV (As := [.int w8, .int 4]) (rest := [.int 4, .int w8, .ref (G.2.1 359)]) ⟨hx, hb, hml, hown, hts⟩ (c_X9_p l G hG I q22 w8 4 hq23) (cwV 2 hts gX9_looks_X9_p rfl rfl rfl (by decide +kernel) ⟨Nat.le_of_ble_eq_true rfl, Nat.le_of_ble_eq_true rfl⟩) hK hP zkL_359 (by decide) rfl rfl hl.1 rfl (Nat.le_of_ble_eq_true rfl) dX9_looks_109 ⟨Nat.zero_le _, Nat.zero_le _⟩) hS (fun H locs hP hS => ?_)
          refine lv_iload hx hb dX9_looks_112 (lv_at hl 1 rfl) ?_
          refine lv_iadd hx hb dX9_looks_114 ?_
          refine lv_iload hx hb dX9_looks_115 (lv_at hl 0 rfl) ?_
          refine lv_isub hx hb dX9_looks_117 ?_
          obtain ⟨q24, hq24, hf⟩ := zb_e hf
          refine x_callv (x_runV (As := [.int w8, .int 4, .int ((q23 + q9) - q20)]) (rest := []) ⟨hx, hb, hml, hown, hts⟩ (c_X9_setP l G hG I q22 w8 4 ((q23 + q9) - q20) hq24) (cwV 3 hts gX9_looks_X9_setP rfl rfl rfl (by decide +kernel) ⟨Nat.le_of_ble_eq_true rfl, Nat.le_of_ble_eq_true rfl⟩) hK hP zkL_359 (by decide) rfl rfl hl.1 rfl (Nat.le_of_ble_eq_true rfl) dX9_looks_118 ⟨Nat.zero_le _, Nat.zero_le _⟩) hS (fun H locs hP hS => ?_)
          refine lv_aload_n hx hb dX9_looks_121 rfl (lv_at hl 3 rfl) ?_
          refine x_get (j := 0) (v := .ref (G.2.1 360)) hx hb hts hi9 hown hK hP zkL_359 rfl (by decide) (hts (.fieldLink RX9 9 "LeaseOfficeModel" "g" "[I") (by decide +kernel)) rfl (by decide) dX9_looks_122 ?_
          refine lv_sipush (v := 1083) hx hb dX9_looks_125 (by decide) ?_
          refine lv_dup2_11 hx hb dX9_looks_128 rfl rfl ?_
          refine x_ialdL (j := 1083) hx hb hK hP (zK_lt zkL_360 (by decide)) (zE_15 (j := 1) zkL_360 zlL_360 rfl) (by decide) (by decide) dX9_looks_129 ?_
          refine lv_iload hx hb dX9_looks_130 (lv_at hl 0 rfl) ?_
          refine lv_iadd hx hb dX9_looks_132 ?_
          obtain ⟨M25, eM25, hf⟩ := zlet_e hf
          refine x_iastM (j := 1) (a := 1083) eM25 (by decide) hx hb hG hK hP hS zkL_360 zlL_360 (zin_e (by decide)) dX9_looks_133 (fun H locs hP hS => ?_)
          refine lv_aload_n hx hb dX9_looks_134 rfl (lv_at hl 3 rfl) ?_
          refine lv_iload hx hb dX9_looks_135 (lv_at hl 2 rfl) ?_
          refine lv_iconst (v := 2) hx hb dX9_looks_137 (by decide) ?_
          refine lv_aload_n hx hb dX9_looks_138 rfl (lv_at hl 3 rfl) ?_
          refine lv_iload hx hb dX9_looks_139 (lv_at hl 2 rfl) ?_
          refine lv_iconst (v := 2) hx hb dX9_looks_141 (by decide) ?_
          obtain ⟨q26, hq26, hf⟩ := zb_e hf
          refine x_calli (x_runV (As := [.int w8, .int 2]) (rest := [.int 2, .int w8, .ref (G.2.1 359)]) ⟨hx, hb, hml, hown, hts⟩ (c_X9_p l G hG I M25 w8 2 hq26) (cwV 2 hts gX9_looks_X9_p rfl rfl rfl (by decide +kernel) ⟨Nat.le_of_ble_eq_true rfl, Nat.le_of_ble_eq_true rfl⟩) hK hP zkL_359 (by decide) rfl rfl hl.1 rfl (Nat.le_of_ble_eq_true rfl) dX9_looks_142 ⟨Nat.zero_le _, Nat.zero_le _⟩) hS (fun H locs hP hS => ?_)
          refine lv_iload_n hx hb dX9_looks_145 rfl (lv_at hl 4 rfl) ?_
          refine lv_isub hx hb dX9_looks_146 ?_
          refine lv_iconst (v := 0) hx hb dX9_looks_147 (by decide) ?_
          refine lv_bipush (v := 99) hx hb dX9_looks_148 (by decide) ?_
          obtain ⟨q27, hq27, hf⟩ := zb_e hf
          refine x_calli (x_runS (As := [.int (q26 - y2), .int 0, .int 99]) (rest := [.int 2, .int w8, .ref (G.2.1 359)]) ⟨hx, hb, hml, hown, hts⟩ (c_X9_cut l G hG I M25 (q26 - y2) 0 99 hq27) (va_cwS 3 hts gX9_looks_X9_cut rfl rfl rfl (by decide +kernel) ⟨Nat.le_of_ble_eq_true rfl, Nat.le_of_ble_eq_true rfl⟩) hK hP rfl hl.1 rfl (Nat.le_of_ble_eq_true rfl) dX9_looks_150 ⟨Nat.zero_le _, Nat.zero_le _⟩) hS (fun H locs hP hS => ?_)
          obtain ⟨q28, hq28, hf⟩ := zb_e hf
          refine x_callv (x_runV (As := [.int w8, .int 2, .int q27]) (rest := []) ⟨hx, hb, hml, hown, hts⟩ (c_X9_setP l G hG I M25 w8 2 q27 hq28) (cwV 3 hts gX9_looks_X9_setP rfl rfl rfl (by decide +kernel) ⟨Nat.le_of_ble_eq_true rfl, Nat.le_of_ble_eq_true rfl⟩) hK hP zkL_359 (by decide) rfl rfl hl.1 rfl (Nat.le_of_ble_eq_true rfl) dX9_looks_153 ⟨Nat.zero_le _, Nat.zero_le _⟩) hS (fun H locs hP hS => ?_)
          refine lv_iinc (v := (y4 + 1)) (lv' := [(4, .int (y4 + 1)), (7, .int q20), (6, .int q9), (5, .int w8), (0, .ref (G.2.1 359)), (2, .int y2), (3, .int y3)]) hx hb dX9_looks_156 hl (k := 6) rfl rfl (by decide) rfl (fun ls hl => ?_)
          refine lv_goto (tgt := 31) hx hb dX9_looks_159 (by decide) ?_
          exact ih q28 (y4 + 1) H locs ls hf hP hS (lv_sub hl [4, 5, 6, 0] rfl)
  unfold f_X9_looks at hf
  refine lv_aload_n hx hb dX9_looks_0 rfl (lv_at hl 0 rfl) ?_
  refine lv_iload_n hx hb dX9_looks_1 rfl (lv_at hl 1 rfl) ?_
  obtain ⟨q1, hq1, hf⟩ := zb_e hf
  refine x_calli (x_runV (As := [.int x1]) (rest := []) ⟨hx, hb, hml, hown, hts⟩ (c_X9_moreWear l G hG I J x1 hq1) (cwV 1 hts gX9_looks_X9_moreWear rfl rfl rfl (by decide +kernel) ⟨Nat.le_of_ble_eq_true rfl, Nat.le_of_ble_eq_true rfl⟩) hK hP zkL_359 (by decide) rfl rfl hl.1 rfl (Nat.le_of_ble_eq_true rfl) dX9_looks_2 ⟨Nat.zero_le _, Nat.zero_le _⟩) hS (fun H locs hP hS => ?_)
  refine lv_istore_n (lv' := [(2, .int q1), (0, .ref (G.2.1 359)), (1, .int x1)]) hx hb dX9_looks_5 rfl hl (by decide) rfl (fun ls hl => ?_)
  refine lv_aload_n hx hb dX9_looks_6 rfl (lv_at hl 1 rfl) ?_
  refine lv_iload_n hx hb dX9_looks_7 rfl (lv_at hl 2 rfl) ?_
  obtain ⟨q2, hq2, hf⟩ := zb_e hf
  refine x_callv (x_runV (As := [.int x1]) (rest := []) ⟨hx, hb, hml, hown, hts⟩ (c_X9_blames l G hG I J x1 hq2) (cwV 1 hts gX9_looks_X9_blames rfl rfl rfl (by decide +kernel) ⟨Nat.le_of_ble_eq_true rfl, Nat.le_of_ble_eq_true rfl⟩) hK hP zkL_359 (by decide) rfl rfl hl.1 rfl (Nat.le_of_ble_eq_true rfl) dX9_looks_8 ⟨Nat.zero_le _, Nat.zero_le _⟩) hS (fun H locs hP hS => ?_)
  refine lv_aload_n hx hb dX9_looks_11 rfl (lv_at hl 1 rfl) ?_
  refine lv_iload_n hx hb dX9_looks_12 rfl (lv_at hl 2 rfl) ?_
  obtain ⟨q3, hq3, hf⟩ := zb_e hf
  refine x_calli (x_runV (As := [.int x1]) (rest := []) ⟨hx, hb, hml, hown, hts⟩ (c_X9_costOf l G hG I q2 x1 hq3) (cwV 1 hts gX9_looks_X9_costOf rfl rfl rfl (by decide +kernel) ⟨Nat.le_of_ble_eq_true rfl, Nat.le_of_ble_eq_true rfl⟩) hK hP zkL_359 (by decide) rfl rfl hl.1 rfl (Nat.le_of_ble_eq_true rfl) dX9_looks_13 ⟨Nat.zero_le _, Nat.zero_le _⟩) hS (fun H locs hP hS => ?_)
  refine lv_istore_n (lv' := [(3, .int q3), (2, .int q1), (0, .ref (G.2.1 359)), (1, .int x1)]) hx hb dX9_looks_16 rfl hl (by decide) rfl (fun ls hl => ?_)
  refine lv_aload_n hx hb dX9_looks_17 rfl (lv_at hl 2 rfl) ?_
  refine lv_iload_n hx hb dX9_looks_18 rfl (lv_at hl 3 rfl) ?_
  obtain ⟨q4, hq4, hf⟩ := zb_e hf
  refine x_callv (x_runV (As := [.int x1]) (rest := []) ⟨hx, hb, hml, hown, hts⟩ (c_X9_seesNow l G hG I q2 x1 hq4) (cwV 1 hts gX9_looks_X9_seesNow rfl rfl rfl (by decide +kernel) ⟨Nat.le_of_ble_eq_true rfl, Nat.le_of_ble_eq_true rfl⟩) hK hP zkL_359 (by decide) rfl rfl hl.1 rfl (Nat.le_of_ble_eq_true rfl) dX9_looks_19 ⟨Nat.zero_le _, Nat.zero_le _⟩) hS (fun H locs hP hS => ?_)
  refine lv_iload_n hx hb dX9_looks_22 rfl (lv_at hl 1 rfl) ?_
  refine lv_if_gt (tgt := 28) hx hb dX9_looks_23 (by decide) (fun c5 => ?_) (fun c5 => ?_)
  · have hf := zif_t c5 hf
    refine lv_iconst (v := 0) hx hb dX9_looks_28 (by decide) ?_
    refine lv_istore (lv' := [(4, .int 0), (3, .int q3), (2, .int q1), (0, .ref (G.2.1 359)), (1, .int x1)]) hx hb dX9_looks_29 hl (by decide) rfl (fun ls hl => ?_)
    exact L31 q1 q3 zFu q4 0 H locs ls hf hP hS (lv_sub hl [3, 2, 1, 0] rfl)
  · have hf := zif_f c5 hf
    refine lv_iconst (v := 0) hx hb dX9_looks_26 (by decide) ?_
    obtain rfl := Option.some.inj hf
    exact x_iret hx hb hr hlocks hK hP hS dX9_looks_27
set_option maxRecDepth 100000 in
set_option maxHeartbeats 4000000 in
theorem c_X9_ends (l : Launch) (G : zGT) (hG : zOK G) (I J : zM) (x1 : Int32) {r : zM} (hf : f_X9_ends J x1 = some r) : Met l yX9_ends wsX9_ends (zrm 1 23) (va_Pc [.ref (G.2.1 359), .int x1] (zS G I J)) (zQv G I r) 0 0 (zA G) := by
  refine zMet (cc := cX9_ends) (n := 2) (ret := none) (by decide) rfl (Nat.le_of_ble_eq_true rfl) ?_
  intro p e s m args below meth c H locs ls F hK hP hS hl
  obtain ⟨hx, hb, hr, hml, hts, hown, hlocks⟩ := F
  have hown : s.vm.findClass RX9 = some m.cls := hown
  have hl : lv_has ls 2 [(0, .ref (G.2.1 359)), (1, .int x1)] := hl
  have hi9 : ∀ w ∈ wsX90, w ∈ wsX9_ends := fun _ h => List.mem_cons_of_mem _ (List.mem_append_right _ h)
  unfold f_X9_ends at hf
  refine lv_aload_n hx hb dX9_ends_0 rfl (lv_at hl 0 rfl) ?_
  refine lv_iload_n hx hb dX9_ends_1 rfl (lv_at hl 1 rfl) ?_
  refine lv_bipush (v := 8) hx hb dX9_ends_2 (by decide) ?_
  refine lv_iconst (v := 3) hx hb dX9_ends_4 (by decide) ?_
  refine lv_aload_n hx hb dX9_ends_5 rfl (lv_at hl 0 rfl) ?_
  refine lv_iload_n hx hb dX9_ends_6 rfl (lv_at hl 1 rfl) ?_
  refine lv_bipush (v := 6) hx hb dX9_ends_7 (by decide) ?_
  obtain ⟨q1, hq1, hf⟩ := zb_e hf
  refine x_calli (x_runV (As := [.int x1, .int 6]) (rest := [.int 3, .int 8, .int x1, .ref (G.2.1 359)]) ⟨hx, hb, hml, hown, hts⟩ (c_X9_t l G hG I J x1 6 hq1) (cwV 2 hts gX9_ends_X9_t rfl rfl rfl (by decide +kernel) ⟨Nat.le_of_ble_eq_true rfl, Nat.le_of_ble_eq_true rfl⟩) hK hP zkL_359 (by decide) rfl rfl hl.1 rfl (Nat.le_of_ble_eq_true rfl) dX9_ends_9 ⟨Nat.zero_le _, Nat.zero_le _⟩) hS (fun H locs hP hS => ?_)
  refine lv_iconst (v := 1) hx hb dX9_ends_12 (by decide) ?_
  refine lv_isub hx hb dX9_ends_13 ?_
  refine lv_imul hx hb dX9_ends_14 ?_
  refine lv_iadd hx hb dX9_ends_15 ?_
  refine lv_iconst (v := 2) hx hb dX9_ends_16 (by decide) ?_
  refine lv_iadd hx hb dX9_ends_17 ?_
  refine lv_aload_n hx hb dX9_ends_18 rfl (lv_at hl 0 rfl) ?_
  refine x_get (j := 0) (v := .ref (G.2.1 360)) hx hb hts hi9 hown hK hP zkL_359 rfl (by decide) (hts (.fieldLink RX9 9 "LeaseOfficeModel" "g" "[I") (by decide +kernel)) rfl (by decide) dX9_ends_19 ?_
  refine lv_sipush (v := 1082) hx hb dX9_ends_22 (by decide) ?_
  refine x_ialdL (j := 1082) hx hb hK hP (zK_lt zkL_360 (by decide)) (zE_15 (j := 1) zkL_360 zlL_360 rfl) (by decide) (by decide) dX9_ends_25 ?_
  obtain ⟨q2, hq2, hf⟩ := zb_e hf
  refine x_callv (x_runV (As := [.int x1, .int ((8 + (3 * (q1 - 1))) + 2), .int (J 1 1082)]) (rest := []) ⟨hx, hb, hml, hown, hts⟩ (c_X9_setT l G hG I J x1 ((8 + (3 * (q1 - 1))) + 2) (J 1 1082) hq2) (cwV 3 hts gX9_ends_X9_setT rfl rfl rfl (by decide +kernel) ⟨Nat.le_of_ble_eq_true rfl, Nat.le_of_ble_eq_true rfl⟩) hK hP zkL_359 (by decide) rfl rfl hl.1 rfl (Nat.le_of_ble_eq_true rfl) dX9_ends_26 ⟨Nat.zero_le _, Nat.zero_le _⟩) hS (fun H locs hP hS => ?_)
  refine lv_aload_n hx hb dX9_ends_29 rfl (lv_at hl 0 rfl) ?_
  refine lv_iload_n hx hb dX9_ends_30 rfl (lv_at hl 1 rfl) ?_
  refine lv_iconst (v := 2) hx hb dX9_ends_31 (by decide) ?_
  refine lv_iconst (v := (-1)) hx hb dX9_ends_32 (by decide) ?_
  obtain ⟨q3, hq3, hf⟩ := zb_e hf
  refine x_callv (x_runV (As := [.int x1, .int 2, .int (-1)]) (rest := []) ⟨hx, hb, hml, hown, hts⟩ (c_X9_setT l G hG I q2 x1 2 (-1) hq3) (cwV 3 hts gX9_ends_X9_setT rfl rfl rfl (by decide +kernel) ⟨Nat.le_of_ble_eq_true rfl, Nat.le_of_ble_eq_true rfl⟩) hK hP zkL_359 (by decide) rfl rfl hl.1 rfl (Nat.le_of_ble_eq_true rfl) dX9_ends_33 ⟨Nat.zero_le _, Nat.zero_le _⟩) hS (fun H locs hP hS => ?_)
  obtain rfl := Option.some.inj hf
  exact x_vret hx hb hr hlocks hK hP hS dX9_ends_36
set_option maxRecDepth 100000 in
set_option maxHeartbeats 4000000 in
theorem c_X9_nextClaim (l : Launch) (G : zGT) (hG : zOK G) (I J : zM) (x1 : Int32) {r : Int32} (hf : f_X9_nextClaim J x1 = some r) : Met l yX9_nextClaim wsX9_nextClaim (zrm 5 115) (va_Pc [.ref (G.2.1 359), .int x1] (zS G I J)) (zQi G r I J) 0 0 (zA G) := by
  refine zMet (cc := cX9_nextClaim) (n := 4) (ret := (some .int)) (by decide) rfl (Nat.le_of_ble_eq_true rfl) ?_
  intro p e s m args below meth c H locs ls F hK hP hS hl
  obtain ⟨hx, hb, hr, hml, hts, hown, hlocks⟩ := F
  have hown : s.vm.findClass RX9 = some m.cls := hown
  have hl : lv_has ls 4 [(0, .ref (G.2.1 359)), (1, .int x1)] := hl
  have L2 : ∀ (n : Nat) (y2 : Int32) (H : Heap) (locs : List Loc) (ls : Array Slot), f_X9_nextClaim_l2 J x1 n y2 = some r → va_P G.1 vwCl (zW G I J) H → va_S (zA G) s.heap H locs → lv_has ls 4 [(0, .ref (G.2.1 359)), (1, .int x1), (2, .int y2)] → W p l e (zrm 5 115) s m args below meth c H locs 0 0 (MQ below (zQi G r I J) args s 0 0 (zA G)) (F0 m 2 ls []) := by
    intro n
    induction n with
    | zero =>
      intro y2 H locs ls hf
      rw [f_X9_nextClaim_l2] at hf
      cases hf
    | succ n ih =>
      intro y2 H locs ls hf hP hS hl
      rw [f_X9_nextClaim_l2] at hf
      refine lv_iload_n hx hb dX9_nextClaim_2 rfl (lv_at hl 2 rfl) ?_
      refine lv_aload_n hx hb dX9_nextClaim_3 rfl (lv_at hl 0 rfl) ?_
      refine lv_iload_n hx hb dX9_nextClaim_4 rfl (lv_at hl 1 rfl) ?_
      refine lv_bipush (v := 57) hx hb dX9_nextClaim_5 (by decide) ?_
      obtain ⟨q1, hq1, hf⟩ := zb_e hf
      refine x_calli (x_runV (As := [.int x1, .int 57]) (rest := [.int y2]) ⟨hx, hb, hml, hown, hts⟩ (c_X9_t l G hG I J x1 57 hq1) (cwV 2 hts gX9_nextClaim_X9_t rfl rfl rfl (by decide +kernel) ⟨Nat.le_of_ble_eq_true rfl, Nat.le_of_ble_eq_true rfl⟩) hK hP zkL_359 (by decide) rfl rfl hl.1 rfl (Nat.le_of_ble_eq_true rfl) dX9_nextClaim_7 ⟨Nat.zero_le _, Nat.zero_le _⟩) hS (fun H locs hP hS => ?_)
      refine lv_icmp_ge (tgt := 43) hx hb dX9_nextClaim_10 (by decide) (fun c2 => ?_) (fun c2 => ?_)
      · have hf := zif_t c2 hf
        refine lv_bipush (v := (-2)) hx hb dX9_nextClaim_43 (by decide) ?_
        obtain rfl := Option.some.inj hf
        exact x_iret hx hb hr hlocks hK hP hS dX9_nextClaim_45
      · have hf := zif_f c2 hf
        refine lv_aload_n hx hb dX9_nextClaim_13 rfl (lv_at hl 0 rfl) ?_
        refine lv_iload_n hx hb dX9_nextClaim_14 rfl (lv_at hl 1 rfl) ?_
        refine lv_iload_n hx hb dX9_nextClaim_15 rfl (lv_at hl 2 rfl) ?_
        obtain ⟨q3, hq3, hf⟩ := zb_e hf
        refine x_calli (x_runV (As := [.int x1, .int y2]) (rest := []) ⟨hx, hb, hml, hown, hts⟩ (c_X9_claimAt l G hG I J x1 y2 hq3) (cwV 2 hts gX9_nextClaim_X9_claimAt rfl rfl rfl (by decide +kernel) ⟨Nat.le_of_ble_eq_true rfl, Nat.le_of_ble_eq_true rfl⟩) hK hP zkL_359 (by decide) rfl rfl hl.1 rfl (Nat.le_of_ble_eq_true rfl) dX9_nextClaim_16 ⟨Nat.zero_le _, Nat.zero_le _⟩) hS (fun H locs hP hS => ?_)
        refine lv_istore_n (lv' := [(3, .int q3), (0, .ref (G.2.1 359)), (1, .int x1), (2, .int y2)]) hx hb dX9_nextClaim_19 rfl hl (by decide) rfl (fun ls hl => ?_)
        refine lv_aload_n hx hb dX9_nextClaim_20 rfl (lv_at hl 1 rfl) ?_
        refine lv_iload_n hx hb dX9_nextClaim_21 rfl (lv_at hl 2 rfl) ?_
        refine lv_aload_n hx hb dX9_nextClaim_22 rfl (lv_at hl 1 rfl) ?_
        refine lv_iload_n hx hb dX9_nextClaim_23 rfl (lv_at hl 2 rfl) ?_
        refine lv_iload_n hx hb dX9_nextClaim_24 rfl (lv_at hl 0 rfl) ?_
        refine lv_iconst (v := 0) hx hb dX9_nextClaim_25 (by decide) ?_
        obtain ⟨q4, hq4, hf⟩ := zb_e hf
        refine x_calli (x_runV (As := [.int x1, .int q3, .int 0]) (rest := [.int x1, .ref (G.2.1 359)]) ⟨hx, hb, hml, hown, hts⟩ (c_X9_c l G hG I J x1 q3 0 hq4) (cwV 3 hts gX9_nextClaim_X9_c rfl rfl rfl (by decide +kernel) ⟨Nat.le_of_ble_eq_true rfl, Nat.le_of_ble_eq_true rfl⟩) hK hP zkL_359 (by decide) rfl rfl hl.1 rfl (Nat.le_of_ble_eq_true rfl) dX9_nextClaim_26 ⟨Nat.zero_le _, Nat.zero_le _⟩) hS (fun H locs hP hS => ?_)
        obtain ⟨q5, hq5, hf⟩ := zb_e hf
        refine x_calli (x_runV (As := [.int x1, .int q4]) (rest := []) ⟨hx, hb, hml, hown, hts⟩ (c_X9_mayPay l G hG I J x1 q4 hq5) (cwV 2 hts gX9_nextClaim_X9_mayPay rfl rfl rfl (by decide +kernel) ⟨Nat.le_of_ble_eq_true rfl, Nat.le_of_ble_eq_true rfl⟩) hK hP zkL_359 (by decide) rfl rfl hl.1 rfl (Nat.le_of_ble_eq_true rfl) dX9_nextClaim_29 ⟨Nat.zero_le _, Nat.zero_le _⟩) hS (fun H locs hP hS => ?_)
        refine lv_if_eq (tgt := 37) hx hb dX9_nextClaim_32 (by decide) (fun c6 => ?_) (fun c6 => ?_)
        · have hf := zif_t c6 hf
          refine lv_iinc (v := (y2 + 1)) (lv' := [(2, .int (y2 + 1)), (3, .int q3), (0, .ref (G.2.1 359)), (1, .int x1)]) hx hb dX9_nextClaim_37 hl (k := 3) rfl rfl (by decide) rfl (fun ls hl => ?_)
          refine lv_goto (tgt := 2) hx hb dX9_nextClaim_40 (by decide) ?_
          exact ih (y2 + 1) H locs ls hf hP hS (lv_sub hl [2, 3, 0] rfl)
        · have hf := zif_f c6 hf
          refine lv_iload_n hx hb dX9_nextClaim_35 rfl (lv_at hl 0 rfl) ?_
          obtain rfl := Option.some.inj hf
          exact x_iret hx hb hr hlocks hK hP hS dX9_nextClaim_36
  unfold f_X9_nextClaim at hf
  refine lv_iconst (v := 0) hx hb dX9_nextClaim_0 (by decide) ?_
  refine lv_istore_n (lv' := [(2, .int 0), (0, .ref (G.2.1 359)), (1, .int x1)]) hx hb dX9_nextClaim_1 rfl hl (by decide) rfl (fun ls hl => ?_)
  exact L2 zFu 0 H locs ls hf hP hS (lv_sub hl [1, 2, 0] rfl)
set_option maxRecDepth 100000 in
set_option maxHeartbeats 4000000 in
theorem c_X9_offered (l : Launch) (G : zGT) (hG : zOK G) (I J : zM) (x1 : Int32) {r : zM} (hf : f_X9_offered J x1 = some r) : Met l yX9_offered wsX9_offered (zrm 6 138) (va_Pc [.ref (G.2.1 359), .int x1] (zS G I J)) (zQv G I r) 0 0 (zA G) := by
  refine zMet (cc := cX9_offered) (n := 5) (ret := none) (by decide) rfl (Nat.le_of_ble_eq_true rfl) ?_
  intro p e s m args below meth c H locs ls F hK hP hS hl
  obtain ⟨hx, hb, hr, hml, hts, hown, hlocks⟩ := F
  have hown : s.vm.findClass RX9 = some m.cls := hown
  have hl : lv_has ls 5 [(0, .ref (G.2.1 359)), (1, .int x1)] := hl
  unfold f_X9_offered at hf
  refine lv_aload_n hx hb dX9_offered_0 rfl (lv_at hl 0 rfl) ?_
  refine lv_iload_n hx hb dX9_offered_1 rfl (lv_at hl 1 rfl) ?_
  obtain ⟨q1, hq1, hf⟩ := zb_e hf
  refine x_calli (x_runV (As := [.int x1]) (rest := []) ⟨hx, hb, hml, hown, hts⟩ (c_X9_nextClaim l G hG I J x1 hq1) (cwV 1 hts gX9_offered_X9_nextClaim rfl rfl rfl (by decide +kernel) ⟨Nat.le_of_ble_eq_true rfl, Nat.le_of_ble_eq_true rfl⟩) hK hP zkL_359 (by decide) rfl rfl hl.1 rfl (Nat.le_of_ble_eq_true rfl) dX9_offered_2 ⟨Nat.zero_le _, Nat.zero_le _⟩) hS (fun H locs hP hS => ?_)
  refine lv_istore_n (lv' := [(2, .int q1), (0, .ref (G.2.1 359)), (1, .int x1)]) hx hb dX9_offered_5 rfl hl (by decide) rfl (fun ls hl => ?_)
  refine lv_iload_n hx hb dX9_offered_6 rfl (lv_at hl 0 rfl) ?_
  refine lv_if_lt (tgt := 42) hx hb dX9_offered_7 (by decide) (fun c2 => ?_) (fun c2 => ?_)
  · have hf := zif_t c2 hf
    obtain rfl := Option.some.inj hf
    exact x_vret hx hb hr hlocks hK hP hS dX9_offered_42
  · have hf := zif_f c2 hf
    refine lv_aload_n hx hb dX9_offered_10 rfl (lv_at hl 1 rfl) ?_
    refine lv_iload_n hx hb dX9_offered_11 rfl (lv_at hl 2 rfl) ?_
    refine lv_iload_n hx hb dX9_offered_12 rfl (lv_at hl 0 rfl) ?_
    refine lv_iconst (v := 0) hx hb dX9_offered_13 (by decide) ?_
    obtain ⟨q3, hq3, hf⟩ := zb_e hf
    refine x_calli (x_runV (As := [.int x1, .int q1, .int 0]) (rest := []) ⟨hx, hb, hml, hown, hts⟩ (c_X9_c l G hG I J x1 q1 0 hq3) (cwV 3 hts gX9_offered_X9_c rfl rfl rfl (by decide +kernel) ⟨Nat.le_of_ble_eq_true rfl, Nat.le_of_ble_eq_true rfl⟩) hK hP zkL_359 (by decide) rfl rfl hl.1 rfl (Nat.le_of_ble_eq_true rfl) dX9_offered_14 ⟨Nat.zero_le _, Nat.zero_le _⟩) hS (fun H locs hP hS => ?_)
    refine lv_istore_n (lv' := [(3, .int q3), (2, .int q1), (0, .ref (G.2.1 359)), (1, .int x1)]) hx hb dX9_offered_17 rfl hl (by decide) rfl (fun ls hl => ?_)
    refine lv_aload_n hx hb dX9_offered_18 rfl (lv_at hl 2 rfl) ?_
    refine lv_iload_n hx hb dX9_offered_19 rfl (lv_at hl 3 rfl) ?_
    refine lv_iload_n hx hb dX9_offered_20 rfl (lv_at hl 1 rfl) ?_
    refine lv_iconst (v := 2) hx hb dX9_offered_21 (by decide) ?_
    obtain ⟨q4, hq4, hf⟩ := zb_e hf
    refine x_calli (x_runV (As := [.int x1, .int q1, .int 2]) (rest := []) ⟨hx, hb, hml, hown, hts⟩ (c_X9_c l G hG I J x1 q1 2 hq4) (cwV 3 hts gX9_offered_X9_c rfl rfl rfl (by decide +kernel) ⟨Nat.le_of_ble_eq_true rfl, Nat.le_of_ble_eq_true rfl⟩) hK hP zkL_359 (by decide) rfl rfl hl.1 rfl (Nat.le_of_ble_eq_true rfl) dX9_offered_22 ⟨Nat.zero_le _, Nat.zero_le _⟩) hS (fun H locs hP hS => ?_)
    refine lv_istore (lv' := [(4, .int q4), (3, .int q3), (2, .int q1), (0, .ref (G.2.1 359)), (1, .int x1)]) hx hb dX9_offered_25 hl (by decide) rfl (fun ls hl => ?_)
    refine lv_aload_n hx hb dX9_offered_27 rfl (lv_at hl 3 rfl) ?_
    refine lv_iload_n hx hb dX9_offered_28 rfl (lv_at hl 4 rfl) ?_
    refine lv_iload_n hx hb dX9_offered_29 rfl (lv_at hl 2 rfl) ?_
    obtain ⟨q5, hq5, hf⟩ := zb_e hf
    refine x_callv (x_runV (As := [.int x1, .int q1]) (rest := []) ⟨hx, hb, hml, hown, hts⟩ (c_X9_claimGoes l G hG I J x1 q1 hq5) (cwV 2 hts gX9_offered_X9_claimGoes rfl rfl rfl (by decide +kernel) ⟨Nat.le_of_ble_eq_true rfl, Nat.le_of_ble_eq_true rfl⟩) hK hP zkL_359 (by decide) rfl rfl hl.1 rfl (Nat.le_of_ble_eq_true rfl) dX9_offered_30 ⟨Nat.zero_le _, Nat.zero_le _⟩) hS (fun H locs hP hS => ?_)
    refine lv_aload_n hx hb dX9_offered_33 rfl (lv_at hl 3 rfl) ?_
    refine lv_iload_n hx hb dX9_offered_34 rfl (lv_at hl 4 rfl) ?_
    refine lv_iload_n hx hb dX9_offered_35 rfl (lv_at hl 1 rfl) ?_
    refine lv_iload hx hb dX9_offered_36 (lv_at hl 0 rfl) ?_
    obtain ⟨q6, hq6, hf⟩ := zb_e hf
    refine x_calli (x_runV (As := [.int x1, .int q3, .int q4]) (rest := []) ⟨hx, hb, hml, hown, hts⟩ (c_X9_leased l G hG I q5 x1 q3 q4 hq6) (cwV 3 hts gX9_offered_X9_leased rfl rfl rfl (by decide +kernel) ⟨Nat.le_of_ble_eq_true rfl, Nat.le_of_ble_eq_true rfl⟩) hK hP zkL_359 (by decide) rfl rfl hl.1 rfl (Nat.le_of_ble_eq_true rfl) dX9_offered_38 ⟨Nat.zero_le _, Nat.zero_le _⟩) hS (fun H locs hP hS => ?_)
    refine lv_pop hx hb dX9_offered_41 rfl ?_
    obtain rfl := Option.some.inj hf
    exact x_vret hx hb hr hlocks hK hP hS dX9_offered_42
