set_option maxRecDepth 100000 in
set_option maxHeartbeats 4000000 in
theorem c_X9_in (l : Launch) (G : zGT) (hG : zOK G) (I J : zM) (x0 : Int32) (x1 : Int32) (x2 : Int32) {r : Int32} (hf : f_X9_in J x0 x1 x2 = some r) : Met l yX9_in wsX9_in (zrm 0 0) (va_Pc [.int x0, .int x1, .int x2] (zS G I J)) (zQi G r I J) 0 0 (zA G) := by
  refine zMet (cc := cX9_in) (n := 3) (ret := (some .boolean)) (by decide) rfl (Nat.le_of_ble_eq_true rfl) ?_
  intro p e s m args below meth c H locs ls F hK hP hS hl
  obtain ⟨hx, hb, hr, hml, hts, hown, hlocks⟩ := F
  have hown : s.vm.findClass RX9 = some m.cls := hown
  have hl : lv_has ls 3 [(0, .int x0), (1, .int x1), (2, .int x2)] := hl
  unfold f_X9_in at hf
  refine lv_iload_n hx hb dX9_in_0 rfl (lv_at hl 0 rfl) ?_
  refine lv_iload_n hx hb dX9_in_1 rfl (lv_at hl 1 rfl) ?_
  refine lv_icmp_lt (tgt := 14) hx hb dX9_in_2 (by decide) (fun c1 => ?_) (fun c1 => ?_)
  · have hf := zif_t c1 hf
    refine lv_iconst (v := 0) hx hb dX9_in_14 (by decide) ?_
    obtain rfl := Option.some.inj hf
    exact x_zret (v := 0) rfl hx hb hr hlocks hK hP hS dX9_in_15
  · have hf := zif_f c1 hf
    refine lv_iload_n hx hb dX9_in_5 rfl (lv_at hl 0 rfl) ?_
    refine lv_iload_n hx hb dX9_in_6 rfl (lv_at hl 2 rfl) ?_
    refine lv_icmp_gt (tgt := 14) hx hb dX9_in_7 (by decide) (fun c2 => ?_) (fun c2 => ?_)
    · have hf := zif_t c2 hf
      refine lv_iconst (v := 0) hx hb dX9_in_14 (by decide) ?_
      obtain rfl := Option.some.inj hf
      exact x_zret (v := 0) rfl hx hb hr hlocks hK hP hS dX9_in_15
    · have hf := zif_f c2 hf
      refine lv_iconst (v := 1) hx hb dX9_in_10 (by decide) ?_
      refine lv_goto (tgt := 15) hx hb dX9_in_11 (by decide) ?_
      obtain rfl := Option.some.inj hf
      exact x_zret (v := 1) rfl hx hb hr hlocks hK hP hS dX9_in_15
set_option maxRecDepth 100000 in
set_option maxHeartbeats 4000000 in
theorem c_X9_t (l : Launch) (G : zGT) (hG : zOK G) (I J : zM) (x1 : Int32) (x2 : Int32) {r : Int32} (hf : f_X9_t J x1 x2 = some r) : Met l yX9_t wsX9_t (zrm 0 0) (va_Pc [.ref (G.2.1 359), .int x1, .int x2] (zS G I J)) (zQi G r I J) 0 0 (zA G) := by
  refine zMet (cc := cX9_t) (n := 3) (ret := (some .int)) (by decide) rfl (Nat.le_of_ble_eq_true rfl) ?_
  intro p e s m args below meth c H locs ls F hK hP hS hl
  obtain ⟨hx, hb, hr, hml, hts, hown, hlocks⟩ := F
  have hown : s.vm.findClass RX9 = some m.cls := hown
  have hl : lv_has ls 3 [(0, .ref (G.2.1 359)), (1, .int x1), (2, .int x2)] := hl
  have hi9 : ∀ w ∈ wsX90, w ∈ wsX9_t := fun _ h => List.mem_cons_of_mem _ (List.mem_append_right _ h)
  unfold f_X9_t at hf
  refine lv_aload_n hx hb dX9_t_0 rfl (lv_at hl 0 rfl) ?_
  refine x_get (j := 0) (v := .ref (G.2.1 360)) hx hb hts hi9 hown hK hP zkL_359 rfl (by decide) (hts (.fieldLink RX9 9 "LeaseOfficeModel" "g" "[I") (by decide +kernel)) rfl (by decide) dX9_t_1 ?_
  refine lv_sipush (v := 180) hx hb dX9_t_4 (by decide) ?_
  refine lv_iload_n hx hb dX9_t_7 rfl (lv_at hl 1 rfl) ?_
  refine lv_bipush (v := 90) hx hb dX9_t_8 (by decide) ?_
  refine lv_imul hx hb dX9_t_10 ?_
  refine lv_iadd hx hb dX9_t_11 ?_
  refine lv_iload_n hx hb dX9_t_12 rfl (lv_at hl 2 rfl) ?_
  refine lv_iadd hx hb dX9_t_13 ?_
  obtain ⟨h1, hf⟩ := zck_e hf
  refine x_iald hx hb hK hP (zK_lt zkL_360 (by decide)) (zE_15 (j := 1) zkL_360 zlL_360 rfl) (zin_e h1) dX9_t_14 ?_
  obtain rfl := Option.some.inj hf
  exact x_iret hx hb hr hlocks hK hP hS dX9_t_15
set_option maxRecDepth 100000 in
set_option maxHeartbeats 4000000 in
theorem c_X9_isOut (l : Launch) (G : zGT) (hG : zOK G) (I J : zM) (x1 : Int32) {r : Int32} (hf : f_X9_isOut J x1 = some r) : Met l yX9_isOut wsX9_isOut (zrm 1 22) (va_Pc [.ref (G.2.1 359), .int x1] (zS G I J)) (zQi G r I J) 0 0 (zA G) := by
  refine zMet (cc := cX9_isOut) (n := 2) (ret := (some .boolean)) (by decide) rfl (Nat.le_of_ble_eq_true rfl) ?_
  intro p e s m args below meth c H locs ls F hK hP hS hl
  obtain ⟨hx, hb, hr, hml, hts, hown, hlocks⟩ := F
  have hown : s.vm.findClass RX9 = some m.cls := hown
  have hl : lv_has ls 2 [(0, .ref (G.2.1 359)), (1, .int x1)] := hl
  unfold f_X9_isOut at hf
  refine lv_aload_n hx hb dX9_isOut_0 rfl (lv_at hl 0 rfl) ?_
  refine lv_iload_n hx hb dX9_isOut_1 rfl (lv_at hl 1 rfl) ?_
  refine lv_iconst (v := 2) hx hb dX9_isOut_2 (by decide) ?_
  obtain ⟨q1, hq1, hf⟩ := zb_e hf
  refine x_calli (x_runV (As := [.int x1, .int 2]) (rest := []) ⟨hx, hb, hml, hown, hts⟩ (c_X9_t l G hG I J x1 2 hq1) (cwV 2 hts gX9_isOut_X9_t rfl rfl rfl (by decide +kernel) ⟨Nat.le_of_ble_eq_true rfl, Nat.le_of_ble_eq_true rfl⟩) hK hP zkL_359 (by decide) rfl rfl hl.1 rfl (Nat.le_of_ble_eq_true rfl) dX9_isOut_3 ⟨Nat.zero_le _, Nat.zero_le _⟩) hS (fun H locs hP hS => ?_)
  refine lv_if_lt (tgt := 13) hx hb dX9_isOut_6 (by decide) (fun c2 => ?_) (fun c2 => ?_)
  · have hf := zif_t c2 hf
    refine lv_iconst (v := 0) hx hb dX9_isOut_13 (by decide) ?_
    obtain rfl := Option.some.inj hf
    exact x_zret (v := 0) rfl hx hb hr hlocks hK hP hS dX9_isOut_14
  · have hf := zif_f c2 hf
    refine lv_iconst (v := 1) hx hb dX9_isOut_9 (by decide) ?_
    refine lv_goto (tgt := 14) hx hb dX9_isOut_10 (by decide) ?_
    obtain rfl := Option.some.inj hf
    exact x_zret (v := 1) rfl hx hb hr hlocks hK hP hS dX9_isOut_14
set_option maxRecDepth 100000 in
set_option maxHeartbeats 4000000 in
theorem c_X9_fee (l : Launch) (G : zGT) (hG : zOK G) (I J : zM) (x1 : Int32) (x2 : Int32) {r : Int32} (hf : f_X9_fee J x1 x2 = some r) : Met l yX9_fee wsX9_fee (zrm 1 22) (va_Pc [.ref (G.2.1 359), .int x1, .int x2] (zS G I J)) (zQi G r I J) 0 0 (zA G) := by
  refine zMet (cc := cX9_fee) (n := 5) (ret := (some .int)) (by decide) rfl (Nat.le_of_ble_eq_true rfl) ?_
  intro p e s m args below meth c H locs ls F hK hP hS hl
  obtain ⟨hx, hb, hr, hml, hts, hown, hlocks⟩ := F
  have hown : s.vm.findClass RX9 = some m.cls := hown
  have hl : lv_has ls 5 [(0, .ref (G.2.1 359)), (1, .int x1), (2, .int x2)] := hl
  have J30 : ∀ (s0 : Int32) (H : Heap) (locs : List Loc) (ls : Array Slot), f_X9_fee_j30 J x1 s0 = some r → va_P G.1 vwCl (zW G I J) H → va_S (zA G) s.heap H locs → lv_has ls 5 [(0, .ref (G.2.1 359)), (1, .int x1)] → W p l e (zrm 1 22) s m args below meth c H locs 0 0 (MQ below (zQi G r I J) args s 0 0 (zA G)) (F0 m 30 ls [.int s0]) := by
    intro s0 H locs ls hf hP hS hl
    unfold f_X9_fee_j30 at hf
    refine lv_istore (lv' := [(4, .int s0), (0, .ref (G.2.1 359)), (1, .int x1)]) hx hb dX9_fee_30 hl (by decide) rfl (fun ls hl => ?_)
    refine lv_iload hx hb dX9_fee_32 (lv_at hl 0 rfl) ?_
    refine lv_aload_n hx hb dX9_fee_34 rfl (lv_at hl 1 rfl) ?_
    refine lv_iload_n hx hb dX9_fee_35 rfl (lv_at hl 2 rfl) ?_
    refine lv_iconst (v := 5) hx hb dX9_fee_36 (by decide) ?_
    obtain ⟨q4, hq4, hf⟩ := zb_e hf
    refine x_calli (x_runV (As := [.int x1, .int 5]) (rest := [.int s0]) ⟨hx, hb, hml, hown, hts⟩ (c_X9_t l G hG I J x1 5 hq4) (cwV 2 hts gX9_fee_X9_t rfl rfl rfl (by decide +kernel) ⟨Nat.le_of_ble_eq_true rfl, Nat.le_of_ble_eq_true rfl⟩) hK hP zkL_359 (by decide) rfl rfl hl.1 rfl (Nat.le_of_ble_eq_true rfl) dX9_fee_37 ⟨Nat.zero_le _, Nat.zero_le _⟩) hS (fun H locs hP hS => ?_)
    refine lv_icmp_ge (tgt := 48) hx hb dX9_fee_40 (by decide) (fun c5 => ?_) (fun c5 => ?_)
    · have hf := zif_t c5 hf
      refine lv_aload_n hx hb dX9_fee_48 rfl (lv_at hl 1 rfl) ?_
      refine lv_iload_n hx hb dX9_fee_49 rfl (lv_at hl 2 rfl) ?_
      refine lv_iconst (v := 5) hx hb dX9_fee_50 (by decide) ?_
      obtain ⟨q6, hq6, hf⟩ := zb_e hf
      refine x_calli (x_runV (As := [.int x1, .int 5]) (rest := []) ⟨hx, hb, hml, hown, hts⟩ (c_X9_t l G hG I J x1 5 hq6) (cwV 2 hts gX9_fee_X9_t rfl rfl rfl (by decide +kernel) ⟨Nat.le_of_ble_eq_true rfl, Nat.le_of_ble_eq_true rfl⟩) hK hP zkL_359 (by decide) rfl rfl hl.1 rfl (Nat.le_of_ble_eq_true rfl) dX9_fee_51 ⟨Nat.zero_le _, Nat.zero_le _⟩) hS (fun H locs hP hS => ?_)
      obtain rfl := Option.some.inj hf
      exact x_iret hx hb hr hlocks hK hP hS dX9_fee_54
    · have hf := zif_f c5 hf
      refine lv_iload hx hb dX9_fee_43 (lv_at hl 0 rfl) ?_
      refine lv_goto (tgt := 54) hx hb dX9_fee_45 (by decide) ?_
      obtain rfl := Option.some.inj hf
      exact x_iret hx hb hr hlocks hK hP hS dX9_fee_54
  unfold f_X9_fee at hf
  refine lv_iload_n hx hb dX9_fee_0 rfl (lv_at hl 2 rfl) ?_
  refine lv_aload_n hx hb dX9_fee_1 rfl (lv_at hl 0 rfl) ?_
  refine lv_iload_n hx hb dX9_fee_2 rfl (lv_at hl 1 rfl) ?_
  refine lv_iconst (v := 4) hx hb dX9_fee_3 (by decide) ?_
  obtain ⟨q1, hq1, hf⟩ := zb_e hf
  refine x_calli (x_runV (As := [.int x1, .int 4]) (rest := [.int x2]) ⟨hx, hb, hml, hown, hts⟩ (c_X9_t l G hG I J x1 4 hq1) (cwV 2 hts gX9_fee_X9_t rfl rfl rfl (by decide +kernel) ⟨Nat.le_of_ble_eq_true rfl, Nat.le_of_ble_eq_true rfl⟩) hK hP zkL_359 (by decide) rfl rfl hl.1 rfl (Nat.le_of_ble_eq_true rfl) dX9_fee_4 ⟨Nat.zero_le _, Nat.zero_le _⟩) hS (fun H locs hP hS => ?_)
  refine lv_isub hx hb dX9_fee_7 ?_
  obtain ⟨w2, ew2, hf⟩ := zlet_e hf
  refine z_topi ew2 ?_
  refine lv_istore_n (lv' := [(3, .int w2), (0, .ref (G.2.1 359)), (1, .int x1), (2, .int x2)]) hx hb dX9_fee_8 rfl hl (by decide) rfl (fun ls hl => ?_)
  refine lv_iload_n hx hb dX9_fee_9 rfl (lv_at hl 0 rfl) ?_
  refine lv_if_le (tgt := 29) hx hb dX9_fee_10 (by decide) (fun c3 => ?_) (fun c3 => ?_)
  · have hf := zif_t c3 hf
    refine lv_iconst (v := 0) hx hb dX9_fee_29 (by decide) ?_
    exact J30 0 H locs ls hf hP hS (lv_sub hl [1, 2] rfl)
  · have hf := zif_f c3 hf
    refine lv_iload_n hx hb dX9_fee_13 rfl (lv_at hl 0 rfl) ?_
    refine lv_iconst (v := 1) hx hb dX9_fee_14 (by decide) ?_
    refine lv_aload_n hx hb dX9_fee_15 rfl (lv_at hl 1 rfl) ?_
    refine lv_iload_n hx hb dX9_fee_16 rfl (lv_at hl 2 rfl) ?_
    refine lv_iconst (v := 0) hx hb dX9_fee_17 (by decide) ?_
    obtain ⟨q7, hq7, hf⟩ := zb_e hf
    refine x_calli (x_runV (As := [.int x1, .int 0]) (rest := [.int 1, .int w2]) ⟨hx, hb, hml, hown, hts⟩ (c_X9_t l G hG I J x1 0 hq7) (cwV 2 hts gX9_fee_X9_t rfl rfl rfl (by decide +kernel) ⟨Nat.le_of_ble_eq_true rfl, Nat.le_of_ble_eq_true rfl⟩) hK hP zkL_359 (by decide) rfl rfl hl.1 rfl (Nat.le_of_ble_eq_true rfl) dX9_fee_18 ⟨Nat.zero_le _, Nat.zero_le _⟩) hS (fun H locs hP hS => ?_)
    refine lv_bipush (v := 10) hx hb dX9_fee_21 (by decide) ?_
    refine lv_idiv hx hb dX9_fee_23 (by decide) ?_
    refine lv_iadd hx hb dX9_fee_24 ?_
    refine lv_imul hx hb dX9_fee_25 ?_
    refine lv_goto (tgt := 30) hx hb dX9_fee_26 (by decide) ?_
    exact J30 (w2 * (1 + (q7 / 10))) H locs ls hf hP hS (lv_sub hl [1, 2] rfl)
set_option maxRecDepth 100000 in
set_option maxHeartbeats 4000000 in
theorem c_X9_ahead (l : Launch) (G : zGT) (hG : zOK G) (I J : zM) (x1 : Int32) (x2 : Int32) {r : Int32} (hf : f_X9_ahead J x1 x2 = some r) : Met l yX9_ahead wsX9_ahead (zrm 2 46) (va_Pc [.ref (G.2.1 359), .int x1, .int x2] (zS G I J)) (zQi G r I J) 0 0 (zA G) := by
  refine zMet (cc := cX9_ahead) (n := 6) (ret := (some .int)) (by decide) rfl (Nat.le_of_ble_eq_true rfl) ?_
  intro p e s m args below meth c H locs ls F hK hP hS hl
  obtain ⟨hx, hb, hr, hml, hts, hown, hlocks⟩ := F
  have hown : s.vm.findClass RX9 = some m.cls := hown
  have hl : lv_has ls 6 [(0, .ref (G.2.1 359)), (1, .int x1), (2, .int x2)] := hl
  have hi9 : ∀ w ∈ wsX90, w ∈ wsX9_ahead := fun _ h => List.mem_cons_of_mem _ (List.mem_append_right _ h)
  have L29 : ∀ (K : Int32 → Int32 → Option (Int32)) (hKK : ∀ (z3 : Int32) (z4 : Int32) (H : Heap) (locs : List Loc) (ls : Array Slot), K z3 z4 = some r → va_P G.1 vwCl (zW G I J) H → va_S (zA G) s.heap H locs → lv_has ls 6 [(2, .int x2), (3, .int z3), (4, .int z4)] → W p l e (zrm 2 46) s m args below meth c H locs 0 0 (MQ below (zQi G r I J) args s 0 0 (zA G)) (F0 m 101 ls [])) (n : Nat) (y3 : Int32) (y4 : Int32) (y5 : Int32) (H : Heap) (locs : List Loc) (ls : Array Slot), f_X9_ahead_l29 J x1 x2 K n y3 y4 y5 = some r → va_P G.1 vwCl (zW G I J) H → va_S (zA G) s.heap H locs → lv_has ls 6 [(0, .ref (G.2.1 359)), (1, .int x1), (2, .int x2), (3, .int y3), (4, .int y4), (5, .int y5)] → W p l e (zrm 2 46) s m args below meth c H locs 0 0 (MQ below (zQi G r I J) args s 0 0 (zA G)) (F0 m 29 ls []) := by
    intro K hKK n
    induction n with
    | zero =>
      intro y3 y4 y5 H locs ls hf
      rw [f_X9_ahead_l29] at hf
      cases hf
    | succ n ih =>
      intro y3 y4 y5 H locs ls hf hP hS hl
      rw [f_X9_ahead_l29] at hf
      refine lv_iload hx hb dX9_ahead_29 (lv_at hl 5 rfl) ?_
      refine lv_aload_n hx hb dX9_ahead_31 rfl (lv_at hl 0 rfl) ?_
      refine x_get (j := 0) (v := .ref (G.2.1 360)) hx hb hts hi9 hown hK hP zkL_359 rfl (by decide) (hts (.fieldLink RX9 9 "LeaseOfficeModel" "g" "[I") (by decide +kernel)) rfl (by decide) dX9_ahead_32 ?_
      refine lv_sipush (v := 1081) hx hb dX9_ahead_35 (by decide) ?_
      refine x_ialdL (j := 1081) hx hb hK hP (zK_lt zkL_360 (by decide)) (zE_15 (j := 1) zkL_360 zlL_360 rfl) (by decide) (by decide) dX9_ahead_38 ?_
      refine lv_icmp_ge (tgt := 101) hx hb dX9_ahead_39 (by decide) (fun c5 => ?_) (fun c5 => ?_)
      · have hf := zif_t c5 hf
        exact hKK y3 y4 H locs ls hf hP hS (lv_sub hl [2, 3, 4] rfl)
      · have hf := zif_f c5 hf
        refine lv_aload_n hx hb dX9_ahead_42 rfl (lv_at hl 0 rfl) ?_
        refine lv_iload hx hb dX9_ahead_43 (lv_at hl 5 rfl) ?_
        obtain ⟨q6, hq6, hf⟩ := zb_e hf
        refine x_calli (x_runV (As := [.int y5]) (rest := []) ⟨hx, hb, hml, hown, hts⟩ (c_X9_isOut l G hG I J y5 hq6) (cwV 1 hts gX9_ahead_X9_isOut rfl rfl rfl (by decide +kernel) ⟨Nat.le_of_ble_eq_true rfl, Nat.le_of_ble_eq_true rfl⟩) hK hP zkL_359 (by decide) rfl rfl hl.1 rfl (Nat.le_of_ble_eq_true rfl) dX9_ahead_45 ⟨Nat.zero_le _, Nat.zero_le _⟩) hS (fun H locs hP hS => ?_)
        refine lv_if_eq (tgt := 95) hx hb dX9_ahead_48 (by decide) (fun c7 => ?_) (fun c7 => ?_)
        · have hf := zif_t c7 hf
          refine lv_iinc (v := (y5 + 1)) (lv' := [(5, .int (y5 + 1)), (0, .ref (G.2.1 359)), (1, .int x1), (2, .int x2), (3, .int y3), (4, .int y4)]) hx hb dX9_ahead_95 hl (k := 5) rfl rfl (by decide) rfl (fun ls hl => ?_)
          refine lv_goto (tgt := 29) hx hb dX9_ahead_98 (by decide) ?_
          exact ih y3 y4 (y5 + 1) H locs ls hf hP hS (lv_sub hl [1, 2, 3, 4, 5, 0] rfl)
        · have hf := zif_f c7 hf
          refine lv_aload_n hx hb dX9_ahead_51 rfl (lv_at hl 0 rfl) ?_
          refine x_get (j := 0) (v := .ref (G.2.1 360)) hx hb hts hi9 hown hK hP zkL_359 rfl (by decide) (hts (.fieldLink RX9 9 "LeaseOfficeModel" "g" "[I") (by decide +kernel)) rfl (by decide) dX9_ahead_52 ?_
          refine lv_sipush (v := 1082) hx hb dX9_ahead_55 (by decide) ?_
          refine x_ialdL (j := 1082) hx hb hK hP (zK_lt zkL_360 (by decide)) (zE_15 (j := 1) zkL_360 zlL_360 rfl) (by decide) (by decide) dX9_ahead_58 ?_
          refine lv_iload_n hx hb dX9_ahead_59 rfl (lv_at hl 1 rfl) ?_
          refine lv_iadd hx hb dX9_ahead_60 ?_
          refine lv_aload_n hx hb dX9_ahead_61 rfl (lv_at hl 0 rfl) ?_
          refine lv_iload hx hb dX9_ahead_62 (lv_at hl 5 rfl) ?_
          refine lv_iconst (v := 4) hx hb dX9_ahead_64 (by decide) ?_
          obtain ⟨q8, hq8, hf⟩ := zb_e hf
          refine x_calli (x_runV (As := [.int y5, .int 4]) (rest := [.int ((J 1 1082) + x1)]) ⟨hx, hb, hml, hown, hts⟩ (c_X9_t l G hG I J y5 4 hq8) (cwV 2 hts gX9_ahead_X9_t rfl rfl rfl (by decide +kernel) ⟨Nat.le_of_ble_eq_true rfl, Nat.le_of_ble_eq_true rfl⟩) hK hP zkL_359 (by decide) rfl rfl hl.1 rfl (Nat.le_of_ble_eq_true rfl) dX9_ahead_65 ⟨Nat.zero_le _, Nat.zero_le _⟩) hS (fun H locs hP hS => ?_)
          refine lv_icmp_le (tgt := 95) hx hb dX9_ahead_68 (by decide) (fun c9 => ?_) (fun c9 => ?_)
          · have hf := zif_t c9 hf
            refine lv_iinc (v := (y5 + 1)) (lv' := [(5, .int (y5 + 1)), (0, .ref (G.2.1 359)), (1, .int x1), (2, .int x2), (3, .int y3), (4, .int y4)]) hx hb dX9_ahead_95 hl (k := 5) rfl rfl (by decide) rfl (fun ls hl => ?_)
            refine lv_goto (tgt := 29) hx hb dX9_ahead_98 (by decide) ?_
            exact ih y3 y4 (y5 + 1) H locs ls hf hP hS (lv_sub hl [1, 2, 3, 4, 5, 0] rfl)
          · have hf := zif_f c9 hf
            refine lv_iinc (v := (y3 + 1)) (lv' := [(3, .int (y3 + 1)), (0, .ref (G.2.1 359)), (1, .int x1), (2, .int x2), (4, .int y4), (5, .int y5)]) hx hb dX9_ahead_71 hl (k := 3) rfl rfl (by decide) rfl (fun ls hl => ?_)
            refine lv_iload hx hb dX9_ahead_74 (lv_at hl 4 rfl) ?_
            refine lv_aload_n hx hb dX9_ahead_76 rfl (lv_at hl 1 rfl) ?_
            refine lv_iload hx hb dX9_ahead_77 (lv_at hl 5 rfl) ?_
            refine lv_aload_n hx hb dX9_ahead_79 rfl (lv_at hl 1 rfl) ?_
            refine x_get (j := 0) (v := .ref (G.2.1 360)) hx hb hts hi9 hown hK hP zkL_359 rfl (by decide) (hts (.fieldLink RX9 9 "LeaseOfficeModel" "g" "[I") (by decide +kernel)) rfl (by decide) dX9_ahead_80 ?_
            refine lv_sipush (v := 1082) hx hb dX9_ahead_83 (by decide) ?_
            refine x_ialdL (j := 1082) hx hb hK hP (zK_lt zkL_360 (by decide)) (zE_15 (j := 1) zkL_360 zlL_360 rfl) (by decide) (by decide) dX9_ahead_86 ?_
            refine lv_iload_n hx hb dX9_ahead_87 rfl (lv_at hl 2 rfl) ?_
            refine lv_iadd hx hb dX9_ahead_88 ?_
            obtain ⟨q10, hq10, hf⟩ := zb_e hf
            refine x_calli (x_runV (As := [.int y5, .int ((J 1 1082) + x1)]) (rest := [.int y4]) ⟨hx, hb, hml, hown, hts⟩ (c_X9_fee l G hG I J y5 ((J 1 1082) + x1) hq10) (cwV 2 hts gX9_ahead_X9_fee rfl rfl rfl (by decide +kernel) ⟨Nat.le_of_ble_eq_true rfl, Nat.le_of_ble_eq_true rfl⟩) hK hP zkL_359 (by decide) rfl rfl hl.1 rfl (Nat.le_of_ble_eq_true rfl) dX9_ahead_89 ⟨Nat.zero_le _, Nat.zero_le _⟩) hS (fun H locs hP hS => ?_)
            refine lv_iadd hx hb dX9_ahead_92 ?_
            obtain ⟨w11, ew11, hf⟩ := zlet_e hf
            refine z_topi ew11 ?_
            refine lv_istore (lv' := [(4, .int w11), (3, .int (y3 + 1)), (0, .ref (G.2.1 359)), (1, .int x1), (2, .int x2), (5, .int y5)]) hx hb dX9_ahead_93 hl (by decide) rfl (fun ls hl => ?_)
            refine lv_iinc (v := (y5 + 1)) (lv' := [(5, .int (y5 + 1)), (4, .int w11), (3, .int (y3 + 1)), (0, .ref (G.2.1 359)), (1, .int x1), (2, .int x2)]) hx hb dX9_ahead_95 hl (k := 5) rfl rfl (by decide) rfl (fun ls hl => ?_)
            refine lv_goto (tgt := 29) hx hb dX9_ahead_98 (by decide) ?_
            exact ih (y3 + 1) w11 (y5 + 1) H locs ls hf hP hS (lv_sub hl [3, 4, 5, 2, 1, 0] rfl)
  unfold f_X9_ahead at hf
  refine lv_iload_n hx hb dX9_ahead_0 rfl (lv_at hl 1 rfl) ?_
  refine lv_iconst (v := 0) hx hb dX9_ahead_1 (by decide) ?_
  refine lv_bipush (v := 60) hx hb dX9_ahead_2 (by decide) ?_
  obtain ⟨q1, hq1, hf⟩ := zb_e hf
  refine x_calli (x_runS (As := [.int x1, .int 0, .int 60]) (rest := []) ⟨hx, hb, hml, hown, hts⟩ (c_X9_in l G hG I J x1 0 60 hq1) (va_cwS 3 hts gX9_ahead_X9_in rfl rfl rfl (by decide +kernel) ⟨Nat.le_of_ble_eq_true rfl, Nat.le_of_ble_eq_true rfl⟩) hK hP rfl hl.1 rfl (Nat.le_of_ble_eq_true rfl) dX9_ahead_4 ⟨Nat.zero_le _, Nat.zero_le _⟩) hS (fun H locs hP hS => ?_)
  refine lv_if_eq (tgt := 19) hx hb dX9_ahead_7 (by decide) (fun c2 => ?_) (fun c2 => ?_)
  · have hf := zif_t c2 hf
    refine lv_iconst (v := (-1)) hx hb dX9_ahead_19 (by decide) ?_
    obtain rfl := Option.some.inj hf
    exact x_iret hx hb hr hlocks hK hP hS dX9_ahead_20
  · have hf := zif_f c2 hf
    refine lv_iload_n hx hb dX9_ahead_10 rfl (lv_at hl 2 rfl) ?_
    refine lv_iconst (v := 0) hx hb dX9_ahead_11 (by decide) ?_
    refine lv_iconst (v := 1) hx hb dX9_ahead_12 (by decide) ?_
    obtain ⟨q3, hq3, hf⟩ := zb_e hf
    refine x_calli (x_runS (As := [.int x2, .int 0, .int 1]) (rest := []) ⟨hx, hb, hml, hown, hts⟩ (c_X9_in l G hG I J x2 0 1 hq3) (va_cwS 3 hts gX9_ahead_X9_in rfl rfl rfl (by decide +kernel) ⟨Nat.le_of_ble_eq_true rfl, Nat.le_of_ble_eq_true rfl⟩) hK hP rfl hl.1 rfl (Nat.le_of_ble_eq_true rfl) dX9_ahead_13 ⟨Nat.zero_le _, Nat.zero_le _⟩) hS (fun H locs hP hS => ?_)
    refine lv_if_ne (tgt := 21) hx hb dX9_ahead_16 (by decide) (fun c4 => ?_) (fun c4 => ?_)
    · have hf := zif_f c4 hf
      refine lv_iconst (v := 0) hx hb dX9_ahead_21 (by decide) ?_
      refine lv_istore_n (lv' := [(3, .int 0), (0, .ref (G.2.1 359)), (1, .int x1), (2, .int x2)]) hx hb dX9_ahead_22 rfl hl (by decide) rfl (fun ls hl => ?_)
      refine lv_iconst (v := 0) hx hb dX9_ahead_23 (by decide) ?_
      refine lv_istore (lv' := [(4, .int 0), (3, .int 0), (0, .ref (G.2.1 359)), (1, .int x1), (2, .int x2)]) hx hb dX9_ahead_24 hl (by decide) rfl (fun ls hl => ?_)
      refine lv_iconst (v := 0) hx hb dX9_ahead_26 (by decide) ?_
      refine lv_istore (lv' := [(5, .int 0), (4, .int 0), (3, .int 0), (0, .ref (G.2.1 359)), (1, .int x1), (2, .int x2)]) hx hb dX9_ahead_27 hl (by decide) rfl (fun ls hl => ?_)
      refine L29 _ (fun z12 z13 H locs ls hf hP hS hl => ?_) zFu 0 0 0 H locs ls hf hP hS (lv_sub hl [3, 4, 5, 2, 1, 0] rfl)
      refine lv_iload_n hx hb dX9_ahead_101 rfl (lv_at hl 0 rfl) ?_
      refine lv_if_ne (tgt := 109) hx hb dX9_ahead_102 (by decide) (fun c14 => ?_) (fun c14 => ?_)
      · have hf := zif_f c14 hf
        refine lv_iload hx hb dX9_ahead_109 (lv_at hl 2 rfl) ?_
        obtain rfl := Option.some.inj hf
        exact x_iret hx hb hr hlocks hK hP hS dX9_ahead_111
      · have hf := zif_t c14 hf
        refine lv_iload_n hx hb dX9_ahead_105 rfl (lv_at hl 1 rfl) ?_
        refine lv_goto (tgt := 111) hx hb dX9_ahead_106 (by decide) ?_
        obtain rfl := Option.some.inj hf
        exact x_iret hx hb hr hlocks hK hP hS dX9_ahead_111
    · have hf := zif_t c4 hf
      refine lv_iconst (v := (-1)) hx hb dX9_ahead_19 (by decide) ?_
      obtain rfl := Option.some.inj hf
      exact x_iret hx hb hr hlocks hK hP hS dX9_ahead_20
set_option maxRecDepth 100000 in
set_option maxHeartbeats 4000000 in
theorem c_X9_take (l : Launch) (G : zGT) (hG : zOK G) (I J : zM) (x0 : Nat) (x1 : Nat) (hk0 : 1 ≤ x0 ∧ x0 ≤ 4) (hk1 : 1 ≤ x1 ∧ x1 ≤ 4) {r : zM} (hf : f_X9_take J x0 x1 = some r) : Met l yX9_take wsX9_take (zrm 0 0) (va_Pc [.ref (G.2.1 (359 + x0)), .ref (G.2.1 (359 + x1))] (zS G I J)) (zQv G I r) 0 0 (zA G) := by
  refine zMet (cc := cX9_take) (n := 3) (ret := none) (by decide) rfl (Nat.le_of_ble_eq_true rfl) ?_
  intro p e s m args below meth c H locs ls F hK hP hS hl
  obtain ⟨hx, hb, hr, hml, hts, hown, hlocks⟩ := F
  have hown : s.vm.findClass RX9 = some m.cls := hown
  have hl : lv_has ls 3 [(0, .ref (G.2.1 (359 + x0))), (1, .ref (G.2.1 (359 + x1)))] := hl
  have L2 : ∀ (n : Nat) (M : zM) (y2 : Int32) (H : Heap) (locs : List Loc) (ls : Array Slot), f_X9_take_l2 x0 x1 n M y2 = some r → va_P G.1 vwCl (zW G I M) H → va_S (zA G) s.heap H locs → lv_has ls 3 [(0, .ref (G.2.1 (359 + x0))), (1, .ref (G.2.1 (359 + x1))), (2, .int y2)] → W p l e (zrm 0 0) s m args below meth c H locs 0 0 (MQ below (zQv G I r) args s 0 0 (zA G)) (F0 m 2 ls []) := by
    intro n
    induction n with
    | zero =>
      intro M y2 H locs ls hf
      rw [f_X9_take_l2] at hf
      cases hf
    | succ n ih =>
      intro M y2 H locs ls hf hP hS hl
      rw [f_X9_take_l2] at hf
      refine lv_iload_n hx hb dX9_take_2 rfl (lv_at hl 2 rfl) ?_
      refine lv_sipush (v := 1087) hx hb dX9_take_3 (by decide) ?_
      refine lv_icmp_ge (tgt := 21) hx hb dX9_take_6 (by decide) (fun c1 => ?_) (fun c1 => ?_)
      · have hf := zif_t c1 hf
        obtain rfl := Option.some.inj hf
        exact x_vret hx hb hr hlocks hK hP hS dX9_take_21
      · have hf := zif_f c1 hf
        refine lv_aload_n hx hb dX9_take_9 rfl (lv_at hl 1 rfl) ?_
        refine lv_iload_n hx hb dX9_take_10 rfl (lv_at hl 2 rfl) ?_
        refine lv_aload_n hx hb dX9_take_11 rfl (lv_at hl 0 rfl) ?_
        refine lv_iload_n hx hb dX9_take_12 rfl (lv_at hl 2 rfl) ?_
        obtain ⟨h2, hf⟩ := zck_e hf
        refine x_iald hx hb hK hP (zK_lt (zk_g x0 hk0).1 (by decide)) (zE_15 (j := x0) (zk_g x0 hk0).1 (zk_g x0 hk0).2 rfl) (zin_e h2) dX9_take_13 ?_
        obtain ⟨h4, hf⟩ := zck_e hf
        obtain ⟨M3, eM3, hf⟩ := zlet_e hf
        refine x_iastM (j := x1) (a := y2.toNatClampNeg) eM3 rfl hx hb hG hK hP hS (zk_g x1 hk1).1 (zk_g x1 hk1).2 (zin_e h4) dX9_take_14 (fun H locs hP hS => ?_)
        refine lv_iinc (v := (y2 + 1)) (lv' := [(2, .int (y2 + 1)), (0, .ref (G.2.1 (359 + x0))), (1, .ref (G.2.1 (359 + x1)))]) hx hb dX9_take_15 hl (k := 2) rfl rfl (by decide) rfl (fun ls hl => ?_)
        refine lv_goto (tgt := 2) hx hb dX9_take_18 (by decide) ?_
        exact ih M3 (y2 + 1) H locs ls hf hP hS (lv_sub hl [1, 2, 0] rfl)
  unfold f_X9_take at hf
  refine lv_iconst (v := 0) hx hb dX9_take_0 (by decide) ?_
  refine lv_istore_n (lv' := [(2, .int 0), (0, .ref (G.2.1 (359 + x0))), (1, .ref (G.2.1 (359 + x1)))]) hx hb dX9_take_1 rfl hl (by decide) rfl (fun ls hl => ?_)
  exact L2 zFu J 0 H locs ls hf hP hS (lv_sub hl [1, 2, 0] rfl)
set_option maxRecDepth 100000 in
set_option maxHeartbeats 4000000 in
theorem c_X9_isPerson (l : Launch) (G : zGT) (hG : zOK G) (I J : zM) (x1 : Int32) {r : Int32} (hf : f_X9_isPerson J x1 = some r) : Met l yX9_isPerson wsX9_isPerson (zrm 1 22) (va_Pc [.ref (G.2.1 359), .int x1] (zS G I J)) (zQi G r I J) 0 0 (zA G) := by
  refine zMet (cc := cX9_isPerson) (n := 2) (ret := (some .boolean)) (by decide) rfl (Nat.le_of_ble_eq_true rfl) ?_
  intro p e s m args below meth c H locs ls F hK hP hS hl
  obtain ⟨hx, hb, hr, hml, hts, hown, hlocks⟩ := F
  have hown : s.vm.findClass RX9 = some m.cls := hown
  have hl : lv_has ls 2 [(0, .ref (G.2.1 359)), (1, .int x1)] := hl
  have hi9 : ∀ w ∈ wsX90, w ∈ wsX9_isPerson := fun _ h => List.mem_cons_of_mem _ (List.mem_append_right _ h)
  unfold f_X9_isPerson at hf
  refine lv_iload_n hx hb dX9_isPerson_0 rfl (lv_at hl 1 rfl) ?_
  refine lv_iconst (v := 0) hx hb dX9_isPerson_1 (by decide) ?_
  refine lv_aload_n hx hb dX9_isPerson_2 rfl (lv_at hl 0 rfl) ?_
  refine x_get (j := 0) (v := .ref (G.2.1 360)) hx hb hts hi9 hown hK hP zkL_359 rfl (by decide) (hts (.fieldLink RX9 9 "LeaseOfficeModel" "g" "[I") (by decide +kernel)) rfl (by decide) dX9_isPerson_3 ?_
  refine lv_sipush (v := 1080) hx hb dX9_isPerson_6 (by decide) ?_
  refine x_ialdL (j := 1080) hx hb hK hP (zK_lt zkL_360 (by decide)) (zE_15 (j := 1) zkL_360 zlL_360 rfl) (by decide) (by decide) dX9_isPerson_9 ?_
  refine lv_iconst (v := 1) hx hb dX9_isPerson_10 (by decide) ?_
  refine lv_isub hx hb dX9_isPerson_11 ?_
  obtain ⟨q1, hq1, hf⟩ := zb_e hf
  refine x_calli (x_runS (As := [.int x1, .int 0, .int ((J 1 1080) - 1)]) (rest := []) ⟨hx, hb, hml, hown, hts⟩ (c_X9_in l G hG I J x1 0 ((J 1 1080) - 1) hq1) (va_cwS 3 hts gX9_isPerson_X9_in rfl rfl rfl (by decide +kernel) ⟨Nat.le_of_ble_eq_true rfl, Nat.le_of_ble_eq_true rfl⟩) hK hP rfl hl.1 rfl (Nat.le_of_ble_eq_true rfl) dX9_isPerson_12 ⟨Nat.zero_le _, Nat.zero_le _⟩) hS (fun H locs hP hS => ?_)
  obtain ⟨h2, hf⟩ := zck_e hf
  obtain rfl := Option.some.inj hf
  exact x_zret (v := q1) (zbo_e h2) hx hb hr hlocks hK hP hS dX9_isPerson_15
set_option maxRecDepth 100000 in
set_option maxHeartbeats 4000000 in
theorem c_X9_isTool (l : Launch) (G : zGT) (hG : zOK G) (I J : zM) (x1 : Int32) {r : Int32} (hf : f_X9_isTool J x1 = some r) : Met l yX9_isTool wsX9_isTool (zrm 1 22) (va_Pc [.ref (G.2.1 359), .int x1] (zS G I J)) (zQi G r I J) 0 0 (zA G) := by
  refine zMet (cc := cX9_isTool) (n := 2) (ret := (some .boolean)) (by decide) rfl (Nat.le_of_ble_eq_true rfl) ?_
  intro p e s m args below meth c H locs ls F hK hP hS hl
  obtain ⟨hx, hb, hr, hml, hts, hown, hlocks⟩ := F
  have hown : s.vm.findClass RX9 = some m.cls := hown
  have hl : lv_has ls 2 [(0, .ref (G.2.1 359)), (1, .int x1)] := hl
  have hi9 : ∀ w ∈ wsX90, w ∈ wsX9_isTool := fun _ h => List.mem_cons_of_mem _ (List.mem_append_right _ h)
  unfold f_X9_isTool at hf
  refine lv_iload_n hx hb dX9_isTool_0 rfl (lv_at hl 1 rfl) ?_
  refine lv_iconst (v := 0) hx hb dX9_isTool_1 (by decide) ?_
  refine lv_aload_n hx hb dX9_isTool_2 rfl (lv_at hl 0 rfl) ?_
  refine x_get (j := 0) (v := .ref (G.2.1 360)) hx hb hts hi9 hown hK hP zkL_359 rfl (by decide) (hts (.fieldLink RX9 9 "LeaseOfficeModel" "g" "[I") (by decide +kernel)) rfl (by decide) dX9_isTool_3 ?_
  refine lv_sipush (v := 1081) hx hb dX9_isTool_6 (by decide) ?_
  refine x_ialdL (j := 1081) hx hb hK hP (zK_lt zkL_360 (by decide)) (zE_15 (j := 1) zkL_360 zlL_360 rfl) (by decide) (by decide) dX9_isTool_9 ?_
  refine lv_iconst (v := 1) hx hb dX9_isTool_10 (by decide) ?_
  refine lv_isub hx hb dX9_isTool_11 ?_
  obtain ⟨q1, hq1, hf⟩ := zb_e hf
  refine x_calli (x_runS (As := [.int x1, .int 0, .int ((J 1 1081) - 1)]) (rest := []) ⟨hx, hb, hml, hown, hts⟩ (c_X9_in l G hG I J x1 0 ((J 1 1081) - 1) hq1) (va_cwS 3 hts gX9_isTool_X9_in rfl rfl rfl (by decide +kernel) ⟨Nat.le_of_ble_eq_true rfl, Nat.le_of_ble_eq_true rfl⟩) hK hP rfl hl.1 rfl (Nat.le_of_ble_eq_true rfl) dX9_isTool_12 ⟨Nat.zero_le _, Nat.zero_le _⟩) hS (fun H locs hP hS => ?_)
  obtain ⟨h2, hf⟩ := zck_e hf
  obtain rfl := Option.some.inj hf
  exact x_zret (v := q1) (zbo_e h2) hx hb hr hlocks hK hP hS dX9_isTool_15
set_option maxRecDepth 100000 in
set_option maxHeartbeats 4000000 in
theorem c_X9_back (l : Launch) (G : zGT) (hG : zOK G) (I J : zM) {r : Int32 × zM} (hf : f_X9_back J = some r) : Met l yX9_back wsX9_back (zrm 2 43) (va_Pc [.ref (G.2.1 359)] (zS G I J)) (zQi G r.1 I r.2) 0 0 (zA G) := by
  refine zMet (cc := cX9_back) (n := 3) (ret := (some .int)) (by decide) rfl (Nat.le_of_ble_eq_true rfl) ?_
  intro p e s m args below meth c H locs ls F hK hP hS hl
  obtain ⟨hx, hb, hr, hml, hts, hown, hlocks⟩ := F
  have hown : s.vm.findClass RX9 = some m.cls := hown
  have hl : lv_has ls 3 [(0, .ref (G.2.1 359))] := hl
  have hi9 : ∀ w ∈ wsX90, w ∈ wsX9_back := fun _ h => List.mem_cons_of_mem _ (List.mem_append_right _ h)
  have L23 : ∀ (n : Nat) (M : zM) (y1 : Int32) (H : Heap) (locs : List Loc) (ls : Array Slot), f_X9_back_l23 n M y1 = some r → va_P G.1 vwCl (zW G I M) H → va_S (zA G) s.heap H locs → lv_has ls 3 [(0, .ref (G.2.1 359)), (1, .int y1)] → W p l e (zrm 2 43) s m args below meth c H locs 0 0 (MQ below (zQi G r.1 I r.2) args s 0 0 (zA G)) (F0 m 23 ls []) := by
    intro n
    induction n with
    | zero =>
      intro M y1 H locs ls hf
      rw [f_X9_back_l23] at hf
      cases hf
    | succ n ih =>
      intro M y1 H locs ls hf hP hS hl
      rw [f_X9_back_l23] at hf
      refine lv_iload_n hx hb dX9_back_23 rfl (lv_at hl 1 rfl) ?_
      refine lv_bipush (v := 6) hx hb dX9_back_24 (by decide) ?_
      refine lv_icmp_ge (tgt := 107) hx hb dX9_back_26 (by decide) (fun c3 => ?_) (fun c3 => ?_)
      · have hf := zif_t c3 hf
        refine lv_aload_n hx hb dX9_back_107 rfl (lv_at hl 0 rfl) ?_
        refine x_get (j := 0) (v := .ref (G.2.1 360)) hx hb hts hi9 hown hK hP zkL_359 rfl (by decide) (hts (.fieldLink RX9 9 "LeaseOfficeModel" "g" "[I") (by decide +kernel)) rfl (by decide) dX9_back_108 ?_
        refine lv_sipush (v := 1082) hx hb dX9_back_111 (by decide) ?_
        refine x_ialdL (j := 1082) hx hb hK hP (zK_lt zkL_360 (by decide)) (zE_15 (j := 1) zkL_360 zlL_360 rfl) (by decide) (by decide) dX9_back_114 ?_
        obtain rfl := Option.some.inj hf
        exact x_iret hx hb hr hlocks hK hP hS dX9_back_115
      · have hf := zif_f c3 hf
        refine lv_aload_n hx hb dX9_back_29 rfl (lv_at hl 0 rfl) ?_
        refine x_get (j := 9) (v := .ref (G.2.1 366)) hx hb hts hi9 hown hK hP zkL_359 rfl (by decide) (hts (.fieldLink RX9 28 "LeaseOfficeModel" "held" "[I") (by decide +kernel)) rfl (by decide) dX9_back_30 ?_
        refine lv_iload_n hx hb dX9_back_33 rfl (lv_at hl 1 rfl) ?_
        obtain ⟨h4, hf⟩ := zck_e hf
        refine x_iald hx hb hK hP (zK_lt zkL_366 (by decide)) (zE_15 (j := 7) zkL_366 zlL_366 rfl) (zin_e h4) dX9_back_34 ?_
        refine lv_iconst (v := 1) hx hb dX9_back_35 (by decide) ?_
        refine lv_icmp_ne (tgt := 52) hx hb dX9_back_36 (by decide) (fun c5 => ?_) (fun c5 => ?_)
        · have hf := zif_f c5 hf
          refine lv_aload_n hx hb dX9_back_52 rfl (lv_at hl 0 rfl) ?_
          refine x_get (j := 9) (v := .ref (G.2.1 366)) hx hb hts hi9 hown hK hP zkL_359 rfl (by decide) (hts (.fieldLink RX9 28 "LeaseOfficeModel" "held" "[I") (by decide +kernel)) rfl (by decide) dX9_back_53 ?_
          refine lv_iload_n hx hb dX9_back_56 rfl (lv_at hl 1 rfl) ?_
          obtain ⟨h6, hf⟩ := zck_e hf
          refine x_iald hx hb hK hP (zK_lt zkL_366 (by decide)) (zE_15 (j := 7) zkL_366 zlL_366 rfl) (zin_e h6) dX9_back_57 ?_
          refine lv_iconst (v := 2) hx hb dX9_back_58 (by decide) ?_
          refine lv_icmp_ne (tgt := 79) hx hb dX9_back_59 (by decide) (fun c7 => ?_) (fun c7 => ?_)
          · have hf := zif_f c7 hf
            refine lv_iconst (v := 0) hx hb dX9_back_79 (by decide) ?_
            refine lv_istore_n (lv' := [(2, .int 0), (0, .ref (G.2.1 359)), (1, .int y1)]) hx hb dX9_back_80 rfl hl (by decide) rfl (fun ls hl => ?_)
            refine lv_aload_n hx hb dX9_back_81 rfl (lv_at hl 1 rfl) ?_
            refine x_get (j := 9) (v := .ref (G.2.1 366)) hx hb hts hi9 hown hK hP zkL_359 rfl (by decide) (hts (.fieldLink RX9 28 "LeaseOfficeModel" "held" "[I") (by decide +kernel)) rfl (by decide) dX9_back_82 ?_
            refine lv_iload_n hx hb dX9_back_85 rfl (lv_at hl 2 rfl) ?_
            refine lv_iload_n hx hb dX9_back_86 rfl (lv_at hl 0 rfl) ?_
            refine lv_if_eq (tgt := 94) hx hb dX9_back_87 (by decide) (fun _ => ?_) (fun c8 => absurd (by decide) c8)
            refine lv_aload_n hx hb dX9_back_94 rfl (lv_at hl 1 rfl) ?_
            refine x_get (j := 9) (v := .ref (G.2.1 366)) hx hb hts hi9 hown hK hP zkL_359 rfl (by decide) (hts (.fieldLink RX9 28 "LeaseOfficeModel" "held" "[I") (by decide +kernel)) rfl (by decide) dX9_back_95 ?_
            refine lv_iload_n hx hb dX9_back_98 rfl (lv_at hl 2 rfl) ?_
            obtain ⟨h9, hf⟩ := zck_e hf
            refine x_iald hx hb hK hP (zK_lt zkL_366 (by decide)) (zE_15 (j := 7) zkL_366 zlL_366 rfl) (zin_e h9) dX9_back_99 ?_
            obtain ⟨h11, hf⟩ := zck_e hf
            obtain ⟨M10, eM10, hf⟩ := zlet_e hf
            refine x_iastM (j := 7) (a := y1.toNatClampNeg) eM10 rfl hx hb hG hK hP hS zkL_366 zlL_366 (zin_e h11) dX9_back_100 (fun H locs hP hS => ?_)
            refine lv_iinc (v := (y1 + 1)) (lv' := [(1, .int (y1 + 1)), (2, .int 0), (0, .ref (G.2.1 359))]) hx hb dX9_back_101 hl (k := 2) rfl rfl (by decide) rfl (fun ls hl => ?_)
            refine lv_goto (tgt := 23) hx hb dX9_back_104 (by decide) ?_
            exact ih M10 (y1 + 1) H locs ls hf hP hS (lv_sub hl [2, 0] rfl)
          · have hf := zif_t c7 hf
            refine lv_aload_n hx hb dX9_back_62 rfl (lv_at hl 0 rfl) ?_
            refine lv_aload_n hx hb dX9_back_63 rfl (lv_at hl 0 rfl) ?_
            refine x_get (j := 10) (v := .ref (G.2.1 367)) hx hb hts hi9 hown hK hP zkL_359 rfl (by decide) (hts (.fieldLink RX9 31 "LeaseOfficeModel" "heldNumber" "[I") (by decide +kernel)) rfl (by decide) dX9_back_64 ?_
            refine lv_iload_n hx hb dX9_back_67 rfl (lv_at hl 1 rfl) ?_
            obtain ⟨h12, hf⟩ := zck_e hf
            refine x_iald hx hb hK hP (zK_lt zkL_367 (by decide)) (zE_15 (j := 8) zkL_367 zlL_367 rfl) (zin_e h12) dX9_back_68 ?_
            obtain ⟨q13, hq13, hf⟩ := zb_e hf
            refine x_calli (x_runV (As := [.int (M 8 y1.toNatClampNeg)]) (rest := []) ⟨hx, hb, hml, hown, hts⟩ (c_X9_isTool l G hG I M (M 8 y1.toNatClampNeg) hq13) (cwV 1 hts gX9_back_X9_isTool rfl rfl rfl (by decide +kernel) ⟨Nat.le_of_ble_eq_true rfl, Nat.le_of_ble_eq_true rfl⟩) hK hP zkL_359 (by decide) rfl rfl hl.1 rfl (Nat.le_of_ble_eq_true rfl) dX9_back_69 ⟨Nat.zero_le _, Nat.zero_le _⟩) hS (fun H locs hP hS => ?_)
            refine lv_if_ne (tgt := 79) hx hb dX9_back_72 (by decide) (fun c14 => ?_) (fun c14 => ?_)
            · have hf := zif_f c14 hf
              refine lv_iconst (v := 0) hx hb dX9_back_79 (by decide) ?_
              refine lv_istore_n (lv' := [(2, .int 0), (0, .ref (G.2.1 359)), (1, .int y1)]) hx hb dX9_back_80 rfl hl (by decide) rfl (fun ls hl => ?_)
              refine lv_aload_n hx hb dX9_back_81 rfl (lv_at hl 1 rfl) ?_
              refine x_get (j := 9) (v := .ref (G.2.1 366)) hx hb hts hi9 hown hK hP zkL_359 rfl (by decide) (hts (.fieldLink RX9 28 "LeaseOfficeModel" "held" "[I") (by decide +kernel)) rfl (by decide) dX9_back_82 ?_
              refine lv_iload_n hx hb dX9_back_85 rfl (lv_at hl 2 rfl) ?_
              refine lv_iload_n hx hb dX9_back_86 rfl (lv_at hl 0 rfl) ?_
              refine lv_if_eq (tgt := 94) hx hb dX9_back_87 (by decide) (fun _ => ?_) (fun c15 => absurd (by decide) c15)
              refine lv_aload_n hx hb dX9_back_94 rfl (lv_at hl 1 rfl) ?_
              refine x_get (j := 9) (v := .ref (G.2.1 366)) hx hb hts hi9 hown hK hP zkL_359 rfl (by decide) (hts (.fieldLink RX9 28 "LeaseOfficeModel" "held" "[I") (by decide +kernel)) rfl (by decide) dX9_back_95 ?_
              refine lv_iload_n hx hb dX9_back_98 rfl (lv_at hl 2 rfl) ?_
              obtain ⟨h16, hf⟩ := zck_e hf
              refine x_iald hx hb hK hP (zK_lt zkL_366 (by decide)) (zE_15 (j := 7) zkL_366 zlL_366 rfl) (zin_e h16) dX9_back_99 ?_
              obtain ⟨h18, hf⟩ := zck_e hf
              obtain ⟨M17, eM17, hf⟩ := zlet_e hf
              refine x_iastM (j := 7) (a := y1.toNatClampNeg) eM17 rfl hx hb hG hK hP hS zkL_366 zlL_366 (zin_e h18) dX9_back_100 (fun H locs hP hS => ?_)
              refine lv_iinc (v := (y1 + 1)) (lv' := [(1, .int (y1 + 1)), (2, .int 0), (0, .ref (G.2.1 359))]) hx hb dX9_back_101 hl (k := 2) rfl rfl (by decide) rfl (fun ls hl => ?_)
              refine lv_goto (tgt := 23) hx hb dX9_back_104 (by decide) ?_
              exact ih M17 (y1 + 1) H locs ls hf hP hS (lv_sub hl [2, 0] rfl)
            · have hf := zif_t c14 hf
              refine lv_iconst (v := 1) hx hb dX9_back_75 (by decide) ?_
              refine lv_goto (tgt := 80) hx hb dX9_back_76 (by decide) ?_
              refine lv_istore_n (lv' := [(2, .int 1), (0, .ref (G.2.1 359)), (1, .int y1)]) hx hb dX9_back_80 rfl hl (by decide) rfl (fun ls hl => ?_)
              refine lv_aload_n hx hb dX9_back_81 rfl (lv_at hl 1 rfl) ?_
              refine x_get (j := 9) (v := .ref (G.2.1 366)) hx hb hts hi9 hown hK hP zkL_359 rfl (by decide) (hts (.fieldLink RX9 28 "LeaseOfficeModel" "held" "[I") (by decide +kernel)) rfl (by decide) dX9_back_82 ?_
              refine lv_iload_n hx hb dX9_back_85 rfl (lv_at hl 2 rfl) ?_
              refine lv_iload_n hx hb dX9_back_86 rfl (lv_at hl 0 rfl) ?_
              refine lv_if_eq (tgt := 94) hx hb dX9_back_87 (by decide) (fun c19 => absurd c19 (by decide)) (fun _ => ?_)
              refine lv_iconst (v := 0) hx hb dX9_back_90 (by decide) ?_
              refine lv_goto (tgt := 100) hx hb dX9_back_91 (by decide) ?_
              obtain ⟨h21, hf⟩ := zck_e hf
              obtain ⟨M20, eM20, hf⟩ := zlet_e hf
              refine x_iastM (j := 7) (a := y1.toNatClampNeg) eM20 rfl hx hb hG hK hP hS zkL_366 zlL_366 (zin_e h21) dX9_back_100 (fun H locs hP hS => ?_)
              refine lv_iinc (v := (y1 + 1)) (lv' := [(1, .int (y1 + 1)), (2, .int 1), (0, .ref (G.2.1 359))]) hx hb dX9_back_101 hl (k := 2) rfl rfl (by decide) rfl (fun ls hl => ?_)
              refine lv_goto (tgt := 23) hx hb dX9_back_104 (by decide) ?_
              exact ih M20 (y1 + 1) H locs ls hf hP hS (lv_sub hl [2, 0] rfl)
        · have hf := zif_t c5 hf
          refine lv_aload_n hx hb dX9_back_39 rfl (lv_at hl 0 rfl) ?_
          refine lv_aload_n hx hb dX9_back_40 rfl (lv_at hl 0 rfl) ?_
          refine x_get (j := 10) (v := .ref (G.2.1 367)) hx hb hts hi9 hown hK hP zkL_359 rfl (by decide) (hts (.fieldLink RX9 31 "LeaseOfficeModel" "heldNumber" "[I") (by decide +kernel)) rfl (by decide) dX9_back_41 ?_
          refine lv_iload_n hx hb dX9_back_44 rfl (lv_at hl 1 rfl) ?_
          obtain ⟨h22, hf⟩ := zck_e hf
          refine x_iald hx hb hK hP (zK_lt zkL_367 (by decide)) (zE_15 (j := 8) zkL_367 zlL_367 rfl) (zin_e h22) dX9_back_45 ?_
          obtain ⟨q23, hq23, hf⟩ := zb_e hf
          refine x_calli (x_runV (As := [.int (M 8 y1.toNatClampNeg)]) (rest := []) ⟨hx, hb, hml, hown, hts⟩ (c_X9_isPerson l G hG I M (M 8 y1.toNatClampNeg) hq23) (cwV 1 hts gX9_back_X9_isPerson rfl rfl rfl (by decide +kernel) ⟨Nat.le_of_ble_eq_true rfl, Nat.le_of_ble_eq_true rfl⟩) hK hP zkL_359 (by decide) rfl rfl hl.1 rfl (Nat.le_of_ble_eq_true rfl) dX9_back_46 ⟨Nat.zero_le _, Nat.zero_le _⟩) hS (fun H locs hP hS => ?_)
          refine lv_if_eq (tgt := 75) hx hb dX9_back_49 (by decide) (fun c24 => ?_) (fun c24 => ?_)
          · have hf := zif_t c24 hf
            refine lv_iconst (v := 1) hx hb dX9_back_75 (by decide) ?_
            refine lv_goto (tgt := 80) hx hb dX9_back_76 (by decide) ?_
            refine lv_istore_n (lv' := [(2, .int 1), (0, .ref (G.2.1 359)), (1, .int y1)]) hx hb dX9_back_80 rfl hl (by decide) rfl (fun ls hl => ?_)
            refine lv_aload_n hx hb dX9_back_81 rfl (lv_at hl 1 rfl) ?_
            refine x_get (j := 9) (v := .ref (G.2.1 366)) hx hb hts hi9 hown hK hP zkL_359 rfl (by decide) (hts (.fieldLink RX9 28 "LeaseOfficeModel" "held" "[I") (by decide +kernel)) rfl (by decide) dX9_back_82 ?_
            refine lv_iload_n hx hb dX9_back_85 rfl (lv_at hl 2 rfl) ?_
            refine lv_iload_n hx hb dX9_back_86 rfl (lv_at hl 0 rfl) ?_
            refine lv_if_eq (tgt := 94) hx hb dX9_back_87 (by decide) (fun c25 => absurd c25 (by decide)) (fun _ => ?_)
            refine lv_iconst (v := 0) hx hb dX9_back_90 (by decide) ?_
            refine lv_goto (tgt := 100) hx hb dX9_back_91 (by decide) ?_
            obtain ⟨h27, hf⟩ := zck_e hf
            obtain ⟨M26, eM26, hf⟩ := zlet_e hf
            refine x_iastM (j := 7) (a := y1.toNatClampNeg) eM26 rfl hx hb hG hK hP hS zkL_366 zlL_366 (zin_e h27) dX9_back_100 (fun H locs hP hS => ?_)
            refine lv_iinc (v := (y1 + 1)) (lv' := [(1, .int (y1 + 1)), (2, .int 1), (0, .ref (G.2.1 359))]) hx hb dX9_back_101 hl (k := 2) rfl rfl (by decide) rfl (fun ls hl => ?_)
            refine lv_goto (tgt := 23) hx hb dX9_back_104 (by decide) ?_
            exact ih M26 (y1 + 1) H locs ls hf hP hS (lv_sub hl [2, 0] rfl)
          · have hf := zif_f c24 hf
            refine lv_aload_n hx hb dX9_back_52 rfl (lv_at hl 0 rfl) ?_
            refine x_get (j := 9) (v := .ref (G.2.1 366)) hx hb hts hi9 hown hK hP zkL_359 rfl (by decide) (hts (.fieldLink RX9 28 "LeaseOfficeModel" "held" "[I") (by decide +kernel)) rfl (by decide) dX9_back_53 ?_
            refine lv_iload_n hx hb dX9_back_56 rfl (lv_at hl 1 rfl) ?_
            obtain ⟨h28, hf⟩ := zck_e hf
            refine x_iald hx hb hK hP (zK_lt zkL_366 (by decide)) (zE_15 (j := 7) zkL_366 zlL_366 rfl) (zin_e h28) dX9_back_57 ?_
            refine lv_iconst (v := 2) hx hb dX9_back_58 (by decide) ?_
            refine lv_icmp_ne (tgt := 79) hx hb dX9_back_59 (by decide) (fun c29 => ?_) (fun c29 => ?_)
            · have hf := zif_f c29 hf
              refine lv_iconst (v := 0) hx hb dX9_back_79 (by decide) ?_
              refine lv_istore_n (lv' := [(2, .int 0), (0, .ref (G.2.1 359)), (1, .int y1)]) hx hb dX9_back_80 rfl hl (by decide) rfl (fun ls hl => ?_)
              refine lv_aload_n hx hb dX9_back_81 rfl (lv_at hl 1 rfl) ?_
              refine x_get (j := 9) (v := .ref (G.2.1 366)) hx hb hts hi9 hown hK hP zkL_359 rfl (by decide) (hts (.fieldLink RX9 28 "LeaseOfficeModel" "held" "[I") (by decide +kernel)) rfl (by decide) dX9_back_82 ?_
              refine lv_iload_n hx hb dX9_back_85 rfl (lv_at hl 2 rfl) ?_
              refine lv_iload_n hx hb dX9_back_86 rfl (lv_at hl 0 rfl) ?_
              refine lv_if_eq (tgt := 94) hx hb dX9_back_87 (by decide) (fun _ => ?_) (fun c30 => absurd (by decide) c30)
              refine lv_aload_n hx hb dX9_back_94 rfl (lv_at hl 1 rfl) ?_
              refine x_get (j := 9) (v := .ref (G.2.1 366)) hx hb hts hi9 hown hK hP zkL_359 rfl (by decide) (hts (.fieldLink RX9 28 "LeaseOfficeModel" "held" "[I") (by decide +kernel)) rfl (by decide) dX9_back_95 ?_
              refine lv_iload_n hx hb dX9_back_98 rfl (lv_at hl 2 rfl) ?_
              obtain ⟨h31, hf⟩ := zck_e hf
              refine x_iald hx hb hK hP (zK_lt zkL_366 (by decide)) (zE_15 (j := 7) zkL_366 zlL_366 rfl) (zin_e h31) dX9_back_99 ?_
              obtain ⟨h33, hf⟩ := zck_e hf
              obtain ⟨M32, eM32, hf⟩ := zlet_e hf
              refine x_iastM (j := 7) (a := y1.toNatClampNeg) eM32 rfl hx hb hG hK hP hS zkL_366 zlL_366 (zin_e h33) dX9_back_100 (fun H locs hP hS => ?_)
              refine lv_iinc (v := (y1 + 1)) (lv' := [(1, .int (y1 + 1)), (2, .int 0), (0, .ref (G.2.1 359))]) hx hb dX9_back_101 hl (k := 2) rfl rfl (by decide) rfl (fun ls hl => ?_)
              refine lv_goto (tgt := 23) hx hb dX9_back_104 (by decide) ?_
              exact ih M32 (y1 + 1) H locs ls hf hP hS (lv_sub hl [2, 0] rfl)
            · have hf := zif_t c29 hf
              refine lv_aload_n hx hb dX9_back_62 rfl (lv_at hl 0 rfl) ?_
              refine lv_aload_n hx hb dX9_back_63 rfl (lv_at hl 0 rfl) ?_
              refine x_get (j := 10) (v := .ref (G.2.1 367)) hx hb hts hi9 hown hK hP zkL_359 rfl (by decide) (hts (.fieldLink RX9 31 "LeaseOfficeModel" "heldNumber" "[I") (by decide +kernel)) rfl (by decide) dX9_back_64 ?_
              refine lv_iload_n hx hb dX9_back_67 rfl (lv_at hl 1 rfl) ?_
              obtain ⟨h34, hf⟩ := zck_e hf
              refine x_iald hx hb hK hP (zK_lt zkL_367 (by decide)) (zE_15 (j := 8) zkL_367 zlL_367 rfl) (zin_e h34) dX9_back_68 ?_
              obtain ⟨q35, hq35, hf⟩ := zb_e hf
              refine x_calli (x_runV (As := [.int (M 8 y1.toNatClampNeg)]) (rest := []) ⟨hx, hb, hml, hown, hts⟩ (c_X9_isTool l G hG I M (M 8 y1.toNatClampNeg) hq35) (cwV 1 hts gX9_back_X9_isTool rfl rfl rfl (by decide +kernel) ⟨Nat.le_of_ble_eq_true rfl, Nat.le_of_ble_eq_true rfl⟩) hK hP zkL_359 (by decide) rfl rfl hl.1 rfl (Nat.le_of_ble_eq_true rfl) dX9_back_69 ⟨Nat.zero_le _, Nat.zero_le _⟩) hS (fun H locs hP hS => ?_)
              refine lv_if_ne (tgt := 79) hx hb dX9_back_72 (by decide) (fun c36 => ?_) (fun c36 => ?_)
              · have hf := zif_f c36 hf
                refine lv_iconst (v := 0) hx hb dX9_back_79 (by decide) ?_
                refine lv_istore_n (lv' := [(2, .int 0), (0, .ref (G.2.1 359)), (1, .int y1)]) hx hb dX9_back_80 rfl hl (by decide) rfl (fun ls hl => ?_)
                refine lv_aload_n hx hb dX9_back_81 rfl (lv_at hl 1 rfl) ?_
                refine x_get (j := 9) (v := .ref (G.2.1 366)) hx hb hts hi9 hown hK hP zkL_359 rfl (by decide) (hts (.fieldLink RX9 28 "LeaseOfficeModel" "held" "[I") (by decide +kernel)) rfl (by decide) dX9_back_82 ?_
                refine lv_iload_n hx hb dX9_back_85 rfl (lv_at hl 2 rfl) ?_
                refine lv_iload_n hx hb dX9_back_86 rfl (lv_at hl 0 rfl) ?_
                refine lv_if_eq (tgt := 94) hx hb dX9_back_87 (by decide) (fun _ => ?_) (fun c37 => absurd (by decide) c37)
                refine lv_aload_n hx hb dX9_back_94 rfl (lv_at hl 1 rfl) ?_
                refine x_get (j := 9) (v := .ref (G.2.1 366)) hx hb hts hi9 hown hK hP zkL_359 rfl (by decide) (hts (.fieldLink RX9 28 "LeaseOfficeModel" "held" "[I") (by decide +kernel)) rfl (by decide) dX9_back_95 ?_
                refine lv_iload_n hx hb dX9_back_98 rfl (lv_at hl 2 rfl) ?_
                obtain ⟨h38, hf⟩ := zck_e hf
                refine x_iald hx hb hK hP (zK_lt zkL_366 (by decide)) (zE_15 (j := 7) zkL_366 zlL_366 rfl) (zin_e h38) dX9_back_99 ?_
                obtain ⟨h40, hf⟩ := zck_e hf
                obtain ⟨M39, eM39, hf⟩ := zlet_e hf
                refine x_iastM (j := 7) (a := y1.toNatClampNeg) eM39 rfl hx hb hG hK hP hS zkL_366 zlL_366 (zin_e h40) dX9_back_100 (fun H locs hP hS => ?_)
                refine lv_iinc (v := (y1 + 1)) (lv' := [(1, .int (y1 + 1)), (2, .int 0), (0, .ref (G.2.1 359))]) hx hb dX9_back_101 hl (k := 2) rfl rfl (by decide) rfl (fun ls hl => ?_)
                refine lv_goto (tgt := 23) hx hb dX9_back_104 (by decide) ?_
                exact ih M39 (y1 + 1) H locs ls hf hP hS (lv_sub hl [2, 0] rfl)
              · have hf := zif_t c36 hf
                refine lv_iconst (v := 1) hx hb dX9_back_75 (by decide) ?_
                refine lv_goto (tgt := 80) hx hb dX9_back_76 (by decide) ?_
                refine lv_istore_n (lv' := [(2, .int 1), (0, .ref (G.2.1 359)), (1, .int y1)]) hx hb dX9_back_80 rfl hl (by decide) rfl (fun ls hl => ?_)
                refine lv_aload_n hx hb dX9_back_81 rfl (lv_at hl 1 rfl) ?_
                refine x_get (j := 9) (v := .ref (G.2.1 366)) hx hb hts hi9 hown hK hP zkL_359 rfl (by decide) (hts (.fieldLink RX9 28 "LeaseOfficeModel" "held" "[I") (by decide +kernel)) rfl (by decide) dX9_back_82 ?_
                refine lv_iload_n hx hb dX9_back_85 rfl (lv_at hl 2 rfl) ?_
                refine lv_iload_n hx hb dX9_back_86 rfl (lv_at hl 0 rfl) ?_
                refine lv_if_eq (tgt := 94) hx hb dX9_back_87 (by decide) (fun c41 => absurd c41 (by decide)) (fun _ => ?_)
                refine lv_iconst (v := 0) hx hb dX9_back_90 (by decide) ?_
                refine lv_goto (tgt := 100) hx hb dX9_back_91 (by decide) ?_
                obtain ⟨h43, hf⟩ := zck_e hf
                obtain ⟨M42, eM42, hf⟩ := zlet_e hf
                refine x_iastM (j := 7) (a := y1.toNatClampNeg) eM42 rfl hx hb hG hK hP hS zkL_366 zlL_366 (zin_e h43) dX9_back_100 (fun H locs hP hS => ?_)
                refine lv_iinc (v := (y1 + 1)) (lv' := [(1, .int (y1 + 1)), (2, .int 1), (0, .ref (G.2.1 359))]) hx hb dX9_back_101 hl (k := 2) rfl rfl (by decide) rfl (fun ls hl => ?_)
                refine lv_goto (tgt := 23) hx hb dX9_back_104 (by decide) ?_
                exact ih M42 (y1 + 1) H locs ls hf hP hS (lv_sub hl [2, 0] rfl)
  unfold f_X9_back at hf
  refine lv_aload_n hx hb dX9_back_0 rfl (lv_at hl 0 rfl) ?_
  refine x_get (j := 4) (v := .int (J 0 4)) hx hb hts hi9 hown hK hP zkL_359 rfl (by decide) (hts (.fieldLink RX9 275 "LeaseOfficeModel" "isKept" "Z") (by decide +kernel)) rfl (by decide) dX9_back_1 ?_
  refine lv_if_ne (tgt := 10) hx hb dX9_back_4 (by decide) (fun c1 => ?_) (fun c1 => ?_)
  · have hf := zif_f c1 hf
    refine lv_aload_n hx hb dX9_back_10 rfl (lv_at hl 0 rfl) ?_
    refine x_get (j := 3) (v := .ref (G.2.1 363)) hx hb hts hi9 hown hK hP zkL_359 rfl (by decide) (hts (.fieldLink RX9 19 "LeaseOfficeModel" "kept" "[I") (by decide +kernel)) rfl (by decide) dX9_back_11 ?_
    refine lv_aload_n hx hb dX9_back_14 rfl (lv_at hl 0 rfl) ?_
    refine x_get (j := 0) (v := .ref (G.2.1 360)) hx hb hts hi9 hown hK hP zkL_359 rfl (by decide) (hts (.fieldLink RX9 9 "LeaseOfficeModel" "g" "[I") (by decide +kernel)) rfl (by decide) dX9_back_15 ?_
    obtain ⟨q2, hq2, hf⟩ := zb_e hf
    refine x_callv (x_runS (As := [.ref (G.2.1 363), .ref (G.2.1 360)]) (rest := []) ⟨hx, hb, hml, hown, hts⟩ (c_X9_take l G hG I J 4 1 (by decide) (by decide) hq2) (va_cwS 2 hts gX9_back_X9_take rfl rfl rfl (by decide +kernel) ⟨Nat.le_of_ble_eq_true rfl, Nat.le_of_ble_eq_true rfl⟩) hK hP rfl hl.1 rfl (Nat.le_of_ble_eq_true rfl) dX9_back_18 ⟨Nat.zero_le _, Nat.zero_le _⟩) hS (fun H locs hP hS => ?_)
    refine lv_iconst (v := 0) hx hb dX9_back_21 (by decide) ?_
    refine lv_istore_n (lv' := [(1, .int 0), (0, .ref (G.2.1 359))]) hx hb dX9_back_22 rfl hl (by decide) rfl (fun ls hl => ?_)
    exact L23 zFu q2 0 H locs ls hf hP hS (lv_sub hl [1, 0] rfl)
  · have hf := zif_t c1 hf
    refine lv_bipush (v := (-5)) hx hb dX9_back_7 (by decide) ?_
    obtain rfl := Option.some.inj hf
    exact x_iret hx hb hr hlocks hK hP hS dX9_back_9
set_option maxRecDepth 100000 in
set_option maxHeartbeats 4000000 in
theorem c_X9_setT (l : Launch) (G : zGT) (hG : zOK G) (I J : zM) (x1 : Int32) (x2 : Int32) (x3 : Int32) {r : zM} (hf : f_X9_setT J x1 x2 x3 = some r) : Met l yX9_setT wsX9_setT (zrm 0 0) (va_Pc [.ref (G.2.1 359), .int x1, .int x2, .int x3] (zS G I J)) (zQv G I r) 0 0 (zA G) := by
  refine zMet (cc := cX9_setT) (n := 4) (ret := none) (by decide) rfl (Nat.le_of_ble_eq_true rfl) ?_
  intro p e s m args below meth c H locs ls F hK hP hS hl
  obtain ⟨hx, hb, hr, hml, hts, hown, hlocks⟩ := F
  have hown : s.vm.findClass RX9 = some m.cls := hown
  have hl : lv_has ls 4 [(0, .ref (G.2.1 359)), (1, .int x1), (2, .int x2), (3, .int x3)] := hl
  have hi9 : ∀ w ∈ wsX90, w ∈ wsX9_setT := fun _ h => List.mem_cons_of_mem _ (List.mem_append_right _ h)
  unfold f_X9_setT at hf
  refine lv_aload_n hx hb dX9_setT_0 rfl (lv_at hl 0 rfl) ?_
  refine x_get (j := 0) (v := .ref (G.2.1 360)) hx hb hts hi9 hown hK hP zkL_359 rfl (by decide) (hts (.fieldLink RX9 9 "LeaseOfficeModel" "g" "[I") (by decide +kernel)) rfl (by decide) dX9_setT_1 ?_
  refine lv_sipush (v := 180) hx hb dX9_setT_4 (by decide) ?_
  refine lv_iload_n hx hb dX9_setT_7 rfl (lv_at hl 1 rfl) ?_
  refine lv_bipush (v := 90) hx hb dX9_setT_8 (by decide) ?_
  refine lv_imul hx hb dX9_setT_10 ?_
  refine lv_iadd hx hb dX9_setT_11 ?_
  refine lv_iload_n hx hb dX9_setT_12 rfl (lv_at hl 2 rfl) ?_
  refine lv_iadd hx hb dX9_setT_13 ?_
  refine lv_iload_n hx hb dX9_setT_14 rfl (lv_at hl 3 rfl) ?_
  obtain ⟨h2, hf⟩ := zck_e hf
  obtain ⟨M1, eM1, hf⟩ := zlet_e hf
  refine x_iastM (j := 1) (a := ((180 + (x1 * 90)) + x2).toNatClampNeg) eM1 rfl hx hb hG hK hP hS zkL_360 zlL_360 (zin_e h2) dX9_setT_15 (fun H locs hP hS => ?_)
  obtain rfl := Option.some.inj hf
  exact x_vret hx hb hr hlocks hK hP hS dX9_setT_16
set_option maxRecDepth 100000 in
set_option maxHeartbeats 4000000 in
theorem c_X9_placeFor (l : Launch) (G : zGT) (hG : zOK G) (I J : zM) (x1 : Int32) (x2 : Int32) (x3 : Int32) (x4 : Int32) (x5 : Int32) {r : Int32 × zM} (hf : f_X9_placeFor J x1 x2 x3 x4 x5 = some r) : Met l yX9_placeFor wsX9_placeFor (zrm 1 23) (va_Pc [.ref (G.2.1 359), .int x1, .int x2, .int x3, .int x4, .int x5] (zS G I J)) (zQi G r.1 I r.2) 0 0 (zA G) := by
  refine zMet (cc := cX9_placeFor) (n := 8) (ret := (some .int)) (by decide) rfl (Nat.le_of_ble_eq_true rfl) ?_
  intro p e s m args below meth c H locs ls F hK hP hS hl
  obtain ⟨hx, hb, hr, hml, hts, hown, hlocks⟩ := F
  have hown : s.vm.findClass RX9 = some m.cls := hown
  have hl : lv_has ls 8 [(0, .ref (G.2.1 359)), (1, .int x1), (2, .int x2), (3, .int x3), (4, .int x4), (5, .int x5)] := hl
  have J60 : ∀ (M : zM) (y6 : Int32) (H : Heap) (locs : List Loc) (ls : Array Slot), f_X9_placeFor_j60 M x1 x2 x3 x4 y6 = some r → va_P G.1 vwCl (zW G I M) H → va_S (zA G) s.heap H locs → lv_has ls 8 [(0, .ref (G.2.1 359)), (1, .int x1), (2, .int x2), (3, .int x3), (4, .int x4), (6, .int y6)] → W p l e (zrm 1 23) s m args below meth c H locs 0 0 (MQ below (zQi G r.1 I r.2) args s 0 0 (zA G)) (F0 m 60 ls []) := by
    intro M y6 H locs ls hf hP hS hl
    unfold f_X9_placeFor_j60 at hf
    refine lv_aload_n hx hb dX9_placeFor_60 rfl (lv_at hl 0 rfl) ?_
    refine lv_iload_n hx hb dX9_placeFor_61 rfl (lv_at hl 1 rfl) ?_
    refine lv_iload_n hx hb dX9_placeFor_62 rfl (lv_at hl 2 rfl) ?_
    refine lv_iload hx hb dX9_placeFor_63 (lv_at hl 5 rfl) ?_
    refine lv_iconst (v := 1) hx hb dX9_placeFor_65 (by decide) ?_
    refine lv_iadd hx hb dX9_placeFor_66 ?_
    obtain ⟨q3, hq3, hf⟩ := zb_e hf
    refine x_callv (x_runV (As := [.int x1, .int x2, .int (y6 + 1)]) (rest := []) ⟨hx, hb, hml, hown, hts⟩ (c_X9_setT l G hG I M x1 x2 (y6 + 1) hq3) (cwV 3 hts gX9_placeFor_X9_setT rfl rfl rfl (by decide +kernel) ⟨Nat.le_of_ble_eq_true rfl, Nat.le_of_ble_eq_true rfl⟩) hK hP zkL_359 (by decide) rfl rfl hl.1 rfl (Nat.le_of_ble_eq_true rfl) dX9_placeFor_67 ⟨Nat.zero_le _, Nat.zero_le _⟩) hS (fun H locs hP hS => ?_)
    refine lv_iload_n hx hb dX9_placeFor_70 rfl (lv_at hl 3 rfl) ?_
    refine lv_iload hx hb dX9_placeFor_71 (lv_at hl 4 rfl) ?_
    refine lv_iload hx hb dX9_placeFor_73 (lv_at hl 5 rfl) ?_
    refine lv_imul hx hb dX9_placeFor_75 ?_
    refine lv_iadd hx hb dX9_placeFor_76 ?_
    obtain rfl := Option.some.inj hf
    exact x_iret hx hb hr hlocks hK hP hS dX9_placeFor_77
  have L18 : ∀ (y6 : Int32) (K : zM → Option (Int32 × zM)) (hKK : ∀ (M2 : zM) (H : Heap) (locs : List Loc) (ls : Array Slot), K M2 = some r → va_P G.1 vwCl (zW G I M2) H → va_S (zA G) s.heap H locs → lv_has ls 8 [(0, .ref (G.2.1 359)), (1, .int x1), (2, .int x2), (3, .int x3), (4, .int x4), (6, .int y6)] → W p l e (zrm 1 23) s m args below meth c H locs 0 0 (MQ below (zQi G r.1 I r.2) args s 0 0 (zA G)) (F0 m 57 ls [])) (n : Nat) (M : zM) (y7 : Int32) (H : Heap) (locs : List Loc) (ls : Array Slot), f_X9_placeFor_l18 x1 x2 x3 x4 x5 y6 K n M y7 = some r → va_P G.1 vwCl (zW G I M) H → va_S (zA G) s.heap H locs → lv_has ls 8 [(0, .ref (G.2.1 359)), (1, .int x1), (2, .int x2), (3, .int x3), (4, .int x4), (5, .int x5), (6, .int y6), (7, .int y7)] → W p l e (zrm 1 23) s m args below meth c H locs 0 0 (MQ below (zQi G r.1 I r.2) args s 0 0 (zA G)) (F0 m 18 ls []) := by
    intro y6 K hKK n
    induction n with
    | zero =>
      intro M y7 H locs ls hf
      rw [f_X9_placeFor_l18] at hf
      cases hf
    | succ n ih =>
      intro M y7 H locs ls hf hP hS hl
      rw [f_X9_placeFor_l18] at hf
      refine lv_iload hx hb dX9_placeFor_18 (lv_at hl 7 rfl) ?_
      refine lv_iload hx hb dX9_placeFor_20 (lv_at hl 4 rfl) ?_
      refine lv_iload hx hb dX9_placeFor_22 (lv_at hl 5 rfl) ?_
      refine lv_iconst (v := 1) hx hb dX9_placeFor_24 (by decide) ?_
      refine lv_isub hx hb dX9_placeFor_25 ?_
      refine lv_imul hx hb dX9_placeFor_26 ?_
      refine lv_icmp_ge (tgt := 57) hx hb dX9_placeFor_27 (by decide) (fun c4 => ?_) (fun c4 => ?_)
      · have hf := zif_t c4 hf
        exact hKK M H locs ls hf hP hS (lv_sub hl [0, 1, 2, 3, 4, 6] rfl)
      · have hf := zif_f c4 hf
        refine lv_aload_n hx hb dX9_placeFor_30 rfl (lv_at hl 0 rfl) ?_
        refine lv_iload_n hx hb dX9_placeFor_31 rfl (lv_at hl 1 rfl) ?_
        refine lv_iload_n hx hb dX9_placeFor_32 rfl (lv_at hl 3 rfl) ?_
        refine lv_iload hx hb dX9_placeFor_33 (lv_at hl 7 rfl) ?_
        refine lv_iadd hx hb dX9_placeFor_35 ?_
        refine lv_aload_n hx hb dX9_placeFor_36 rfl (lv_at hl 0 rfl) ?_
        refine lv_iload_n hx hb dX9_placeFor_37 rfl (lv_at hl 1 rfl) ?_
        refine lv_iload_n hx hb dX9_placeFor_38 rfl (lv_at hl 3 rfl) ?_
        refine lv_iload hx hb dX9_placeFor_39 (lv_at hl 7 rfl) ?_
        refine lv_iadd hx hb dX9_placeFor_41 ?_
        refine lv_iload hx hb dX9_placeFor_42 (lv_at hl 4 rfl) ?_
        refine lv_iadd hx hb dX9_placeFor_44 ?_
        obtain ⟨q5, hq5, hf⟩ := zb_e hf
        refine x_calli (x_runV (As := [.int x1, .int ((x3 + y7) + x4)]) (rest := [.int (x3 + y7), .int x1, .ref (G.2.1 359)]) ⟨hx, hb, hml, hown, hts⟩ (c_X9_t l G hG I M x1 ((x3 + y7) + x4) hq5) (cwV 2 hts gX9_placeFor_X9_t rfl rfl rfl (by decide +kernel) ⟨Nat.le_of_ble_eq_true rfl, Nat.le_of_ble_eq_true rfl⟩) hK hP zkL_359 (by decide) rfl rfl hl.1 rfl (Nat.le_of_ble_eq_true rfl) dX9_placeFor_45 ⟨Nat.zero_le _, Nat.zero_le _⟩) hS (fun H locs hP hS => ?_)
        obtain ⟨q6, hq6, hf⟩ := zb_e hf
        refine x_callv (x_runV (As := [.int x1, .int (x3 + y7), .int q5]) (rest := []) ⟨hx, hb, hml, hown, hts⟩ (c_X9_setT l G hG I M x1 (x3 + y7) q5 hq6) (cwV 3 hts gX9_placeFor_X9_setT rfl rfl rfl (by decide +kernel) ⟨Nat.le_of_ble_eq_true rfl, Nat.le_of_ble_eq_true rfl⟩) hK hP zkL_359 (by decide) rfl rfl hl.1 rfl (Nat.le_of_ble_eq_true rfl) dX9_placeFor_48 ⟨Nat.zero_le _, Nat.zero_le _⟩) hS (fun H locs hP hS => ?_)
        refine lv_iinc (v := (y7 + 1)) (lv' := [(7, .int (y7 + 1)), (0, .ref (G.2.1 359)), (1, .int x1), (2, .int x2), (3, .int x3), (4, .int x4), (5, .int x5), (6, .int y6)]) hx hb dX9_placeFor_51 hl (k := 7) rfl rfl (by decide) rfl (fun ls hl => ?_)
        refine lv_goto (tgt := 18) hx hb dX9_placeFor_54 (by decide) ?_
        exact ih q6 (y7 + 1) H locs ls hf hP hS (lv_sub hl [1, 2, 3, 4, 5, 6, 7, 0] rfl)
  unfold f_X9_placeFor at hf
  refine lv_aload_n hx hb dX9_placeFor_0 rfl (lv_at hl 0 rfl) ?_
  refine lv_iload_n hx hb dX9_placeFor_1 rfl (lv_at hl 1 rfl) ?_
  refine lv_iload_n hx hb dX9_placeFor_2 rfl (lv_at hl 2 rfl) ?_
  obtain ⟨q1, hq1, hf⟩ := zb_e hf
  refine x_calli (x_runV (As := [.int x1, .int x2]) (rest := []) ⟨hx, hb, hml, hown, hts⟩ (c_X9_t l G hG I J x1 x2 hq1) (cwV 2 hts gX9_placeFor_X9_t rfl rfl rfl (by decide +kernel) ⟨Nat.le_of_ble_eq_true rfl, Nat.le_of_ble_eq_true rfl⟩) hK hP zkL_359 (by decide) rfl rfl hl.1 rfl (Nat.le_of_ble_eq_true rfl) dX9_placeFor_3 ⟨Nat.zero_le _, Nat.zero_le _⟩) hS (fun H locs hP hS => ?_)
  refine lv_istore (lv' := [(6, .int q1), (0, .ref (G.2.1 359)), (1, .int x1), (2, .int x2), (3, .int x3), (4, .int x4), (5, .int x5)]) hx hb dX9_placeFor_6 hl (by decide) rfl (fun ls hl => ?_)
  refine lv_iload hx hb dX9_placeFor_8 (lv_at hl 0 rfl) ?_
  refine lv_iload hx hb dX9_placeFor_10 (lv_at hl 6 rfl) ?_
  refine lv_icmp_ne (tgt := 60) hx hb dX9_placeFor_12 (by decide) (fun c2 => ?_) (fun c2 => ?_)
  · have hf := zif_f c2 hf
    exact J60 J q1 H locs ls hf hP hS (lv_sub hl [1, 2, 3, 4, 5, 0] rfl)
  · have hf := zif_t c2 hf
    refine lv_iconst (v := 0) hx hb dX9_placeFor_15 (by decide) ?_
    refine lv_istore (lv' := [(7, .int 0), (6, .int q1), (0, .ref (G.2.1 359)), (1, .int x1), (2, .int x2), (3, .int x3), (4, .int x4), (5, .int x5)]) hx hb dX9_placeFor_16 hl (by decide) rfl (fun ls hl => ?_)
    refine L18 q1 _ (fun M7 H locs ls hf hP hS hl => ?_) zFu J 0 H locs ls hf hP hS (lv_sub hl [2, 3, 4, 5, 6, 7, 1, 0] rfl)
    refine lv_iinc (v := (q1 + (-1))) (lv' := [(6, .int (q1 + (-1))), (0, .ref (G.2.1 359)), (1, .int x1), (2, .int x2), (3, .int x3), (4, .int x4)]) hx hb dX9_placeFor_57 hl (k := 5) rfl rfl (by decide) rfl (fun ls hl => ?_)
    exact J60 M7 (q1 + (-1)) H locs ls hf hP hS (lv_sub hl [1, 2, 3, 4, 5, 0] rfl)
set_option maxRecDepth 100000 in
set_option maxHeartbeats 4000000 in
theorem c_X9_begins (l : Launch) (G : zGT) (hG : zOK G) (I J : zM) (x1 : Int32) (x2 : Int32) {r : zM} (hf : f_X9_begins J x1 x2 = some r) : Met l yX9_begins wsX9_begins (zrm 2 50) (va_Pc [.ref (G.2.1 359), .int x1, .int x2] (zS G I J)) (zQv G I r) 0 0 (zA G) := by
  refine zMet (cc := cX9_begins) (n := 4) (ret := none) (by decide) rfl (Nat.le_of_ble_eq_true rfl) ?_
  intro p e s m args below meth c H locs ls F hK hP hS hl
  obtain ⟨hx, hb, hr, hml, hts, hown, hlocks⟩ := F
  have hown : s.vm.findClass RX9 = some m.cls := hown
  have hl : lv_has ls 4 [(0, .ref (G.2.1 359)), (1, .int x1), (2, .int x2)] := hl
  have hi9 : ∀ w ∈ wsX90, w ∈ wsX9_begins := fun _ h => List.mem_cons_of_mem _ (List.mem_append_right _ h)
  unfold f_X9_begins at hf
  refine lv_aload_n hx hb dX9_begins_0 rfl (lv_at hl 0 rfl) ?_
  refine lv_iload_n hx hb dX9_begins_1 rfl (lv_at hl 1 rfl) ?_
  refine lv_bipush (v := 6) hx hb dX9_begins_2 (by decide) ?_
  refine lv_bipush (v := 8) hx hb dX9_begins_4 (by decide) ?_
  refine lv_iconst (v := 3) hx hb dX9_begins_6 (by decide) ?_
  refine lv_bipush (v := 8) hx hb dX9_begins_7 (by decide) ?_
  obtain ⟨q1, hq1, hf⟩ := zb_e hf
  refine x_calli (x_runV (As := [.int x1, .int 6, .int 8, .int 3, .int 8]) (rest := []) ⟨hx, hb, hml, hown, hts⟩ (c_X9_placeFor l G hG I J x1 6 8 3 8 hq1) (cwV 5 hts gX9_begins_X9_placeFor rfl rfl rfl (by decide +kernel) ⟨Nat.le_of_ble_eq_true rfl, Nat.le_of_ble_eq_true rfl⟩) hK hP zkL_359 (by decide) rfl rfl hl.1 rfl (Nat.le_of_ble_eq_true rfl) dX9_begins_9 ⟨Nat.zero_le _, Nat.zero_le _⟩) hS (fun H locs hP hS => ?_)
  refine lv_istore_n (lv' := [(3, .int q1.1), (0, .ref (G.2.1 359)), (1, .int x1), (2, .int x2)]) hx hb dX9_begins_12 rfl hl (by decide) rfl (fun ls hl => ?_)
  refine lv_aload_n hx hb dX9_begins_13 rfl (lv_at hl 1 rfl) ?_
  refine lv_iload_n hx hb dX9_begins_14 rfl (lv_at hl 2 rfl) ?_
  refine lv_iload_n hx hb dX9_begins_15 rfl (lv_at hl 0 rfl) ?_
  refine lv_iload_n hx hb dX9_begins_16 rfl (lv_at hl 3 rfl) ?_
  obtain ⟨q2, hq2, hf⟩ := zb_e hf
  refine x_callv (x_runV (As := [.int x1, .int q1.1, .int x2]) (rest := []) ⟨hx, hb, hml, hown, hts⟩ (c_X9_setT l G hG I q1.2 x1 q1.1 x2 hq2) (cwV 3 hts gX9_begins_X9_setT rfl rfl rfl (by decide +kernel) ⟨Nat.le_of_ble_eq_true rfl, Nat.le_of_ble_eq_true rfl⟩) hK hP zkL_359 (by decide) rfl rfl hl.1 rfl (Nat.le_of_ble_eq_true rfl) dX9_begins_17 ⟨Nat.zero_le _, Nat.zero_le _⟩) hS (fun H locs hP hS => ?_)
  refine lv_aload_n hx hb dX9_begins_20 rfl (lv_at hl 1 rfl) ?_
  refine lv_iload_n hx hb dX9_begins_21 rfl (lv_at hl 2 rfl) ?_
  refine lv_iload_n hx hb dX9_begins_22 rfl (lv_at hl 0 rfl) ?_
  refine lv_iconst (v := 1) hx hb dX9_begins_23 (by decide) ?_
  refine lv_iadd hx hb dX9_begins_24 ?_
  refine lv_aload_n hx hb dX9_begins_25 rfl (lv_at hl 1 rfl) ?_
  refine x_get (j := 0) (v := .ref (G.2.1 360)) hx hb hts hi9 hown hK hP zkL_359 rfl (by decide) (hts (.fieldLink RX9 9 "LeaseOfficeModel" "g" "[I") (by decide +kernel)) rfl (by decide) dX9_begins_26 ?_
  refine lv_sipush (v := 1082) hx hb dX9_begins_29 (by decide) ?_
  refine x_ialdL (j := 1082) hx hb hK hP (zK_lt zkL_360 (by decide)) (zE_15 (j := 1) zkL_360 zlL_360 rfl) (by decide) (by decide) dX9_begins_32 ?_
  obtain ⟨q3, hq3, hf⟩ := zb_e hf
  refine x_callv (x_runV (As := [.int x1, .int (q1.1 + 1), .int (q2 1 1082)]) (rest := []) ⟨hx, hb, hml, hown, hts⟩ (c_X9_setT l G hG I q2 x1 (q1.1 + 1) (q2 1 1082) hq3) (cwV 3 hts gX9_begins_X9_setT rfl rfl rfl (by decide +kernel) ⟨Nat.le_of_ble_eq_true rfl, Nat.le_of_ble_eq_true rfl⟩) hK hP zkL_359 (by decide) rfl rfl hl.1 rfl (Nat.le_of_ble_eq_true rfl) dX9_begins_33 ⟨Nat.zero_le _, Nat.zero_le _⟩) hS (fun H locs hP hS => ?_)
  refine lv_aload_n hx hb dX9_begins_36 rfl (lv_at hl 1 rfl) ?_
  refine lv_iload_n hx hb dX9_begins_37 rfl (lv_at hl 2 rfl) ?_
  refine lv_iload_n hx hb dX9_begins_38 rfl (lv_at hl 0 rfl) ?_
  refine lv_iconst (v := 2) hx hb dX9_begins_39 (by decide) ?_
  refine lv_iadd hx hb dX9_begins_40 ?_
  refine lv_bipush (v := (-2)) hx hb dX9_begins_41 (by decide) ?_
  obtain ⟨q4, hq4, hf⟩ := zb_e hf
  refine x_callv (x_runV (As := [.int x1, .int (q1.1 + 2), .int (-2)]) (rest := []) ⟨hx, hb, hml, hown, hts⟩ (c_X9_setT l G hG I q3 x1 (q1.1 + 2) (-2) hq4) (cwV 3 hts gX9_begins_X9_setT rfl rfl rfl (by decide +kernel) ⟨Nat.le_of_ble_eq_true rfl, Nat.le_of_ble_eq_true rfl⟩) hK hP zkL_359 (by decide) rfl rfl hl.1 rfl (Nat.le_of_ble_eq_true rfl) dX9_begins_43 ⟨Nat.zero_le _, Nat.zero_le _⟩) hS (fun H locs hP hS => ?_)
  refine lv_aload_n hx hb dX9_begins_46 rfl (lv_at hl 1 rfl) ?_
  refine lv_iload_n hx hb dX9_begins_47 rfl (lv_at hl 2 rfl) ?_
  refine lv_bipush (v := 7) hx hb dX9_begins_48 (by decide) ?_
  refine lv_aload_n hx hb dX9_begins_50 rfl (lv_at hl 1 rfl) ?_
  refine lv_iload_n hx hb dX9_begins_51 rfl (lv_at hl 2 rfl) ?_
  refine lv_bipush (v := 7) hx hb dX9_begins_52 (by decide) ?_
  obtain ⟨q5, hq5, hf⟩ := zb_e hf
  refine x_calli (x_runV (As := [.int x1, .int 7]) (rest := [.int 7, .int x1, .ref (G.2.1 359)]) ⟨hx, hb, hml, hown, hts⟩ (c_X9_t l G hG I q4 x1 7 hq5) (cwV 2 hts gX9_begins_X9_t rfl rfl rfl (by decide +kernel) ⟨Nat.le_of_ble_eq_true rfl, Nat.le_of_ble_eq_true rfl⟩) hK hP zkL_359 (by decide) rfl rfl hl.1 rfl (Nat.le_of_ble_eq_true rfl) dX9_begins_54 ⟨Nat.zero_le _, Nat.zero_le _⟩) hS (fun H locs hP hS => ?_)
  refine lv_iconst (v := 1) hx hb dX9_begins_57 (by decide) ?_
  refine lv_iadd hx hb dX9_begins_58 ?_
  obtain ⟨q6, hq6, hf⟩ := zb_e hf
  refine x_callv (x_runV (As := [.int x1, .int 7, .int (q5 + 1)]) (rest := []) ⟨hx, hb, hml, hown, hts⟩ (c_X9_setT l G hG I q4 x1 7 (q5 + 1) hq6) (cwV 3 hts gX9_begins_X9_setT rfl rfl rfl (by decide +kernel) ⟨Nat.le_of_ble_eq_true rfl, Nat.le_of_ble_eq_true rfl⟩) hK hP zkL_359 (by decide) rfl rfl hl.1 rfl (Nat.le_of_ble_eq_true rfl) dX9_begins_59 ⟨Nat.zero_le _, Nat.zero_le _⟩) hS (fun H locs hP hS => ?_)
  refine lv_aload_n hx hb dX9_begins_62 rfl (lv_at hl 1 rfl) ?_
  refine lv_iload_n hx hb dX9_begins_63 rfl (lv_at hl 2 rfl) ?_
  refine lv_iconst (v := 2) hx hb dX9_begins_64 (by decide) ?_
  refine lv_iload_n hx hb dX9_begins_65 rfl (lv_at hl 3 rfl) ?_
  obtain ⟨q7, hq7, hf⟩ := zb_e hf
  refine x_callv (x_runV (As := [.int x1, .int 2, .int x2]) (rest := []) ⟨hx, hb, hml, hown, hts⟩ (c_X9_setT l G hG I q6 x1 2 x2 hq7) (cwV 3 hts gX9_begins_X9_setT rfl rfl rfl (by decide +kernel) ⟨Nat.le_of_ble_eq_true rfl, Nat.le_of_ble_eq_true rfl⟩) hK hP zkL_359 (by decide) rfl rfl hl.1 rfl (Nat.le_of_ble_eq_true rfl) dX9_begins_66 ⟨Nat.zero_le _, Nat.zero_le _⟩) hS (fun H locs hP hS => ?_)
  refine lv_aload_n hx hb dX9_begins_69 rfl (lv_at hl 1 rfl) ?_
  refine lv_iload_n hx hb dX9_begins_70 rfl (lv_at hl 2 rfl) ?_
  refine lv_iconst (v := 3) hx hb dX9_begins_71 (by decide) ?_
  refine lv_aload_n hx hb dX9_begins_72 rfl (lv_at hl 1 rfl) ?_
  refine x_get (j := 0) (v := .ref (G.2.1 360)) hx hb hts hi9 hown hK hP zkL_359 rfl (by decide) (hts (.fieldLink RX9 9 "LeaseOfficeModel" "g" "[I") (by decide +kernel)) rfl (by decide) dX9_begins_73 ?_
  refine lv_sipush (v := 1082) hx hb dX9_begins_76 (by decide) ?_
  refine x_ialdL (j := 1082) hx hb hK hP (zK_lt zkL_360 (by decide)) (zE_15 (j := 1) zkL_360 zlL_360 rfl) (by decide) (by decide) dX9_begins_79 ?_
  obtain ⟨q8, hq8, hf⟩ := zb_e hf
  refine x_callv (x_runV (As := [.int x1, .int 3, .int (q7 1 1082)]) (rest := []) ⟨hx, hb, hml, hown, hts⟩ (c_X9_setT l G hG I q7 x1 3 (q7 1 1082) hq8) (cwV 3 hts gX9_begins_X9_setT rfl rfl rfl (by decide +kernel) ⟨Nat.le_of_ble_eq_true rfl, Nat.le_of_ble_eq_true rfl⟩) hK hP zkL_359 (by decide) rfl rfl hl.1 rfl (Nat.le_of_ble_eq_true rfl) dX9_begins_80 ⟨Nat.zero_le _, Nat.zero_le _⟩) hS (fun H locs hP hS => ?_)
  obtain rfl := Option.some.inj hf
  exact x_vret hx hb hr hlocks hK hP hS dX9_begins_83
set_option maxRecDepth 100000 in
set_option maxHeartbeats 4000000 in
theorem c_X9_blames (l : Launch) (G : zGT) (hG : zOK G) (I J : zM) (x1 : Int32) {r : zM} (hf : f_X9_blames J x1 = some r) : Met l yX9_blames wsX9_blames (zrm 1 22) (va_Pc [.ref (G.2.1 359), .int x1] (zS G I J)) (zQv G I r) 0 0 (zA G) := by
  refine zMet (cc := cX9_blames) (n := 9) (ret := none) (by decide) rfl (Nat.le_of_ble_eq_true rfl) ?_
  intro p e s m args below meth c H locs ls F hK hP hS hl
  obtain ⟨hx, hb, hr, hml, hts, hown, hlocks⟩ := F
  have hown : s.vm.findClass RX9 = some m.cls := hown
  have hl : lv_has ls 9 [(0, .ref (G.2.1 359)), (1, .int x1)] := hl
  have hi9 : ∀ w ∈ wsX90, w ∈ wsX9_blames := fun _ h => List.mem_cons_of_mem _ (List.mem_append_right _ h)
  have L104 : ∀ (M : zM) (y4 : Int32) (y5 : Int32) (y6 : Int32) (K : Int32 → Option (zM)) (hKK : ∀ (z7 : Int32) (H : Heap) (locs : List Loc) (ls : Array Slot), K z7 = some r → va_P G.1 vwCl (zW G I M) H → va_S (zA G) s.heap H locs → lv_has ls 9 [(0, .ref (G.2.1 359)), (1, .int x1), (4, .int y4), (5, .int y5), (6, .int y6), (7, .int z7)] → W p l e (zrm 1 22) s m args below meth c H locs 0 0 (MQ below (zQv G I r) args s 0 0 (zA G)) (F0 m 141 ls [])) (n : Nat) (y7 : Int32) (y8 : Int32) (H : Heap) (locs : List Loc) (ls : Array Slot), f_X9_blames_l104 M x1 y4 y5 y6 K n y7 y8 = some r → va_P G.1 vwCl (zW G I M) H → va_S (zA G) s.heap H locs → lv_has ls 9 [(0, .ref (G.2.1 359)), (1, .int x1), (4, .int y4), (5, .int y5), (6, .int y6), (7, .int y7), (8, .int y8)] → W p l e (zrm 1 22) s m args below meth c H locs 0 0 (MQ below (zQv G I r) args s 0 0 (zA G)) (F0 m 104 ls []) := by
    intro M y4 y5 y6 K hKK n
    induction n with
    | zero =>
      intro y7 y8 H locs ls hf
      rw [f_X9_blames_l104] at hf
      cases hf
    | succ n ih =>
      intro y7 y8 H locs ls hf hP hS hl
      rw [f_X9_blames_l104] at hf
      refine lv_iload hx hb dX9_blames_104 (lv_at hl 6 rfl) ?_
      refine lv_aload_n hx hb dX9_blames_106 rfl (lv_at hl 0 rfl) ?_
      refine x_get (j := 6) (v := .int (M 0 6)) hx hb hts hi9 hown hK hP zkL_359 rfl (by decide) (hts (.fieldLink RX9 139 "LeaseOfficeModel" "blamedMany" "I") (by decide +kernel)) rfl (by decide) dX9_blames_107 ?_
      refine lv_icmp_ge (tgt := 141) hx hb dX9_blames_110 (by decide) (fun c14 => ?_) (fun c14 => ?_)
      · have hf := zif_t c14 hf
        exact hKK y7 H locs ls hf hP hS (lv_sub hl [0, 1, 2, 3, 4, 5] rfl)
      · have hf := zif_f c14 hf
        refine lv_iload hx hb dX9_blames_113 (lv_at hl 5 rfl) ?_
        refine lv_aload_n hx hb dX9_blames_115 rfl (lv_at hl 0 rfl) ?_
        refine x_get (j := 5) (v := .ref (G.2.1 364)) hx hb hts hi9 hown hK hP zkL_359 rfl (by decide) (hts (.fieldLink RX9 22 "LeaseOfficeModel" "blamed" "[I") (by decide +kernel)) rfl (by decide) dX9_blames_116 ?_
        refine lv_iload hx hb dX9_blames_119 (lv_at hl 6 rfl) ?_
        obtain ⟨h15, hf⟩ := zck_e hf
        refine x_iald hx hb hK hP (zK_lt zkL_364 (by decide)) (zE_15 (j := 5) zkL_364 zlL_364 rfl) (zin_e h15) dX9_blames_121 ?_
        refine lv_iload hx hb dX9_blames_122 (lv_at hl 4 rfl) ?_
        refine lv_icmp_eq (tgt := 131) hx hb dX9_blames_124 (by decide) (fun c16 => ?_) (fun c16 => ?_)
        · have hf := zif_t c16 hf
          refine lv_iconst (v := 0) hx hb dX9_blames_131 (by decide) ?_
          refine lv_iand hx hb dX9_blames_132 ?_
          obtain ⟨w17, ew17, hf⟩ := zlet_e hf
          refine z_topi ew17 ?_
          refine lv_istore (lv' := [(7, .int w17), (0, .ref (G.2.1 359)), (1, .int x1), (4, .int y4), (5, .int y5), (6, .int y6), (8, .int y8)]) hx hb dX9_blames_133 hl (by decide) rfl (fun ls hl => ?_)
          refine lv_iinc (v := (y8 + 1)) (lv' := [(8, .int (y8 + 1)), (7, .int w17), (0, .ref (G.2.1 359)), (1, .int x1), (4, .int y4), (5, .int y5), (6, .int y6)]) hx hb dX9_blames_135 hl (k := 6) rfl rfl (by decide) rfl (fun ls hl => ?_)
          refine lv_goto (tgt := 104) hx hb dX9_blames_138 (by decide) ?_
          exact ih w17 (y8 + 1) H locs ls hf hP hS (lv_sub hl [2, 3, 4, 5, 6, 1, 0] rfl)
        · have hf := zif_f c16 hf
          refine lv_iconst (v := 1) hx hb dX9_blames_127 (by decide) ?_
          refine lv_goto (tgt := 132) hx hb dX9_blames_128 (by decide) ?_
          refine lv_iand hx hb dX9_blames_132 ?_
          obtain ⟨w18, ew18, hf⟩ := zlet_e hf
          refine z_topi ew18 ?_
          refine lv_istore (lv' := [(7, .int w18), (0, .ref (G.2.1 359)), (1, .int x1), (4, .int y4), (5, .int y5), (6, .int y6), (8, .int y8)]) hx hb dX9_blames_133 hl (by decide) rfl (fun ls hl => ?_)
          refine lv_iinc (v := (y8 + 1)) (lv' := [(8, .int (y8 + 1)), (7, .int w18), (0, .ref (G.2.1 359)), (1, .int x1), (4, .int y4), (5, .int y5), (6, .int y6)]) hx hb dX9_blames_135 hl (k := 6) rfl rfl (by decide) rfl (fun ls hl => ?_)
          refine lv_goto (tgt := 104) hx hb dX9_blames_138 (by decide) ?_
          exact ih w18 (y8 + 1) H locs ls hf hP hS (lv_sub hl [2, 3, 4, 5, 6, 1, 0] rfl)
  have L69 : ∀ (y4 : Int32) (n : Nat) (M : zM) (y5 : Int32) (H : Heap) (locs : List Loc) (ls : Array Slot), f_X9_blames_l69 x1 y4 n M y5 = some r → va_P G.1 vwCl (zW G I M) H → va_S (zA G) s.heap H locs → lv_has ls 9 [(0, .ref (G.2.1 359)), (1, .int x1), (4, .int y4), (5, .int y5)] → W p l e (zrm 1 22) s m args below meth c H locs 0 0 (MQ below (zQv G I r) args s 0 0 (zA G)) (F0 m 69 ls []) := by
    intro y4 n
    induction n with
    | zero =>
      intro M y5 H locs ls hf
      rw [f_X9_blames_l69] at hf
      cases hf
    | succ n ih =>
      intro M y5 H locs ls hf hP hS hl
      rw [f_X9_blames_l69] at hf
      refine lv_iload hx hb dX9_blames_69 (lv_at hl 3 rfl) ?_
      refine lv_aload_n hx hb dX9_blames_71 rfl (lv_at hl 0 rfl) ?_
      refine lv_iload_n hx hb dX9_blames_72 rfl (lv_at hl 1 rfl) ?_
      refine lv_bipush (v := 7) hx hb dX9_blames_73 (by decide) ?_
      obtain ⟨q11, hq11, hf⟩ := zb_e hf
      refine x_calli (x_runV (As := [.int x1, .int 7]) (rest := [.int y5]) ⟨hx, hb, hml, hown, hts⟩ (c_X9_t l G hG I M x1 7 hq11) (cwV 2 hts gX9_blames_X9_t rfl rfl rfl (by decide +kernel) ⟨Nat.le_of_ble_eq_true rfl, Nat.le_of_ble_eq_true rfl⟩) hK hP zkL_359 (by decide) rfl rfl hl.1 rfl (Nat.le_of_ble_eq_true rfl) dX9_blames_75 ⟨Nat.zero_le _, Nat.zero_le _⟩) hS (fun H locs hP hS => ?_)
      refine lv_icmp_ge (tgt := 170) hx hb dX9_blames_78 (by decide) (fun c12 => ?_) (fun c12 => ?_)
      · have hf := zif_t c12 hf
        obtain rfl := Option.some.inj hf
        exact x_vret hx hb hr hlocks hK hP hS dX9_blames_170
      · have hf := zif_f c12 hf
        refine lv_aload_n hx hb dX9_blames_81 rfl (lv_at hl 0 rfl) ?_
        refine lv_iload_n hx hb dX9_blames_82 rfl (lv_at hl 1 rfl) ?_
        refine lv_bipush (v := 8) hx hb dX9_blames_83 (by decide) ?_
        refine lv_iconst (v := 3) hx hb dX9_blames_85 (by decide) ?_
        refine lv_iload hx hb dX9_blames_86 (lv_at hl 3 rfl) ?_
        refine lv_iload hx hb dX9_blames_88 (lv_at hl 2 rfl) ?_
        refine lv_isub hx hb dX9_blames_90 ?_
        refine lv_imul hx hb dX9_blames_91 ?_
        refine lv_iadd hx hb dX9_blames_92 ?_
        obtain ⟨q13, hq13, hf⟩ := zb_e hf
        refine x_calli (x_runV (As := [.int x1, .int (8 + (3 * (y5 - y4)))]) (rest := []) ⟨hx, hb, hml, hown, hts⟩ (c_X9_t l G hG I M x1 (8 + (3 * (y5 - y4))) hq13) (cwV 2 hts gX9_blames_X9_t rfl rfl rfl (by decide +kernel) ⟨Nat.le_of_ble_eq_true rfl, Nat.le_of_ble_eq_true rfl⟩) hK hP zkL_359 (by decide) rfl rfl hl.1 rfl (Nat.le_of_ble_eq_true rfl) dX9_blames_93 ⟨Nat.zero_le _, Nat.zero_le _⟩) hS (fun H locs hP hS => ?_)
        refine lv_istore (lv' := [(6, .int q13), (0, .ref (G.2.1 359)), (1, .int x1), (4, .int y4), (5, .int y5)]) hx hb dX9_blames_96 hl (by decide) rfl (fun ls hl => ?_)
        refine lv_iconst (v := 1) hx hb dX9_blames_98 (by decide) ?_
        refine lv_istore (lv' := [(7, .int 1), (6, .int q13), (0, .ref (G.2.1 359)), (1, .int x1), (4, .int y4), (5, .int y5)]) hx hb dX9_blames_99 hl (by decide) rfl (fun ls hl => ?_)
        refine lv_iconst (v := 0) hx hb dX9_blames_101 (by decide) ?_
        refine lv_istore (lv' := [(8, .int 0), (7, .int 1), (6, .int q13), (0, .ref (G.2.1 359)), (1, .int x1), (4, .int y4), (5, .int y5)]) hx hb dX9_blames_102 hl (by decide) rfl (fun ls hl => ?_)
        refine L104 M y4 y5 q13 _ (fun z19 H locs ls hf hP hS hl => ?_) zFu 1 0 H locs ls hf hP hS (lv_sub hl [3, 4, 5, 6, 2, 1, 0] rfl)
        refine lv_iload hx hb dX9_blames_141 (lv_at hl 5 rfl) ?_
        refine lv_if_eq (tgt := 164) hx hb dX9_blames_143 (by decide) (fun c20 => ?_) (fun c20 => ?_)
        · have hf := zif_t c20 hf
          refine lv_iinc (v := (y5 + 1)) (lv' := [(5, .int (y5 + 1)), (0, .ref (G.2.1 359)), (1, .int x1), (4, .int y4), (6, .int q13), (7, .int z19)]) hx hb dX9_blames_164 hl (k := 3) rfl rfl (by decide) rfl (fun ls hl => ?_)
          refine lv_goto (tgt := 69) hx hb dX9_blames_167 (by decide) ?_
          exact ih M (y5 + 1) H locs ls hf hP hS (lv_sub hl [1, 2, 3, 0] rfl)
        · have hf := zif_f c20 hf
          refine lv_aload_n hx hb dX9_blames_146 rfl (lv_at hl 0 rfl) ?_
          refine x_get (j := 5) (v := .ref (G.2.1 364)) hx hb hts hi9 hown hK hP zkL_359 rfl (by decide) (hts (.fieldLink RX9 22 "LeaseOfficeModel" "blamed" "[I") (by decide +kernel)) rfl (by decide) dX9_blames_147 ?_
          refine lv_aload_n hx hb dX9_blames_150 rfl (lv_at hl 0 rfl) ?_
          refine lv_dup hx hb dX9_blames_151 rfl ?_
          refine x_get (j := 6) (v := .int (M 0 6)) hx hb hts hi9 hown hK hP zkL_359 rfl (by decide) (hts (.fieldLink RX9 139 "LeaseOfficeModel" "blamedMany" "I") (by decide +kernel)) rfl (by decide) dX9_blames_152 ?_
          refine lv_dup_x1 hx hb dX9_blames_155 rfl rfl ?_
          refine lv_iconst (v := 1) hx hb dX9_blames_156 (by decide) ?_
          refine lv_iadd hx hb dX9_blames_157 ?_
          obtain ⟨M21, eM21, hf⟩ := zlet_e hf
          refine x_put (j := 6) (I2 := I) (J2 := M21) (ty0 := tyX9) (ty := .int) hx hb hts hi9 hown hG hK hP hS zkL_359 rfl tyX9_ok nmX9 (by decide) (hts (.fieldLink RX9 139 "LeaseOfficeModel" "blamedMany" "I") (by decide +kernel)) rfl (by decide +kernel) rfl rfl (Nat.le_of_ble_eq_true rfl) (by rw [eM21]; exact zs_9_6 _) (by rw [eM21]; exact zo_M (k := 0)) (by decide) dX9_blames_158 (fun H locs hP hS => ?_)
          refine lv_iload hx hb dX9_blames_161 (lv_at hl 4 rfl) ?_
          obtain ⟨h23, hf⟩ := zck_e hf
          obtain ⟨M22, eM22, hf⟩ := zlet_e hf
          refine x_iastM (j := 5) (a := (M 0 6).toNatClampNeg) eM22 rfl hx hb hG hK hP hS zkL_364 zlL_364 (zin_e h23) dX9_blames_163 (fun H locs hP hS => ?_)
          refine lv_iinc (v := (y5 + 1)) (lv' := [(5, .int (y5 + 1)), (0, .ref (G.2.1 359)), (1, .int x1), (4, .int y4), (6, .int q13), (7, .int z19)]) hx hb dX9_blames_164 hl (k := 3) rfl rfl (by decide) rfl (fun ls hl => ?_)
          refine lv_goto (tgt := 69) hx hb dX9_blames_167 (by decide) ?_
          exact ih M22 (y5 + 1) H locs ls hf hP hS (lv_sub hl [1, 2, 3, 0] rfl)
  have J67 : ∀ (M : zM) (y4 : Int32) (s0 : Int32) (H : Heap) (locs : List Loc) (ls : Array Slot), f_X9_blames_j67 M x1 y4 s0 = some r → va_P G.1 vwCl (zW G I M) H → va_S (zA G) s.heap H locs → lv_has ls 9 [(0, .ref (G.2.1 359)), (1, .int x1), (4, .int y4)] → W p l e (zrm 1 22) s m args below meth c H locs 0 0 (MQ below (zQv G I r) args s 0 0 (zA G)) (F0 m 67 ls [.int s0]) := by
    intro M y4 s0 H locs ls hf hP hS hl
    unfold f_X9_blames_j67 at hf
    refine lv_istore (lv' := [(5, .int s0), (0, .ref (G.2.1 359)), (1, .int x1), (4, .int y4)]) hx hb dX9_blames_67 hl (by decide) rfl (fun ls hl => ?_)
    exact L69 y4 zFu M s0 H locs ls hf hP hS (lv_sub hl [1, 2, 3, 0] rfl)
  unfold f_X9_blames at hf
  refine lv_bipush (v := 33) hx hb dX9_blames_0 (by decide) ?_
  refine lv_iconst (v := 4) hx hb dX9_blames_2 (by decide) ?_
  refine lv_aload_n hx hb dX9_blames_3 rfl (lv_at hl 0 rfl) ?_
  refine lv_iload_n hx hb dX9_blames_4 rfl (lv_at hl 1 rfl) ?_
  refine lv_bipush (v := 32) hx hb dX9_blames_5 (by decide) ?_
  obtain ⟨q1, hq1, hf⟩ := zb_e hf
  refine x_calli (x_runV (As := [.int x1, .int 32]) (rest := [.int 4, .int 33]) ⟨hx, hb, hml, hown, hts⟩ (c_X9_t l G hG I J x1 32 hq1) (cwV 2 hts gX9_blames_X9_t rfl rfl rfl (by decide +kernel) ⟨Nat.le_of_ble_eq_true rfl, Nat.le_of_ble_eq_true rfl⟩) hK hP zkL_359 (by decide) rfl rfl hl.1 rfl (Nat.le_of_ble_eq_true rfl) dX9_blames_7 ⟨Nat.zero_le _, Nat.zero_le _⟩) hS (fun H locs hP hS => ?_)
  refine lv_iconst (v := 1) hx hb dX9_blames_10 (by decide) ?_
  refine lv_isub hx hb dX9_blames_11 ?_
  refine lv_imul hx hb dX9_blames_12 ?_
  refine lv_iadd hx hb dX9_blames_13 ?_
  obtain ⟨w2, ew2, hf⟩ := zlet_e hf
  refine z_topi ew2 ?_
  refine lv_istore_n (lv' := [(2, .int w2), (0, .ref (G.2.1 359)), (1, .int x1)]) hx hb dX9_blames_14 rfl hl (by decide) rfl (fun ls hl => ?_)
  refine lv_aload_n hx hb dX9_blames_15 rfl (lv_at hl 1 rfl) ?_
  refine lv_iload_n hx hb dX9_blames_16 rfl (lv_at hl 2 rfl) ?_
  refine lv_iload_n hx hb dX9_blames_17 rfl (lv_at hl 0 rfl) ?_
  refine lv_iconst (v := 2) hx hb dX9_blames_18 (by decide) ?_
  refine lv_iadd hx hb dX9_blames_19 ?_
  obtain ⟨q3, hq3, hf⟩ := zb_e hf
  refine x_calli (x_runV (As := [.int x1, .int (w2 + 2)]) (rest := []) ⟨hx, hb, hml, hown, hts⟩ (c_X9_t l G hG I J x1 (w2 + 2) hq3) (cwV 2 hts gX9_blames_X9_t rfl rfl rfl (by decide +kernel) ⟨Nat.le_of_ble_eq_true rfl, Nat.le_of_ble_eq_true rfl⟩) hK hP zkL_359 (by decide) rfl rfl hl.1 rfl (Nat.le_of_ble_eq_true rfl) dX9_blames_20 ⟨Nat.zero_le _, Nat.zero_le _⟩) hS (fun H locs hP hS => ?_)
  refine lv_aload_n hx hb dX9_blames_23 rfl (lv_at hl 1 rfl) ?_
  refine lv_iload_n hx hb dX9_blames_24 rfl (lv_at hl 2 rfl) ?_
  refine lv_iload_n hx hb dX9_blames_25 rfl (lv_at hl 0 rfl) ?_
  refine lv_iconst (v := 3) hx hb dX9_blames_26 (by decide) ?_
  refine lv_iadd hx hb dX9_blames_27 ?_
  obtain ⟨q4, hq4, hf⟩ := zb_e hf
  refine x_calli (x_runV (As := [.int x1, .int (w2 + 3)]) (rest := [.int q3]) ⟨hx, hb, hml, hown, hts⟩ (c_X9_t l G hG I J x1 (w2 + 3) hq4) (cwV 2 hts gX9_blames_X9_t rfl rfl rfl (by decide +kernel) ⟨Nat.le_of_ble_eq_true rfl, Nat.le_of_ble_eq_true rfl⟩) hK hP zkL_359 (by decide) rfl rfl hl.1 rfl (Nat.le_of_ble_eq_true rfl) dX9_blames_28 ⟨Nat.zero_le _, Nat.zero_le _⟩) hS (fun H locs hP hS => ?_)
  refine lv_isub hx hb dX9_blames_31 ?_
  obtain ⟨w5, ew5, hf⟩ := zlet_e hf
  refine z_topi ew5 ?_
  refine lv_istore_n (lv' := [(3, .int w5), (2, .int w2), (0, .ref (G.2.1 359)), (1, .int x1)]) hx hb dX9_blames_32 rfl hl (by decide) rfl (fun ls hl => ?_)
  refine lv_aload_n hx hb dX9_blames_33 rfl (lv_at hl 2 rfl) ?_
  refine lv_iload_n hx hb dX9_blames_34 rfl (lv_at hl 3 rfl) ?_
  refine lv_bipush (v := 7) hx hb dX9_blames_35 (by decide) ?_
  obtain ⟨q6, hq6, hf⟩ := zb_e hf
  refine x_calli (x_runV (As := [.int x1, .int 7]) (rest := []) ⟨hx, hb, hml, hown, hts⟩ (c_X9_t l G hG I J x1 7 hq6) (cwV 2 hts gX9_blames_X9_t rfl rfl rfl (by decide +kernel) ⟨Nat.le_of_ble_eq_true rfl, Nat.le_of_ble_eq_true rfl⟩) hK hP zkL_359 (by decide) rfl rfl hl.1 rfl (Nat.le_of_ble_eq_true rfl) dX9_blames_37 ⟨Nat.zero_le _, Nat.zero_le _⟩) hS (fun H locs hP hS => ?_)
  refine lv_aload_n hx hb dX9_blames_40 rfl (lv_at hl 2 rfl) ?_
  refine lv_iload_n hx hb dX9_blames_41 rfl (lv_at hl 3 rfl) ?_
  refine lv_bipush (v := 6) hx hb dX9_blames_42 (by decide) ?_
  obtain ⟨q7, hq7, hf⟩ := zb_e hf
  refine x_calli (x_runV (As := [.int x1, .int 6]) (rest := [.int q6]) ⟨hx, hb, hml, hown, hts⟩ (c_X9_t l G hG I J x1 6 hq7) (cwV 2 hts gX9_blames_X9_t rfl rfl rfl (by decide +kernel) ⟨Nat.le_of_ble_eq_true rfl, Nat.le_of_ble_eq_true rfl⟩) hK hP zkL_359 (by decide) rfl rfl hl.1 rfl (Nat.le_of_ble_eq_true rfl) dX9_blames_44 ⟨Nat.zero_le _, Nat.zero_le _⟩) hS (fun H locs hP hS => ?_)
  refine lv_isub hx hb dX9_blames_47 ?_
  obtain ⟨w8, ew8, hf⟩ := zlet_e hf
  refine z_topi ew8 ?_
  refine lv_istore (lv' := [(4, .int w8), (3, .int w5), (2, .int w2), (0, .ref (G.2.1 359)), (1, .int x1)]) hx hb dX9_blames_48 hl (by decide) rfl (fun ls hl => ?_)
  refine lv_aload_n hx hb dX9_blames_50 rfl (lv_at hl 3 rfl) ?_
  refine lv_iconst (v := 0) hx hb dX9_blames_51 (by decide) ?_
  obtain ⟨M9, eM9, hf⟩ := zlet_e hf
  refine x_put (j := 6) (I2 := I) (J2 := M9) (ty0 := tyX9) (ty := .int) hx hb hts hi9 hown hG hK hP hS zkL_359 rfl tyX9_ok nmX9 (by decide) (hts (.fieldLink RX9 139 "LeaseOfficeModel" "blamedMany" "I") (by decide +kernel)) rfl (by decide +kernel) rfl rfl (Nat.le_of_ble_eq_true rfl) (by rw [eM9]; exact zs_9_6 _) (by rw [eM9]; exact zo_M (k := 0)) (by decide) dX9_blames_52 (fun H locs hP hS => ?_)
  refine lv_iload_n hx hb dX9_blames_55 rfl (lv_at hl 1 rfl) ?_
  refine lv_iload hx hb dX9_blames_56 (lv_at hl 0 rfl) ?_
  refine lv_icmp_ge (tgt := 66) hx hb dX9_blames_58 (by decide) (fun c10 => ?_) (fun c10 => ?_)
  · have hf := zif_t c10 hf
    refine lv_iload_n hx hb dX9_blames_66 rfl (lv_at hl 1 rfl) ?_
    exact J67 M9 w8 w5 H locs ls hf hP hS (lv_sub hl [3, 4, 0] rfl)
  · have hf := zif_f c10 hf
    refine lv_iload hx hb dX9_blames_61 (lv_at hl 0 rfl) ?_
    refine lv_goto (tgt := 67) hx hb dX9_blames_63 (by decide) ?_
    exact J67 M9 w8 w8 H locs ls hf hP hS (lv_sub hl [3, 4, 0] rfl)
set_option maxRecDepth 100000 in
set_option maxHeartbeats 4000000 in
theorem c_X9_c (l : Launch) (G : zGT) (hG : zOK G) (I J : zM) (x1 : Int32) (x2 : Int32) (x3 : Int32) {r : Int32} (hf : f_X9_c J x1 x2 x3 = some r) : Met l yX9_c wsX9_c (zrm 1 22) (va_Pc [.ref (G.2.1 359), .int x1, .int x2, .int x3] (zS G I J)) (zQi G r I J) 0 0 (zA G) := by
  refine zMet (cc := cX9_c) (n := 4) (ret := (some .int)) (by decide) rfl (Nat.le_of_ble_eq_true rfl) ?_
  intro p e s m args below meth c H locs ls F hK hP hS hl
  obtain ⟨hx, hb, hr, hml, hts, hown, hlocks⟩ := F
  have hown : s.vm.findClass RX9 = some m.cls := hown
  have hl : lv_has ls 4 [(0, .ref (G.2.1 359)), (1, .int x1), (2, .int x2), (3, .int x3)] := hl
  unfold f_X9_c at hf
  refine lv_aload_n hx hb dX9_c_0 rfl (lv_at hl 0 rfl) ?_
  refine lv_iload_n hx hb dX9_c_1 rfl (lv_at hl 1 rfl) ?_
  refine lv_bipush (v := 58) hx hb dX9_c_2 (by decide) ?_
  refine lv_iconst (v := 4) hx hb dX9_c_4 (by decide) ?_
  refine lv_iload_n hx hb dX9_c_5 rfl (lv_at hl 2 rfl) ?_
  refine lv_imul hx hb dX9_c_6 ?_
  refine lv_iadd hx hb dX9_c_7 ?_
  refine lv_iload_n hx hb dX9_c_8 rfl (lv_at hl 3 rfl) ?_
  refine lv_iadd hx hb dX9_c_9 ?_
  obtain ⟨q1, hq1, hf⟩ := zb_e hf
  refine x_calli (x_runV (As := [.int x1, .int ((58 + (4 * x2)) + x3)]) (rest := []) ⟨hx, hb, hml, hown, hts⟩ (c_X9_t l G hG I J x1 ((58 + (4 * x2)) + x3) hq1) (cwV 2 hts gX9_c_X9_t rfl rfl rfl (by decide +kernel) ⟨Nat.le_of_ble_eq_true rfl, Nat.le_of_ble_eq_true rfl⟩) hK hP zkL_359 (by decide) rfl rfl hl.1 rfl (Nat.le_of_ble_eq_true rfl) dX9_c_10 ⟨Nat.zero_le _, Nat.zero_le _⟩) hS (fun H locs hP hS => ?_)
  obtain rfl := Option.some.inj hf
  exact x_iret hx hb hr hlocks hK hP hS dX9_c_13
set_option maxRecDepth 100000 in
set_option maxHeartbeats 4000000 in
theorem c_X9_claimOn (l : Launch) (G : zGT) (hG : zOK G) (I J : zM) (x1 : Int32) (x2 : Int32) {r : Int32} (hf : f_X9_claimOn J x1 x2 = some r) : Met l yX9_claimOn wsX9_claimOn (zrm 1 22) (va_Pc [.ref (G.2.1 359), .int x1, .int x2] (zS G I J)) (zQi G r I J) 0 0 (zA G) := by
  refine zMet (cc := cX9_claimOn) (n := 4) (ret := (some .int)) (by decide) rfl (Nat.le_of_ble_eq_true rfl) ?_
  intro p e s m args below meth c H locs ls F hK hP hS hl
  obtain ⟨hx, hb, hr, hml, hts, hown, hlocks⟩ := F
  have hown : s.vm.findClass RX9 = some m.cls := hown
  have hl : lv_has ls 4 [(0, .ref (G.2.1 359)), (1, .int x1), (2, .int x2)] := hl
  have L2 : ∀ (n : Nat) (y3 : Int32) (H : Heap) (locs : List Loc) (ls : Array Slot), f_X9_claimOn_l2 J x1 x2 n y3 = some r → va_P G.1 vwCl (zW G I J) H → va_S (zA G) s.heap H locs → lv_has ls 4 [(0, .ref (G.2.1 359)), (1, .int x1), (2, .int x2), (3, .int y3)] → W p l e (zrm 1 22) s m args below meth c H locs 0 0 (MQ below (zQi G r I J) args s 0 0 (zA G)) (F0 m 2 ls []) := by
    intro n
    induction n with
    | zero =>
      intro y3 H locs ls hf
      rw [f_X9_claimOn_l2] at hf
      cases hf
    | succ n ih =>
      intro y3 H locs ls hf hP hS hl
      rw [f_X9_claimOn_l2] at hf
      refine lv_iload_n hx hb dX9_claimOn_2 rfl (lv_at hl 3 rfl) ?_
      refine lv_aload_n hx hb dX9_claimOn_3 rfl (lv_at hl 0 rfl) ?_
      refine lv_iload_n hx hb dX9_claimOn_4 rfl (lv_at hl 1 rfl) ?_
      refine lv_bipush (v := 57) hx hb dX9_claimOn_5 (by decide) ?_
      obtain ⟨q1, hq1, hf⟩ := zb_e hf
      refine x_calli (x_runV (As := [.int x1, .int 57]) (rest := [.int y3]) ⟨hx, hb, hml, hown, hts⟩ (c_X9_t l G hG I J x1 57 hq1) (cwV 2 hts gX9_claimOn_X9_t rfl rfl rfl (by decide +kernel) ⟨Nat.le_of_ble_eq_true rfl, Nat.le_of_ble_eq_true rfl⟩) hK hP zkL_359 (by decide) rfl rfl hl.1 rfl (Nat.le_of_ble_eq_true rfl) dX9_claimOn_7 ⟨Nat.zero_le _, Nat.zero_le _⟩) hS (fun H locs hP hS => ?_)
      refine lv_icmp_ge (tgt := 36) hx hb dX9_claimOn_10 (by decide) (fun c2 => ?_) (fun c2 => ?_)
      · have hf := zif_t c2 hf
        refine lv_bipush (v := (-2)) hx hb dX9_claimOn_36 (by decide) ?_
        obtain rfl := Option.some.inj hf
        exact x_iret hx hb hr hlocks hK hP hS dX9_claimOn_38
      · have hf := zif_f c2 hf
        refine lv_aload_n hx hb dX9_claimOn_13 rfl (lv_at hl 0 rfl) ?_
        refine lv_iload_n hx hb dX9_claimOn_14 rfl (lv_at hl 1 rfl) ?_
        refine lv_bipush (v := 58) hx hb dX9_claimOn_15 (by decide) ?_
        refine lv_iconst (v := 4) hx hb dX9_claimOn_17 (by decide) ?_
        refine lv_iload_n hx hb dX9_claimOn_18 rfl (lv_at hl 3 rfl) ?_
        refine lv_imul hx hb dX9_claimOn_19 ?_
        refine lv_iadd hx hb dX9_claimOn_20 ?_
        obtain ⟨q3, hq3, hf⟩ := zb_e hf
        refine x_calli (x_runV (As := [.int x1, .int (58 + (4 * y3))]) (rest := []) ⟨hx, hb, hml, hown, hts⟩ (c_X9_t l G hG I J x1 (58 + (4 * y3)) hq3) (cwV 2 hts gX9_claimOn_X9_t rfl rfl rfl (by decide +kernel) ⟨Nat.le_of_ble_eq_true rfl, Nat.le_of_ble_eq_true rfl⟩) hK hP zkL_359 (by decide) rfl rfl hl.1 rfl (Nat.le_of_ble_eq_true rfl) dX9_claimOn_21 ⟨Nat.zero_le _, Nat.zero_le _⟩) hS (fun H locs hP hS => ?_)
        refine lv_iload_n hx hb dX9_claimOn_24 rfl (lv_at hl 2 rfl) ?_
        refine lv_icmp_ne (tgt := 30) hx hb dX9_claimOn_25 (by decide) (fun c4 => ?_) (fun c4 => ?_)
        · have hf := zif_f c4 hf
          refine lv_iinc (v := (y3 + 1)) (lv' := [(3, .int (y3 + 1)), (0, .ref (G.2.1 359)), (1, .int x1), (2, .int x2)]) hx hb dX9_claimOn_30 hl (k := 3) rfl rfl (by decide) rfl (fun ls hl => ?_)
          refine lv_goto (tgt := 2) hx hb dX9_claimOn_33 (by decide) ?_
          exact ih (y3 + 1) H locs ls hf hP hS (lv_sub hl [1, 2, 3, 0] rfl)
        · have hf := zif_t c4 hf
          refine lv_iload_n hx hb dX9_claimOn_28 rfl (lv_at hl 3 rfl) ?_
          obtain rfl := Option.some.inj hf
          exact x_iret hx hb hr hlocks hK hP hS dX9_claimOn_29
  unfold f_X9_claimOn at hf
  refine lv_iconst (v := 0) hx hb dX9_claimOn_0 (by decide) ?_
  refine lv_istore_n (lv' := [(3, .int 0), (0, .ref (G.2.1 359)), (1, .int x1), (2, .int x2)]) hx hb dX9_claimOn_1 rfl hl (by decide) rfl (fun ls hl => ?_)
  exact L2 zFu 0 H locs ls hf hP hS (lv_sub hl [1, 2, 3, 0] rfl)
set_option maxRecDepth 100000 in
set_option maxHeartbeats 4000000 in
theorem c_X9_goesAhead (l : Launch) (G : zGT) (hG : zOK G) (I J : zM) (x1 : Int32) (x2 : Int32) (x3 : Int32) {r : Int32} (hf : f_X9_goesAhead J x1 x2 x3 = some r) : Met l yX9_goesAhead wsX9_goesAhead (zrm 2 45) (va_Pc [.ref (G.2.1 359), .int x1, .int x2, .int x3] (zS G I J)) (zQi G r I J) 0 0 (zA G) := by
  refine zMet (cc := cX9_goesAhead) (n := 4) (ret := (some .boolean)) (by decide) rfl (Nat.le_of_ble_eq_true rfl) ?_
  intro p e s m args below meth c H locs ls F hK hP hS hl
  obtain ⟨hx, hb, hr, hml, hts, hown, hlocks⟩ := F
  have hown : s.vm.findClass RX9 = some m.cls := hown
  have hl : lv_has ls 4 [(0, .ref (G.2.1 359)), (1, .int x1), (2, .int x2), (3, .int x3)] := hl
  unfold f_X9_goesAhead at hf
  refine lv_aload_n hx hb dX9_goesAhead_0 rfl (lv_at hl 0 rfl) ?_
  refine lv_iload_n hx hb dX9_goesAhead_1 rfl (lv_at hl 1 rfl) ?_
  refine lv_iload_n hx hb dX9_goesAhead_2 rfl (lv_at hl 2 rfl) ?_
  refine lv_iconst (v := 1) hx hb dX9_goesAhead_3 (by decide) ?_
  obtain ⟨q1, hq1, hf⟩ := zb_e hf
  refine x_calli (x_runV (As := [.int x1, .int x2, .int 1]) (rest := []) ⟨hx, hb, hml, hown, hts⟩ (c_X9_c l G hG I J x1 x2 1 hq1) (cwV 3 hts gX9_goesAhead_X9_c rfl rfl rfl (by decide +kernel) ⟨Nat.le_of_ble_eq_true rfl, Nat.le_of_ble_eq_true rfl⟩) hK hP zkL_359 (by decide) rfl rfl hl.1 rfl (Nat.le_of_ble_eq_true rfl) dX9_goesAhead_4 ⟨Nat.zero_le _, Nat.zero_le _⟩) hS (fun H locs hP hS => ?_)
  refine lv_aload_n hx hb dX9_goesAhead_7 rfl (lv_at hl 0 rfl) ?_
  refine lv_iload_n hx hb dX9_goesAhead_8 rfl (lv_at hl 1 rfl) ?_
  refine lv_iload_n hx hb dX9_goesAhead_9 rfl (lv_at hl 3 rfl) ?_
  refine lv_iconst (v := 1) hx hb dX9_goesAhead_10 (by decide) ?_
  obtain ⟨q2, hq2, hf⟩ := zb_e hf
  refine x_calli (x_runV (As := [.int x1, .int x3, .int 1]) (rest := [.int q1]) ⟨hx, hb, hml, hown, hts⟩ (c_X9_c l G hG I J x1 x3 1 hq2) (cwV 3 hts gX9_goesAhead_X9_c rfl rfl rfl (by decide +kernel) ⟨Nat.le_of_ble_eq_true rfl, Nat.le_of_ble_eq_true rfl⟩) hK hP zkL_359 (by decide) rfl rfl hl.1 rfl (Nat.le_of_ble_eq_true rfl) dX9_goesAhead_11 ⟨Nat.zero_le _, Nat.zero_le _⟩) hS (fun H locs hP hS => ?_)
  refine lv_icmp_eq (tgt := 40) hx hb dX9_goesAhead_14 (by decide) (fun c3 => ?_) (fun c3 => ?_)
  · have hf := zif_t c3 hf
    refine lv_aload_n hx hb dX9_goesAhead_40 rfl (lv_at hl 0 rfl) ?_
    refine lv_iload_n hx hb dX9_goesAhead_41 rfl (lv_at hl 1 rfl) ?_
    refine lv_iload_n hx hb dX9_goesAhead_42 rfl (lv_at hl 2 rfl) ?_
    refine lv_iconst (v := 3) hx hb dX9_goesAhead_43 (by decide) ?_
    obtain ⟨q4, hq4, hf⟩ := zb_e hf
    refine x_calli (x_runV (As := [.int x1, .int x2, .int 3]) (rest := []) ⟨hx, hb, hml, hown, hts⟩ (c_X9_c l G hG I J x1 x2 3 hq4) (cwV 3 hts gX9_goesAhead_X9_c rfl rfl rfl (by decide +kernel) ⟨Nat.le_of_ble_eq_true rfl, Nat.le_of_ble_eq_true rfl⟩) hK hP zkL_359 (by decide) rfl rfl hl.1 rfl (Nat.le_of_ble_eq_true rfl) dX9_goesAhead_44 ⟨Nat.zero_le _, Nat.zero_le _⟩) hS (fun H locs hP hS => ?_)
    refine lv_aload_n hx hb dX9_goesAhead_47 rfl (lv_at hl 0 rfl) ?_
    refine lv_iload_n hx hb dX9_goesAhead_48 rfl (lv_at hl 1 rfl) ?_
    refine lv_iload_n hx hb dX9_goesAhead_49 rfl (lv_at hl 3 rfl) ?_
    refine lv_iconst (v := 3) hx hb dX9_goesAhead_50 (by decide) ?_
    obtain ⟨q5, hq5, hf⟩ := zb_e hf
    refine x_calli (x_runV (As := [.int x1, .int x3, .int 3]) (rest := [.int q4]) ⟨hx, hb, hml, hown, hts⟩ (c_X9_c l G hG I J x1 x3 3 hq5) (cwV 3 hts gX9_goesAhead_X9_c rfl rfl rfl (by decide +kernel) ⟨Nat.le_of_ble_eq_true rfl, Nat.le_of_ble_eq_true rfl⟩) hK hP zkL_359 (by decide) rfl rfl hl.1 rfl (Nat.le_of_ble_eq_true rfl) dX9_goesAhead_51 ⟨Nat.zero_le _, Nat.zero_le _⟩) hS (fun H locs hP hS => ?_)
    refine lv_icmp_eq (tgt := 82) hx hb dX9_goesAhead_54 (by decide) (fun c6 => ?_) (fun c6 => ?_)
    · have hf := zif_t c6 hf
      refine lv_aload_n hx hb dX9_goesAhead_82 rfl (lv_at hl 0 rfl) ?_
      refine lv_iload_n hx hb dX9_goesAhead_83 rfl (lv_at hl 1 rfl) ?_
      refine lv_iload_n hx hb dX9_goesAhead_84 rfl (lv_at hl 2 rfl) ?_
      refine lv_iconst (v := 0) hx hb dX9_goesAhead_85 (by decide) ?_
      obtain ⟨q7, hq7, hf⟩ := zb_e hf
      refine x_calli (x_runV (As := [.int x1, .int x2, .int 0]) (rest := []) ⟨hx, hb, hml, hown, hts⟩ (c_X9_c l G hG I J x1 x2 0 hq7) (cwV 3 hts gX9_goesAhead_X9_c rfl rfl rfl (by decide +kernel) ⟨Nat.le_of_ble_eq_true rfl, Nat.le_of_ble_eq_true rfl⟩) hK hP zkL_359 (by decide) rfl rfl hl.1 rfl (Nat.le_of_ble_eq_true rfl) dX9_goesAhead_86 ⟨Nat.zero_le _, Nat.zero_le _⟩) hS (fun H locs hP hS => ?_)
      refine lv_aload_n hx hb dX9_goesAhead_89 rfl (lv_at hl 0 rfl) ?_
      refine lv_iload_n hx hb dX9_goesAhead_90 rfl (lv_at hl 1 rfl) ?_
      refine lv_iload_n hx hb dX9_goesAhead_91 rfl (lv_at hl 3 rfl) ?_
      refine lv_iconst (v := 0) hx hb dX9_goesAhead_92 (by decide) ?_
      obtain ⟨q8, hq8, hf⟩ := zb_e hf
      refine x_calli (x_runV (As := [.int x1, .int x3, .int 0]) (rest := [.int q7]) ⟨hx, hb, hml, hown, hts⟩ (c_X9_c l G hG I J x1 x3 0 hq8) (cwV 3 hts gX9_goesAhead_X9_c rfl rfl rfl (by decide +kernel) ⟨Nat.le_of_ble_eq_true rfl, Nat.le_of_ble_eq_true rfl⟩) hK hP zkL_359 (by decide) rfl rfl hl.1 rfl (Nat.le_of_ble_eq_true rfl) dX9_goesAhead_93 ⟨Nat.zero_le _, Nat.zero_le _⟩) hS (fun H locs hP hS => ?_)
      refine lv_icmp_ge (tgt := 103) hx hb dX9_goesAhead_96 (by decide) (fun c9 => ?_) (fun c9 => ?_)
      · have hf := zif_t c9 hf
        refine lv_iconst (v := 0) hx hb dX9_goesAhead_103 (by decide) ?_
        obtain rfl := Option.some.inj hf
        exact x_zret (v := 0) rfl hx hb hr hlocks hK hP hS dX9_goesAhead_104
      · have hf := zif_f c9 hf
        refine lv_iconst (v := 1) hx hb dX9_goesAhead_99 (by decide) ?_
        refine lv_goto (tgt := 104) hx hb dX9_goesAhead_100 (by decide) ?_
        obtain rfl := Option.some.inj hf
        exact x_zret (v := 1) rfl hx hb hr hlocks hK hP hS dX9_goesAhead_104
    · have hf := zif_f c6 hf
      refine lv_aload_n hx hb dX9_goesAhead_57 rfl (lv_at hl 0 rfl) ?_
      refine lv_iload_n hx hb dX9_goesAhead_58 rfl (lv_at hl 1 rfl) ?_
      refine lv_iload_n hx hb dX9_goesAhead_59 rfl (lv_at hl 2 rfl) ?_
      refine lv_iconst (v := 3) hx hb dX9_goesAhead_60 (by decide) ?_
      obtain ⟨q10, hq10, hf⟩ := zb_e hf
      refine x_calli (x_runV (As := [.int x1, .int x2, .int 3]) (rest := []) ⟨hx, hb, hml, hown, hts⟩ (c_X9_c l G hG I J x1 x2 3 hq10) (cwV 3 hts gX9_goesAhead_X9_c rfl rfl rfl (by decide +kernel) ⟨Nat.le_of_ble_eq_true rfl, Nat.le_of_ble_eq_true rfl⟩) hK hP zkL_359 (by decide) rfl rfl hl.1 rfl (Nat.le_of_ble_eq_true rfl) dX9_goesAhead_61 ⟨Nat.zero_le _, Nat.zero_le _⟩) hS (fun H locs hP hS => ?_)
      refine lv_aload_n hx hb dX9_goesAhead_64 rfl (lv_at hl 0 rfl) ?_
      refine lv_iload_n hx hb dX9_goesAhead_65 rfl (lv_at hl 1 rfl) ?_
      refine lv_iload_n hx hb dX9_goesAhead_66 rfl (lv_at hl 3 rfl) ?_
      refine lv_iconst (v := 3) hx hb dX9_goesAhead_67 (by decide) ?_
      obtain ⟨q11, hq11, hf⟩ := zb_e hf
      refine x_calli (x_runV (As := [.int x1, .int x3, .int 3]) (rest := [.int q10]) ⟨hx, hb, hml, hown, hts⟩ (c_X9_c l G hG I J x1 x3 3 hq11) (cwV 3 hts gX9_goesAhead_X9_c rfl rfl rfl (by decide +kernel) ⟨Nat.le_of_ble_eq_true rfl, Nat.le_of_ble_eq_true rfl⟩) hK hP zkL_359 (by decide) rfl rfl hl.1 rfl (Nat.le_of_ble_eq_true rfl) dX9_goesAhead_68 ⟨Nat.zero_le _, Nat.zero_le _⟩) hS (fun H locs hP hS => ?_)
      refine lv_icmp_ge (tgt := 78) hx hb dX9_goesAhead_71 (by decide) (fun c12 => ?_) (fun c12 => ?_)
      · have hf := zif_t c12 hf
        refine lv_iconst (v := 0) hx hb dX9_goesAhead_78 (by decide) ?_
        refine lv_goto (tgt := 104) hx hb dX9_goesAhead_79 (by decide) ?_
        obtain rfl := Option.some.inj hf
        exact x_zret (v := 0) rfl hx hb hr hlocks hK hP hS dX9_goesAhead_104
      · have hf := zif_f c12 hf
        refine lv_iconst (v := 1) hx hb dX9_goesAhead_74 (by decide) ?_
        refine lv_goto (tgt := 104) hx hb dX9_goesAhead_75 (by decide) ?_
        obtain rfl := Option.some.inj hf
        exact x_zret (v := 1) rfl hx hb hr hlocks hK hP hS dX9_goesAhead_104
  · have hf := zif_f c3 hf
    refine lv_aload_n hx hb dX9_goesAhead_17 rfl (lv_at hl 0 rfl) ?_
    refine lv_iload_n hx hb dX9_goesAhead_18 rfl (lv_at hl 1 rfl) ?_
    refine lv_iload_n hx hb dX9_goesAhead_19 rfl (lv_at hl 2 rfl) ?_
    refine lv_iconst (v := 1) hx hb dX9_goesAhead_20 (by decide) ?_
    obtain ⟨q13, hq13, hf⟩ := zb_e hf
    refine x_calli (x_runV (As := [.int x1, .int x2, .int 1]) (rest := []) ⟨hx, hb, hml, hown, hts⟩ (c_X9_c l G hG I J x1 x2 1 hq13) (cwV 3 hts gX9_goesAhead_X9_c rfl rfl rfl (by decide +kernel) ⟨Nat.le_of_ble_eq_true rfl, Nat.le_of_ble_eq_true rfl⟩) hK hP zkL_359 (by decide) rfl rfl hl.1 rfl (Nat.le_of_ble_eq_true rfl) dX9_goesAhead_21 ⟨Nat.zero_le _, Nat.zero_le _⟩) hS (fun H locs hP hS => ?_)
    refine lv_aload_n hx hb dX9_goesAhead_24 rfl (lv_at hl 0 rfl) ?_
    refine lv_iload_n hx hb dX9_goesAhead_25 rfl (lv_at hl 1 rfl) ?_
    refine lv_iload_n hx hb dX9_goesAhead_26 rfl (lv_at hl 3 rfl) ?_
    refine lv_iconst (v := 1) hx hb dX9_goesAhead_27 (by decide) ?_
    obtain ⟨q14, hq14, hf⟩ := zb_e hf
    refine x_calli (x_runV (As := [.int x1, .int x3, .int 1]) (rest := [.int q13]) ⟨hx, hb, hml, hown, hts⟩ (c_X9_c l G hG I J x1 x3 1 hq14) (cwV 3 hts gX9_goesAhead_X9_c rfl rfl rfl (by decide +kernel) ⟨Nat.le_of_ble_eq_true rfl, Nat.le_of_ble_eq_true rfl⟩) hK hP zkL_359 (by decide) rfl rfl hl.1 rfl (Nat.le_of_ble_eq_true rfl) dX9_goesAhead_28 ⟨Nat.zero_le _, Nat.zero_le _⟩) hS (fun H locs hP hS => ?_)
    refine lv_icmp_le (tgt := 38) hx hb dX9_goesAhead_31 (by decide) (fun c15 => ?_) (fun c15 => ?_)
    · have hf := zif_t c15 hf
      refine lv_iconst (v := 0) hx hb dX9_goesAhead_38 (by decide) ?_
      obtain rfl := Option.some.inj hf
      exact x_zret (v := 0) rfl hx hb hr hlocks hK hP hS dX9_goesAhead_39
    · have hf := zif_f c15 hf
      refine lv_iconst (v := 1) hx hb dX9_goesAhead_34 (by decide) ?_
      refine lv_goto (tgt := 39) hx hb dX9_goesAhead_35 (by decide) ?_
      obtain rfl := Option.some.inj hf
      exact x_zret (v := 1) rfl hx hb hr hlocks hK hP hS dX9_goesAhead_39
set_option maxRecDepth 100000 in
set_option maxHeartbeats 4000000 in
theorem c_X9_placeOn (l : Launch) (G : zGT) (hG : zOK G) (I J : zM) (x1 : Int32) (x2 : Int32) {r : Int32} (hf : f_X9_placeOn J x1 x2 = some r) : Met l yX9_placeOn wsX9_placeOn (zrm 3 68) (va_Pc [.ref (G.2.1 359), .int x1, .int x2] (zS G I J)) (zQi G r I J) 0 0 (zA G) := by
  refine zMet (cc := cX9_placeOn) (n := 5) (ret := (some .int)) (by decide) rfl (Nat.le_of_ble_eq_true rfl) ?_
  intro p e s m args below meth c H locs ls F hK hP hS hl
  obtain ⟨hx, hb, hr, hml, hts, hown, hlocks⟩ := F
  have hown : s.vm.findClass RX9 = some m.cls := hown
  have hl : lv_has ls 5 [(0, .ref (G.2.1 359)), (1, .int x1), (2, .int x2)] := hl
  have L5 : ∀ (n : Nat) (y3 : Int32) (y4 : Int32) (H : Heap) (locs : List Loc) (ls : Array Slot), f_X9_placeOn_l5 J x1 x2 n y3 y4 = some r → va_P G.1 vwCl (zW G I J) H → va_S (zA G) s.heap H locs → lv_has ls 5 [(0, .ref (G.2.1 359)), (1, .int x1), (2, .int x2), (3, .int y3), (4, .int y4)] → W p l e (zrm 3 68) s m args below meth c H locs 0 0 (MQ below (zQi G r I J) args s 0 0 (zA G)) (F0 m 5 ls []) := by
    intro n
    induction n with
    | zero =>
      intro y3 y4 H locs ls hf
      rw [f_X9_placeOn_l5] at hf
      cases hf
    | succ n ih =>
      intro y3 y4 H locs ls hf hP hS hl
      rw [f_X9_placeOn_l5] at hf
      refine lv_iload hx hb dX9_placeOn_5 (lv_at hl 4 rfl) ?_
      refine lv_aload_n hx hb dX9_placeOn_7 rfl (lv_at hl 0 rfl) ?_
      refine lv_iload_n hx hb dX9_placeOn_8 rfl (lv_at hl 1 rfl) ?_
      refine lv_bipush (v := 57) hx hb dX9_placeOn_9 (by decide) ?_
      obtain ⟨q1, hq1, hf⟩ := zb_e hf
      refine x_calli (x_runV (As := [.int x1, .int 57]) (rest := [.int y4]) ⟨hx, hb, hml, hown, hts⟩ (c_X9_t l G hG I J x1 57 hq1) (cwV 2 hts gX9_placeOn_X9_t rfl rfl rfl (by decide +kernel) ⟨Nat.le_of_ble_eq_true rfl, Nat.le_of_ble_eq_true rfl⟩) hK hP zkL_359 (by decide) rfl rfl hl.1 rfl (Nat.le_of_ble_eq_true rfl) dX9_placeOn_11 ⟨Nat.zero_le _, Nat.zero_le _⟩) hS (fun H locs hP hS => ?_)
      refine lv_icmp_ge (tgt := 48) hx hb dX9_placeOn_14 (by decide) (fun c2 => ?_) (fun c2 => ?_)
      · have hf := zif_t c2 hf
        refine lv_iload_n hx hb dX9_placeOn_48 rfl (lv_at hl 3 rfl) ?_
        obtain rfl := Option.some.inj hf
        exact x_iret hx hb hr hlocks hK hP hS dX9_placeOn_49
      · have hf := zif_f c2 hf
        refine lv_iload_n hx hb dX9_placeOn_17 rfl (lv_at hl 3 rfl) ?_
        refine lv_iload hx hb dX9_placeOn_18 (lv_at hl 4 rfl) ?_
        refine lv_iload_n hx hb dX9_placeOn_20 rfl (lv_at hl 2 rfl) ?_
        refine lv_icmp_eq (tgt := 39) hx hb dX9_placeOn_21 (by decide) (fun c3 => ?_) (fun c3 => ?_)
        · have hf := zif_t c3 hf
          refine lv_iconst (v := 0) hx hb dX9_placeOn_39 (by decide) ?_
          refine lv_iadd hx hb dX9_placeOn_40 ?_
          obtain ⟨w4, ew4, hf⟩ := zlet_e hf
          refine z_topi ew4 ?_
          refine lv_istore_n (lv' := [(3, .int w4), (0, .ref (G.2.1 359)), (1, .int x1), (2, .int x2), (4, .int y4)]) hx hb dX9_placeOn_41 rfl hl (by decide) rfl (fun ls hl => ?_)
          refine lv_iinc (v := (y4 + 1)) (lv' := [(4, .int (y4 + 1)), (3, .int w4), (0, .ref (G.2.1 359)), (1, .int x1), (2, .int x2)]) hx hb dX9_placeOn_42 hl (k := 4) rfl rfl (by decide) rfl (fun ls hl => ?_)
          refine lv_goto (tgt := 5) hx hb dX9_placeOn_45 (by decide) ?_
          exact ih w4 (y4 + 1) H locs ls hf hP hS (lv_sub hl [2, 3, 4, 1, 0] rfl)
        · have hf := zif_f c3 hf
          refine lv_aload_n hx hb dX9_placeOn_24 rfl (lv_at hl 0 rfl) ?_
          refine lv_iload_n hx hb dX9_placeOn_25 rfl (lv_at hl 1 rfl) ?_
          refine lv_iload hx hb dX9_placeOn_26 (lv_at hl 4 rfl) ?_
          refine lv_iload_n hx hb dX9_placeOn_28 rfl (lv_at hl 2 rfl) ?_
          obtain ⟨q5, hq5, hf⟩ := zb_e hf
          refine x_calli (x_runV (As := [.int x1, .int y4, .int x2]) (rest := [.int y3]) ⟨hx, hb, hml, hown, hts⟩ (c_X9_goesAhead l G hG I J x1 y4 x2 hq5) (cwV 3 hts gX9_placeOn_X9_goesAhead rfl rfl rfl (by decide +kernel) ⟨Nat.le_of_ble_eq_true rfl, Nat.le_of_ble_eq_true rfl⟩) hK hP zkL_359 (by decide) rfl rfl hl.1 rfl (Nat.le_of_ble_eq_true rfl) dX9_placeOn_29 ⟨Nat.zero_le _, Nat.zero_le _⟩) hS (fun H locs hP hS => ?_)
          refine lv_if_eq (tgt := 39) hx hb dX9_placeOn_32 (by decide) (fun c6 => ?_) (fun c6 => ?_)
          · have hf := zif_t c6 hf
            refine lv_iconst (v := 0) hx hb dX9_placeOn_39 (by decide) ?_
            refine lv_iadd hx hb dX9_placeOn_40 ?_
            obtain ⟨w7, ew7, hf⟩ := zlet_e hf
            refine z_topi ew7 ?_
            refine lv_istore_n (lv' := [(3, .int w7), (0, .ref (G.2.1 359)), (1, .int x1), (2, .int x2), (4, .int y4)]) hx hb dX9_placeOn_41 rfl hl (by decide) rfl (fun ls hl => ?_)
            refine lv_iinc (v := (y4 + 1)) (lv' := [(4, .int (y4 + 1)), (3, .int w7), (0, .ref (G.2.1 359)), (1, .int x1), (2, .int x2)]) hx hb dX9_placeOn_42 hl (k := 4) rfl rfl (by decide) rfl (fun ls hl => ?_)
            refine lv_goto (tgt := 5) hx hb dX9_placeOn_45 (by decide) ?_
            exact ih w7 (y4 + 1) H locs ls hf hP hS (lv_sub hl [2, 3, 4, 1, 0] rfl)
          · have hf := zif_f c6 hf
            refine lv_iconst (v := 1) hx hb dX9_placeOn_35 (by decide) ?_
            refine lv_goto (tgt := 40) hx hb dX9_placeOn_36 (by decide) ?_
            refine lv_iadd hx hb dX9_placeOn_40 ?_
            obtain ⟨w8, ew8, hf⟩ := zlet_e hf
            refine z_topi ew8 ?_
            refine lv_istore_n (lv' := [(3, .int w8), (0, .ref (G.2.1 359)), (1, .int x1), (2, .int x2), (4, .int y4)]) hx hb dX9_placeOn_41 rfl hl (by decide) rfl (fun ls hl => ?_)
            refine lv_iinc (v := (y4 + 1)) (lv' := [(4, .int (y4 + 1)), (3, .int w8), (0, .ref (G.2.1 359)), (1, .int x1), (2, .int x2)]) hx hb dX9_placeOn_42 hl (k := 4) rfl rfl (by decide) rfl (fun ls hl => ?_)
            refine lv_goto (tgt := 5) hx hb dX9_placeOn_45 (by decide) ?_
            exact ih w8 (y4 + 1) H locs ls hf hP hS (lv_sub hl [2, 3, 4, 1, 0] rfl)
  unfold f_X9_placeOn at hf
  refine lv_iconst (v := 0) hx hb dX9_placeOn_0 (by decide) ?_
  refine lv_istore_n (lv' := [(3, .int 0), (0, .ref (G.2.1 359)), (1, .int x1), (2, .int x2)]) hx hb dX9_placeOn_1 rfl hl (by decide) rfl (fun ls hl => ?_)
  refine lv_iconst (v := 0) hx hb dX9_placeOn_2 (by decide) ?_
  refine lv_istore (lv' := [(4, .int 0), (3, .int 0), (0, .ref (G.2.1 359)), (1, .int x1), (2, .int x2)]) hx hb dX9_placeOn_3 hl (by decide) rfl (fun ls hl => ?_)
  exact L5 zFu 0 0 H locs ls hf hP hS (lv_sub hl [2, 3, 4, 1, 0] rfl)
set_option maxRecDepth 100000 in
set_option maxHeartbeats 4000000 in
theorem c_X9_claim (l : Launch) (G : zGT) (hG : zOK G) (I J : zM) (x1 : Int32) (x2 : Int32) (x3 : Int32) {r : Int32 × zM} (hf : f_X9_claim J x1 x2 x3 = some r) : Met l yX9_claim wsX9_claim (zrm 4 92) (va_Pc [.ref (G.2.1 359), .int x1, .int x2, .int x3] (zS G I J)) (zQi G r.1 I r.2) 0 0 (zA G) := by
  refine zMet (cc := cX9_claim) (n := 5) (ret := (some .int)) (by decide) rfl (Nat.le_of_ble_eq_true rfl) ?_
  intro p e s m args below meth c H locs ls F hK hP hS hl
  obtain ⟨hx, hb, hr, hml, hts, hown, hlocks⟩ := F
  have hown : s.vm.findClass RX9 = some m.cls := hown
  have hl : lv_has ls 5 [(0, .ref (G.2.1 359)), (1, .int x1), (2, .int x2), (3, .int x3)] := hl
  have hi9 : ∀ w ∈ wsX90, w ∈ wsX9_claim := fun _ h => List.mem_cons_of_mem _ (List.mem_append_right _ h)
  unfold f_X9_claim at hf
  refine lv_aload_n hx hb dX9_claim_0 rfl (lv_at hl 0 rfl) ?_
  refine lv_iload_n hx hb dX9_claim_1 rfl (lv_at hl 1 rfl) ?_
  obtain ⟨q1, hq1, hf⟩ := zb_e hf
  refine x_calli (x_runV (As := [.int x1]) (rest := []) ⟨hx, hb, hml, hown, hts⟩ (c_X9_isPerson l G hG I J x1 hq1) (cwV 1 hts gX9_claim_X9_isPerson rfl rfl rfl (by decide +kernel) ⟨Nat.le_of_ble_eq_true rfl, Nat.le_of_ble_eq_true rfl⟩) hK hP zkL_359 (by decide) rfl rfl hl.1 rfl (Nat.le_of_ble_eq_true rfl) dX9_claim_2 ⟨Nat.zero_le _, Nat.zero_le _⟩) hS (fun H locs hP hS => ?_)
  refine lv_if_eq (tgt := 40) hx hb dX9_claim_5 (by decide) (fun c2 => ?_) (fun c2 => ?_)
  · have hf := zif_t c2 hf
    refine lv_iconst (v := (-1)) hx hb dX9_claim_40 (by decide) ?_
    obtain rfl := Option.some.inj hf
    exact x_iret hx hb hr hlocks hK hP hS dX9_claim_41
  · have hf := zif_f c2 hf
    refine lv_aload_n hx hb dX9_claim_8 rfl (lv_at hl 0 rfl) ?_
    refine lv_iload_n hx hb dX9_claim_9 rfl (lv_at hl 2 rfl) ?_
    obtain ⟨q3, hq3, hf⟩ := zb_e hf
    refine x_calli (x_runV (As := [.int x2]) (rest := []) ⟨hx, hb, hml, hown, hts⟩ (c_X9_isTool l G hG I J x2 hq3) (cwV 1 hts gX9_claim_X9_isTool rfl rfl rfl (by decide +kernel) ⟨Nat.le_of_ble_eq_true rfl, Nat.le_of_ble_eq_true rfl⟩) hK hP zkL_359 (by decide) rfl rfl hl.1 rfl (Nat.le_of_ble_eq_true rfl) dX9_claim_10 ⟨Nat.zero_le _, Nat.zero_le _⟩) hS (fun H locs hP hS => ?_)
    refine lv_if_eq (tgt := 40) hx hb dX9_claim_13 (by decide) (fun c4 => ?_) (fun c4 => ?_)
    · have hf := zif_t c4 hf
      refine lv_iconst (v := (-1)) hx hb dX9_claim_40 (by decide) ?_
      obtain rfl := Option.some.inj hf
      exact x_iret hx hb hr hlocks hK hP hS dX9_claim_41
    · have hf := zif_f c4 hf
      refine lv_iload_n hx hb dX9_claim_16 rfl (lv_at hl 3 rfl) ?_
      refine lv_iconst (v := 0) hx hb dX9_claim_17 (by decide) ?_
      refine lv_sipush (v := 999) hx hb dX9_claim_18 (by decide) ?_
      obtain ⟨q5, hq5, hf⟩ := zb_e hf
      refine x_calli (x_runS (As := [.int x3, .int 0, .int 999]) (rest := []) ⟨hx, hb, hml, hown, hts⟩ (c_X9_in l G hG I J x3 0 999 hq5) (va_cwS 3 hts gX9_claim_X9_in rfl rfl rfl (by decide +kernel) ⟨Nat.le_of_ble_eq_true rfl, Nat.le_of_ble_eq_true rfl⟩) hK hP rfl hl.1 rfl (Nat.le_of_ble_eq_true rfl) dX9_claim_21 ⟨Nat.zero_le _, Nat.zero_le _⟩) hS (fun H locs hP hS => ?_)
      refine lv_if_eq (tgt := 40) hx hb dX9_claim_24 (by decide) (fun c6 => ?_) (fun c6 => ?_)
      · have hf := zif_t c6 hf
        refine lv_iconst (v := (-1)) hx hb dX9_claim_40 (by decide) ?_
        obtain rfl := Option.some.inj hf
        exact x_iret hx hb hr hlocks hK hP hS dX9_claim_41
      · have hf := zif_f c6 hf
        refine lv_iload_n hx hb dX9_claim_27 rfl (lv_at hl 3 rfl) ?_
        refine lv_bipush (v := 100) hx hb dX9_claim_28 (by decide) ?_
        refine lv_irem hx hb dX9_claim_30 (by decide) ?_
        refine lv_iconst (v := 1) hx hb dX9_claim_31 (by decide) ?_
        refine lv_bipush (v := 30) hx hb dX9_claim_32 (by decide) ?_
        obtain ⟨q7, hq7, hf⟩ := zb_e hf
        refine x_calli (x_runS (As := [.int (x3 - x3 / 100 * 100), .int 1, .int 30]) (rest := []) ⟨hx, hb, hml, hown, hts⟩ (c_X9_in l G hG I J (x3 - x3 / 100 * 100) 1 30 hq7) (va_cwS 3 hts gX9_claim_X9_in rfl rfl rfl (by decide +kernel) ⟨Nat.le_of_ble_eq_true rfl, Nat.le_of_ble_eq_true rfl⟩) hK hP rfl hl.1 rfl (Nat.le_of_ble_eq_true rfl) dX9_claim_34 ⟨Nat.zero_le _, Nat.zero_le _⟩) hS (fun H locs hP hS => ?_)
        refine lv_if_ne (tgt := 42) hx hb dX9_claim_37 (by decide) (fun c8 => ?_) (fun c8 => ?_)
        · have hf := zif_f c8 hf
          refine lv_aload_n hx hb dX9_claim_42 rfl (lv_at hl 0 rfl) ?_
          refine lv_iload_n hx hb dX9_claim_43 rfl (lv_at hl 2 rfl) ?_
          refine lv_iload_n hx hb dX9_claim_44 rfl (lv_at hl 1 rfl) ?_
          obtain ⟨q9, hq9, hf⟩ := zb_e hf
          refine x_calli (x_runV (As := [.int x2, .int x1]) (rest := []) ⟨hx, hb, hml, hown, hts⟩ (c_X9_claimOn l G hG I J x2 x1 hq9) (cwV 2 hts gX9_claim_X9_claimOn rfl rfl rfl (by decide +kernel) ⟨Nat.le_of_ble_eq_true rfl, Nat.le_of_ble_eq_true rfl⟩) hK hP zkL_359 (by decide) rfl rfl hl.1 rfl (Nat.le_of_ble_eq_true rfl) dX9_claim_45 ⟨Nat.zero_le _, Nat.zero_le _⟩) hS (fun H locs hP hS => ?_)
          refine lv_if_ge (tgt := 61) hx hb dX9_claim_48 (by decide) (fun c10 => ?_) (fun c10 => ?_)
          · have hf := zif_t c10 hf
            refine lv_bipush (v := (-5)) hx hb dX9_claim_61 (by decide) ?_
            obtain rfl := Option.some.inj hf
            exact x_iret hx hb hr hlocks hK hP hS dX9_claim_63
          · have hf := zif_f c10 hf
            refine lv_aload_n hx hb dX9_claim_51 rfl (lv_at hl 0 rfl) ?_
            refine lv_iload_n hx hb dX9_claim_52 rfl (lv_at hl 2 rfl) ?_
            refine lv_iconst (v := 2) hx hb dX9_claim_53 (by decide) ?_
            obtain ⟨q11, hq11, hf⟩ := zb_e hf
            refine x_calli (x_runV (As := [.int x2, .int 2]) (rest := []) ⟨hx, hb, hml, hown, hts⟩ (c_X9_t l G hG I J x2 2 hq11) (cwV 2 hts gX9_claim_X9_t rfl rfl rfl (by decide +kernel) ⟨Nat.le_of_ble_eq_true rfl, Nat.le_of_ble_eq_true rfl⟩) hK hP zkL_359 (by decide) rfl rfl hl.1 rfl (Nat.le_of_ble_eq_true rfl) dX9_claim_54 ⟨Nat.zero_le _, Nat.zero_le _⟩) hS (fun H locs hP hS => ?_)
            refine lv_iload_n hx hb dX9_claim_57 rfl (lv_at hl 1 rfl) ?_
            refine lv_icmp_ne (tgt := 64) hx hb dX9_claim_58 (by decide) (fun c12 => ?_) (fun c12 => ?_)
            · have hf := zif_f c12 hf
              refine lv_aload_n hx hb dX9_claim_64 rfl (lv_at hl 0 rfl) ?_
              refine lv_iload_n hx hb dX9_claim_65 rfl (lv_at hl 2 rfl) ?_
              refine lv_bipush (v := 57) hx hb dX9_claim_66 (by decide) ?_
              obtain ⟨q13, hq13, hf⟩ := zb_e hf
              refine x_calli (x_runV (As := [.int x2, .int 57]) (rest := []) ⟨hx, hb, hml, hown, hts⟩ (c_X9_t l G hG I J x2 57 hq13) (cwV 2 hts gX9_claim_X9_t rfl rfl rfl (by decide +kernel) ⟨Nat.le_of_ble_eq_true rfl, Nat.le_of_ble_eq_true rfl⟩) hK hP zkL_359 (by decide) rfl rfl hl.1 rfl (Nat.le_of_ble_eq_true rfl) dX9_claim_68 ⟨Nat.zero_le _, Nat.zero_le _⟩) hS (fun H locs hP hS => ?_)
              refine lv_bipush (v := 8) hx hb dX9_claim_71 (by decide) ?_
              refine lv_icmp_ne (tgt := 79) hx hb dX9_claim_73 (by decide) (fun c14 => ?_) (fun c14 => ?_)
              · have hf := zif_f c14 hf
                refine lv_aload_n hx hb dX9_claim_79 rfl (lv_at hl 0 rfl) ?_
                refine lv_iload_n hx hb dX9_claim_80 rfl (lv_at hl 2 rfl) ?_
                refine lv_bipush (v := 57) hx hb dX9_claim_81 (by decide) ?_
                obtain ⟨q15, hq15, hf⟩ := zb_e hf
                refine x_calli (x_runV (As := [.int x2, .int 57]) (rest := []) ⟨hx, hb, hml, hown, hts⟩ (c_X9_t l G hG I J x2 57 hq15) (cwV 2 hts gX9_claim_X9_t rfl rfl rfl (by decide +kernel) ⟨Nat.le_of_ble_eq_true rfl, Nat.le_of_ble_eq_true rfl⟩) hK hP zkL_359 (by decide) rfl rfl hl.1 rfl (Nat.le_of_ble_eq_true rfl) dX9_claim_83 ⟨Nat.zero_le _, Nat.zero_le _⟩) hS (fun H locs hP hS => ?_)
                refine lv_istore (lv' := [(4, .int q15), (0, .ref (G.2.1 359)), (1, .int x1), (2, .int x2), (3, .int x3)]) hx hb dX9_claim_86 hl (by decide) rfl (fun ls hl => ?_)
                refine lv_aload_n hx hb dX9_claim_88 rfl (lv_at hl 1 rfl) ?_
                refine lv_iload_n hx hb dX9_claim_89 rfl (lv_at hl 3 rfl) ?_
                refine lv_bipush (v := 58) hx hb dX9_claim_90 (by decide) ?_
                refine lv_iconst (v := 4) hx hb dX9_claim_92 (by decide) ?_
                refine lv_iload hx hb dX9_claim_93 (lv_at hl 0 rfl) ?_
                refine lv_imul hx hb dX9_claim_95 ?_
                refine lv_iadd hx hb dX9_claim_96 ?_
                refine lv_iload_n hx hb dX9_claim_97 rfl (lv_at hl 2 rfl) ?_
                obtain ⟨q16, hq16, hf⟩ := zb_e hf
                refine x_callv (x_runV (As := [.int x2, .int (58 + (4 * q15)), .int x1]) (rest := []) ⟨hx, hb, hml, hown, hts⟩ (c_X9_setT l G hG I J x2 (58 + (4 * q15)) x1 hq16) (cwV 3 hts gX9_claim_X9_setT rfl rfl rfl (by decide +kernel) ⟨Nat.le_of_ble_eq_true rfl, Nat.le_of_ble_eq_true rfl⟩) hK hP zkL_359 (by decide) rfl rfl hl.1 rfl (Nat.le_of_ble_eq_true rfl) dX9_claim_98 ⟨Nat.zero_le _, Nat.zero_le _⟩) hS (fun H locs hP hS => ?_)
                refine lv_aload_n hx hb dX9_claim_101 rfl (lv_at hl 1 rfl) ?_
                refine lv_iload_n hx hb dX9_claim_102 rfl (lv_at hl 3 rfl) ?_
                refine lv_bipush (v := 58) hx hb dX9_claim_103 (by decide) ?_
                refine lv_iconst (v := 4) hx hb dX9_claim_105 (by decide) ?_
                refine lv_iload hx hb dX9_claim_106 (lv_at hl 0 rfl) ?_
                refine lv_imul hx hb dX9_claim_108 ?_
                refine lv_iadd hx hb dX9_claim_109 ?_
                refine lv_iconst (v := 1) hx hb dX9_claim_110 (by decide) ?_
                refine lv_iadd hx hb dX9_claim_111 ?_
                refine lv_iload_n hx hb dX9_claim_112 rfl (lv_at hl 4 rfl) ?_
                refine lv_bipush (v := 100) hx hb dX9_claim_113 (by decide) ?_
                refine lv_idiv hx hb dX9_claim_115 (by decide) ?_
                obtain ⟨q17, hq17, hf⟩ := zb_e hf
                refine x_callv (x_runV (As := [.int x2, .int ((58 + (4 * q15)) + 1), .int (x3 / 100)]) (rest := []) ⟨hx, hb, hml, hown, hts⟩ (c_X9_setT l G hG I q16 x2 ((58 + (4 * q15)) + 1) (x3 / 100) hq17) (cwV 3 hts gX9_claim_X9_setT rfl rfl rfl (by decide +kernel) ⟨Nat.le_of_ble_eq_true rfl, Nat.le_of_ble_eq_true rfl⟩) hK hP zkL_359 (by decide) rfl rfl hl.1 rfl (Nat.le_of_ble_eq_true rfl) dX9_claim_116 ⟨Nat.zero_le _, Nat.zero_le _⟩) hS (fun H locs hP hS => ?_)
                refine lv_aload_n hx hb dX9_claim_119 rfl (lv_at hl 1 rfl) ?_
                refine lv_iload_n hx hb dX9_claim_120 rfl (lv_at hl 3 rfl) ?_
                refine lv_bipush (v := 58) hx hb dX9_claim_121 (by decide) ?_
                refine lv_iconst (v := 4) hx hb dX9_claim_123 (by decide) ?_
                refine lv_iload hx hb dX9_claim_124 (lv_at hl 0 rfl) ?_
                refine lv_imul hx hb dX9_claim_126 ?_
                refine lv_iadd hx hb dX9_claim_127 ?_
                refine lv_iconst (v := 2) hx hb dX9_claim_128 (by decide) ?_
                refine lv_iadd hx hb dX9_claim_129 ?_
                refine lv_iload_n hx hb dX9_claim_130 rfl (lv_at hl 4 rfl) ?_
                refine lv_bipush (v := 100) hx hb dX9_claim_131 (by decide) ?_
                refine lv_irem hx hb dX9_claim_133 (by decide) ?_
                obtain ⟨q18, hq18, hf⟩ := zb_e hf
                refine x_callv (x_runV (As := [.int x2, .int ((58 + (4 * q15)) + 2), .int (x3 - x3 / 100 * 100)]) (rest := []) ⟨hx, hb, hml, hown, hts⟩ (c_X9_setT l G hG I q17 x2 ((58 + (4 * q15)) + 2) (x3 - x3 / 100 * 100) hq18) (cwV 3 hts gX9_claim_X9_setT rfl rfl rfl (by decide +kernel) ⟨Nat.le_of_ble_eq_true rfl, Nat.le_of_ble_eq_true rfl⟩) hK hP zkL_359 (by decide) rfl rfl hl.1 rfl (Nat.le_of_ble_eq_true rfl) dX9_claim_134 ⟨Nat.zero_le _, Nat.zero_le _⟩) hS (fun H locs hP hS => ?_)
                refine lv_aload_n hx hb dX9_claim_137 rfl (lv_at hl 1 rfl) ?_
                refine lv_iload_n hx hb dX9_claim_138 rfl (lv_at hl 3 rfl) ?_
                refine lv_bipush (v := 58) hx hb dX9_claim_139 (by decide) ?_
                refine lv_iconst (v := 4) hx hb dX9_claim_141 (by decide) ?_
                refine lv_iload hx hb dX9_claim_142 (lv_at hl 0 rfl) ?_
                refine lv_imul hx hb dX9_claim_144 ?_
                refine lv_iadd hx hb dX9_claim_145 ?_
                refine lv_iconst (v := 3) hx hb dX9_claim_146 (by decide) ?_
                refine lv_iadd hx hb dX9_claim_147 ?_
                refine lv_aload_n hx hb dX9_claim_148 rfl (lv_at hl 1 rfl) ?_
                refine x_get (j := 0) (v := .ref (G.2.1 360)) hx hb hts hi9 hown hK hP zkL_359 rfl (by decide) (hts (.fieldLink RX9 9 "LeaseOfficeModel" "g" "[I") (by decide +kernel)) rfl (by decide) dX9_claim_149 ?_
                refine lv_sipush (v := 1082) hx hb dX9_claim_152 (by decide) ?_
                refine x_ialdL (j := 1082) hx hb hK hP (zK_lt zkL_360 (by decide)) (zE_15 (j := 1) zkL_360 zlL_360 rfl) (by decide) (by decide) dX9_claim_155 ?_
                obtain ⟨q19, hq19, hf⟩ := zb_e hf
                refine x_callv (x_runV (As := [.int x2, .int ((58 + (4 * q15)) + 3), .int (q18 1 1082)]) (rest := []) ⟨hx, hb, hml, hown, hts⟩ (c_X9_setT l G hG I q18 x2 ((58 + (4 * q15)) + 3) (q18 1 1082) hq19) (cwV 3 hts gX9_claim_X9_setT rfl rfl rfl (by decide +kernel) ⟨Nat.le_of_ble_eq_true rfl, Nat.le_of_ble_eq_true rfl⟩) hK hP zkL_359 (by decide) rfl rfl hl.1 rfl (Nat.le_of_ble_eq_true rfl) dX9_claim_156 ⟨Nat.zero_le _, Nat.zero_le _⟩) hS (fun H locs hP hS => ?_)
                refine lv_aload_n hx hb dX9_claim_159 rfl (lv_at hl 1 rfl) ?_
                refine lv_iload_n hx hb dX9_claim_160 rfl (lv_at hl 3 rfl) ?_
                refine lv_bipush (v := 57) hx hb dX9_claim_161 (by decide) ?_
                refine lv_iload hx hb dX9_claim_163 (lv_at hl 0 rfl) ?_
                refine lv_iconst (v := 1) hx hb dX9_claim_165 (by decide) ?_
                refine lv_iadd hx hb dX9_claim_166 ?_
                obtain ⟨q20, hq20, hf⟩ := zb_e hf
                refine x_callv (x_runV (As := [.int x2, .int 57, .int (q15 + 1)]) (rest := []) ⟨hx, hb, hml, hown, hts⟩ (c_X9_setT l G hG I q19 x2 57 (q15 + 1) hq20) (cwV 3 hts gX9_claim_X9_setT rfl rfl rfl (by decide +kernel) ⟨Nat.le_of_ble_eq_true rfl, Nat.le_of_ble_eq_true rfl⟩) hK hP zkL_359 (by decide) rfl rfl hl.1 rfl (Nat.le_of_ble_eq_true rfl) dX9_claim_167 ⟨Nat.zero_le _, Nat.zero_le _⟩) hS (fun H locs hP hS => ?_)
                refine lv_aload_n hx hb dX9_claim_170 rfl (lv_at hl 1 rfl) ?_
                refine lv_iload_n hx hb dX9_claim_171 rfl (lv_at hl 3 rfl) ?_
                refine lv_iload hx hb dX9_claim_172 (lv_at hl 0 rfl) ?_
                obtain ⟨q21, hq21, hf⟩ := zb_e hf
                refine x_calli (x_runV (As := [.int x2, .int q15]) (rest := []) ⟨hx, hb, hml, hown, hts⟩ (c_X9_placeOn l G hG I q20 x2 q15 hq21) (cwV 2 hts gX9_claim_X9_placeOn rfl rfl rfl (by decide +kernel) ⟨Nat.le_of_ble_eq_true rfl, Nat.le_of_ble_eq_true rfl⟩) hK hP zkL_359 (by decide) rfl rfl hl.1 rfl (Nat.le_of_ble_eq_true rfl) dX9_claim_174 ⟨Nat.zero_le _, Nat.zero_le _⟩) hS (fun H locs hP hS => ?_)
                obtain rfl := Option.some.inj hf
                exact x_iret hx hb hr hlocks hK hP hS dX9_claim_177
              · have hf := zif_t c14 hf
                refine lv_bipush (v := (-3)) hx hb dX9_claim_76 (by decide) ?_
                obtain rfl := Option.some.inj hf
                exact x_iret hx hb hr hlocks hK hP hS dX9_claim_78
            · have hf := zif_t c12 hf
              refine lv_bipush (v := (-5)) hx hb dX9_claim_61 (by decide) ?_
              obtain rfl := Option.some.inj hf
              exact x_iret hx hb hr hlocks hK hP hS dX9_claim_63
        · have hf := zif_t c8 hf
          refine lv_iconst (v := (-1)) hx hb dX9_claim_40 (by decide) ?_
          obtain rfl := Option.some.inj hf
          exact x_iret hx hb hr hlocks hK hP hS dX9_claim_41
set_option maxRecDepth 100000 in
set_option maxHeartbeats 4000000 in
theorem c_X9_claimAt (l : Launch) (G : zGT) (hG : zOK G) (I J : zM) (x1 : Int32) (x2 : Int32) {r : Int32} (hf : f_X9_claimAt J x1 x2 = some r) : Met l yX9_claimAt wsX9_claimAt (zrm 4 92) (va_Pc [.ref (G.2.1 359), .int x1, .int x2] (zS G I J)) (zQi G r I J) 0 0 (zA G) := by
  refine zMet (cc := cX9_claimAt) (n := 4) (ret := (some .int)) (by decide) rfl (Nat.le_of_ble_eq_true rfl) ?_
  intro p e s m args below meth c H locs ls F hK hP hS hl
  obtain ⟨hx, hb, hr, hml, hts, hown, hlocks⟩ := F
  have hown : s.vm.findClass RX9 = some m.cls := hown
  have hl : lv_has ls 4 [(0, .ref (G.2.1 359)), (1, .int x1), (2, .int x2)] := hl
  have L2 : ∀ (n : Nat) (y3 : Int32) (H : Heap) (locs : List Loc) (ls : Array Slot), f_X9_claimAt_l2 J x1 x2 n y3 = some r → va_P G.1 vwCl (zW G I J) H → va_S (zA G) s.heap H locs → lv_has ls 4 [(0, .ref (G.2.1 359)), (1, .int x1), (2, .int x2), (3, .int y3)] → W p l e (zrm 4 92) s m args below meth c H locs 0 0 (MQ below (zQi G r I J) args s 0 0 (zA G)) (F0 m 2 ls []) := by
    intro n
    induction n with
    | zero =>
      intro y3 H locs ls hf
      rw [f_X9_claimAt_l2] at hf
      cases hf
    | succ n ih =>
      intro y3 H locs ls hf hP hS hl
      rw [f_X9_claimAt_l2] at hf
      refine lv_iload_n hx hb dX9_claimAt_2 rfl (lv_at hl 3 rfl) ?_
      refine lv_aload_n hx hb dX9_claimAt_3 rfl (lv_at hl 0 rfl) ?_
      refine lv_iload_n hx hb dX9_claimAt_4 rfl (lv_at hl 1 rfl) ?_
      refine lv_bipush (v := 57) hx hb dX9_claimAt_5 (by decide) ?_
      obtain ⟨q1, hq1, hf⟩ := zb_e hf
      refine x_calli (x_runV (As := [.int x1, .int 57]) (rest := [.int y3]) ⟨hx, hb, hml, hown, hts⟩ (c_X9_t l G hG I J x1 57 hq1) (cwV 2 hts gX9_claimAt_X9_t rfl rfl rfl (by decide +kernel) ⟨Nat.le_of_ble_eq_true rfl, Nat.le_of_ble_eq_true rfl⟩) hK hP zkL_359 (by decide) rfl rfl hl.1 rfl (Nat.le_of_ble_eq_true rfl) dX9_claimAt_7 ⟨Nat.zero_le _, Nat.zero_le _⟩) hS (fun H locs hP hS => ?_)
      refine lv_icmp_ge (tgt := 31) hx hb dX9_claimAt_10 (by decide) (fun c2 => ?_) (fun c2 => ?_)
      · have hf := zif_t c2 hf
        refine lv_bipush (v := (-2)) hx hb dX9_claimAt_31 (by decide) ?_
        obtain rfl := Option.some.inj hf
        exact x_iret hx hb hr hlocks hK hP hS dX9_claimAt_33
      · have hf := zif_f c2 hf
        refine lv_aload_n hx hb dX9_claimAt_13 rfl (lv_at hl 0 rfl) ?_
        refine lv_iload_n hx hb dX9_claimAt_14 rfl (lv_at hl 1 rfl) ?_
        refine lv_iload_n hx hb dX9_claimAt_15 rfl (lv_at hl 3 rfl) ?_
        obtain ⟨q3, hq3, hf⟩ := zb_e hf
        refine x_calli (x_runV (As := [.int x1, .int y3]) (rest := []) ⟨hx, hb, hml, hown, hts⟩ (c_X9_placeOn l G hG I J x1 y3 hq3) (cwV 2 hts gX9_claimAt_X9_placeOn rfl rfl rfl (by decide +kernel) ⟨Nat.le_of_ble_eq_true rfl, Nat.le_of_ble_eq_true rfl⟩) hK hP zkL_359 (by decide) rfl rfl hl.1 rfl (Nat.le_of_ble_eq_true rfl) dX9_claimAt_16 ⟨Nat.zero_le _, Nat.zero_le _⟩) hS (fun H locs hP hS => ?_)
        refine lv_iload_n hx hb dX9_claimAt_19 rfl (lv_at hl 2 rfl) ?_
        refine lv_icmp_ne (tgt := 25) hx hb dX9_claimAt_20 (by decide) (fun c4 => ?_) (fun c4 => ?_)
        · have hf := zif_f c4 hf
          refine lv_iinc (v := (y3 + 1)) (lv' := [(3, .int (y3 + 1)), (0, .ref (G.2.1 359)), (1, .int x1), (2, .int x2)]) hx hb dX9_claimAt_25 hl (k := 3) rfl rfl (by decide) rfl (fun ls hl => ?_)
          refine lv_goto (tgt := 2) hx hb dX9_claimAt_28 (by decide) ?_
          exact ih (y3 + 1) H locs ls hf hP hS (lv_sub hl [1, 2, 3, 0] rfl)
        · have hf := zif_t c4 hf
          refine lv_iload_n hx hb dX9_claimAt_23 rfl (lv_at hl 3 rfl) ?_
          obtain rfl := Option.some.inj hf
          exact x_iret hx hb hr hlocks hK hP hS dX9_claimAt_24
  unfold f_X9_claimAt at hf
  refine lv_iconst (v := 0) hx hb dX9_claimAt_0 (by decide) ?_
  refine lv_istore_n (lv' := [(3, .int 0), (0, .ref (G.2.1 359)), (1, .int x1), (2, .int x2)]) hx hb dX9_claimAt_1 rfl hl (by decide) rfl (fun ls hl => ?_)
  exact L2 zFu 0 H locs ls hf hP hS (lv_sub hl [1, 2, 3, 0] rfl)
set_option maxRecDepth 100000 in
set_option maxHeartbeats 4000000 in
theorem c_X9_claimGoes (l : Launch) (G : zGT) (hG : zOK G) (I J : zM) (x1 : Int32) (x2 : Int32) {r : zM} (hf : f_X9_claimGoes J x1 x2 = some r) : Met l yX9_claimGoes wsX9_claimGoes (zrm 2 45) (va_Pc [.ref (G.2.1 359), .int x1, .int x2] (zS G I J)) (zQv G I r) 0 0 (zA G) := by
  refine zMet (cc := cX9_claimGoes) (n := 5) (ret := none) (by decide) rfl (Nat.le_of_ble_eq_true rfl) ?_
  intro p e s m args below meth c H locs ls F hK hP hS hl
  obtain ⟨hx, hb, hr, hml, hts, hown, hlocks⟩ := F
  have hown : s.vm.findClass RX9 = some m.cls := hown
  have hl : lv_has ls 5 [(0, .ref (G.2.1 359)), (1, .int x1), (2, .int x2)] := hl
  have L13 : ∀ (y3 : Int32) (K : zM → Option (zM)) (hKK : ∀ (M2 : zM) (H : Heap) (locs : List Loc) (ls : Array Slot), K M2 = some r → va_P G.1 vwCl (zW G I M2) H → va_S (zA G) s.heap H locs → lv_has ls 5 [(0, .ref (G.2.1 359)), (1, .int x1), (3, .int y3)] → W p l e (zrm 2 45) s m args below meth c H locs 0 0 (MQ below (zQv G I r) args s 0 0 (zA G)) (F0 m 47 ls [])) (n : Nat) (M : zM) (y4 : Int32) (H : Heap) (locs : List Loc) (ls : Array Slot), f_X9_claimGoes_l13 x1 x2 y3 K n M y4 = some r → va_P G.1 vwCl (zW G I M) H → va_S (zA G) s.heap H locs → lv_has ls 5 [(0, .ref (G.2.1 359)), (1, .int x1), (2, .int x2), (3, .int y3), (4, .int y4)] → W p l e (zrm 2 45) s m args below meth c H locs 0 0 (MQ below (zQv G I r) args s 0 0 (zA G)) (F0 m 13 ls []) := by
    intro y3 K hKK n
    induction n with
    | zero =>
      intro M y4 H locs ls hf
      rw [f_X9_claimGoes_l13] at hf
      cases hf
    | succ n ih =>
      intro M y4 H locs ls hf hP hS hl
      rw [f_X9_claimGoes_l13] at hf
      refine lv_iload hx hb dX9_claimGoes_13 (lv_at hl 4 rfl) ?_
      refine lv_iconst (v := 4) hx hb dX9_claimGoes_15 (by decide) ?_
      refine lv_icmp_ge (tgt := 47) hx hb dX9_claimGoes_16 (by decide) (fun c3 => ?_) (fun c3 => ?_)
      · have hf := zif_t c3 hf
        exact hKK M H locs ls hf hP hS (lv_sub hl [0, 1, 3] rfl)
      · have hf := zif_f c3 hf
        refine lv_aload_n hx hb dX9_claimGoes_19 rfl (lv_at hl 0 rfl) ?_
        refine lv_iload_n hx hb dX9_claimGoes_20 rfl (lv_at hl 1 rfl) ?_
        refine lv_bipush (v := 58) hx hb dX9_claimGoes_21 (by decide) ?_
        refine lv_iconst (v := 4) hx hb dX9_claimGoes_23 (by decide) ?_
        refine lv_iload_n hx hb dX9_claimGoes_24 rfl (lv_at hl 2 rfl) ?_
        refine lv_imul hx hb dX9_claimGoes_25 ?_
        refine lv_iadd hx hb dX9_claimGoes_26 ?_
        refine lv_iload hx hb dX9_claimGoes_27 (lv_at hl 4 rfl) ?_
        refine lv_iadd hx hb dX9_claimGoes_29 ?_
        refine lv_aload_n hx hb dX9_claimGoes_30 rfl (lv_at hl 0 rfl) ?_
        refine lv_iload_n hx hb dX9_claimGoes_31 rfl (lv_at hl 1 rfl) ?_
        refine lv_iload_n hx hb dX9_claimGoes_32 rfl (lv_at hl 3 rfl) ?_
        refine lv_iload hx hb dX9_claimGoes_33 (lv_at hl 4 rfl) ?_
        obtain ⟨q4, hq4, hf⟩ := zb_e hf
        refine x_calli (x_runV (As := [.int x1, .int y3, .int y4]) (rest := [.int ((58 + (4 * x2)) + y4), .int x1, .ref (G.2.1 359)]) ⟨hx, hb, hml, hown, hts⟩ (c_X9_c l G hG I M x1 y3 y4 hq4) (cwV 3 hts gX9_claimGoes_X9_c rfl rfl rfl (by decide +kernel) ⟨Nat.le_of_ble_eq_true rfl, Nat.le_of_ble_eq_true rfl⟩) hK hP zkL_359 (by decide) rfl rfl hl.1 rfl (Nat.le_of_ble_eq_true rfl) dX9_claimGoes_35 ⟨Nat.zero_le _, Nat.zero_le _⟩) hS (fun H locs hP hS => ?_)
        obtain ⟨q5, hq5, hf⟩ := zb_e hf
        refine x_callv (x_runV (As := [.int x1, .int ((58 + (4 * x2)) + y4), .int q4]) (rest := []) ⟨hx, hb, hml, hown, hts⟩ (c_X9_setT l G hG I M x1 ((58 + (4 * x2)) + y4) q4 hq5) (cwV 3 hts gX9_claimGoes_X9_setT rfl rfl rfl (by decide +kernel) ⟨Nat.le_of_ble_eq_true rfl, Nat.le_of_ble_eq_true rfl⟩) hK hP zkL_359 (by decide) rfl rfl hl.1 rfl (Nat.le_of_ble_eq_true rfl) dX9_claimGoes_38 ⟨Nat.zero_le _, Nat.zero_le _⟩) hS (fun H locs hP hS => ?_)
        refine lv_iinc (v := (y4 + 1)) (lv' := [(4, .int (y4 + 1)), (0, .ref (G.2.1 359)), (1, .int x1), (2, .int x2), (3, .int y3)]) hx hb dX9_claimGoes_41 hl (k := 4) rfl rfl (by decide) rfl (fun ls hl => ?_)
        refine lv_goto (tgt := 13) hx hb dX9_claimGoes_44 (by decide) ?_
        exact ih q5 (y4 + 1) H locs ls hf hP hS (lv_sub hl [1, 2, 3, 4, 0] rfl)
  unfold f_X9_claimGoes at hf
  refine lv_aload_n hx hb dX9_claimGoes_0 rfl (lv_at hl 0 rfl) ?_
  refine lv_iload_n hx hb dX9_claimGoes_1 rfl (lv_at hl 1 rfl) ?_
  refine lv_bipush (v := 57) hx hb dX9_claimGoes_2 (by decide) ?_
  obtain ⟨q1, hq1, hf⟩ := zb_e hf
  refine x_calli (x_runV (As := [.int x1, .int 57]) (rest := []) ⟨hx, hb, hml, hown, hts⟩ (c_X9_t l G hG I J x1 57 hq1) (cwV 2 hts gX9_claimGoes_X9_t rfl rfl rfl (by decide +kernel) ⟨Nat.le_of_ble_eq_true rfl, Nat.le_of_ble_eq_true rfl⟩) hK hP zkL_359 (by decide) rfl rfl hl.1 rfl (Nat.le_of_ble_eq_true rfl) dX9_claimGoes_4 ⟨Nat.zero_le _, Nat.zero_le _⟩) hS (fun H locs hP hS => ?_)
  refine lv_iconst (v := 1) hx hb dX9_claimGoes_7 (by decide) ?_
  refine lv_isub hx hb dX9_claimGoes_8 ?_
  obtain ⟨w2, ew2, hf⟩ := zlet_e hf
  refine z_topi ew2 ?_
  refine lv_istore_n (lv' := [(3, .int w2), (0, .ref (G.2.1 359)), (1, .int x1), (2, .int x2)]) hx hb dX9_claimGoes_9 rfl hl (by decide) rfl (fun ls hl => ?_)
  refine lv_iconst (v := 0) hx hb dX9_claimGoes_10 (by decide) ?_
  refine lv_istore (lv' := [(4, .int 0), (3, .int w2), (0, .ref (G.2.1 359)), (1, .int x1), (2, .int x2)]) hx hb dX9_claimGoes_11 hl (by decide) rfl (fun ls hl => ?_)
  refine L13 w2 _ (fun M6 H locs ls hf hP hS hl => ?_) zFu J 0 H locs ls hf hP hS (lv_sub hl [2, 3, 4, 1, 0] rfl)
  refine lv_aload_n hx hb dX9_claimGoes_47 rfl (lv_at hl 0 rfl) ?_
  refine lv_iload_n hx hb dX9_claimGoes_48 rfl (lv_at hl 1 rfl) ?_
  refine lv_bipush (v := 57) hx hb dX9_claimGoes_49 (by decide) ?_
  refine lv_iload_n hx hb dX9_claimGoes_51 rfl (lv_at hl 2 rfl) ?_
  obtain ⟨q7, hq7, hf⟩ := zb_e hf
  refine x_callv (x_runV (As := [.int x1, .int 57, .int w2]) (rest := []) ⟨hx, hb, hml, hown, hts⟩ (c_X9_setT l G hG I M6 x1 57 w2 hq7) (cwV 3 hts gX9_claimGoes_X9_setT rfl rfl rfl (by decide +kernel) ⟨Nat.le_of_ble_eq_true rfl, Nat.le_of_ble_eq_true rfl⟩) hK hP zkL_359 (by decide) rfl rfl hl.1 rfl (Nat.le_of_ble_eq_true rfl) dX9_claimGoes_52 ⟨Nat.zero_le _, Nat.zero_le _⟩) hS (fun H locs hP hS => ?_)
  obtain rfl := Option.some.inj hf
  exact x_vret hx hb hr hlocks hK hP hS dX9_claimGoes_55
set_option maxRecDepth 100000 in
set_option maxHeartbeats 4000000 in
theorem c_X9_claimOf (l : Launch) (G : zGT) (hG : zOK G) (I J : zM) (x1 : Int32) (x2 : Int32) (x3 : Int32) {r : Int32} (hf : f_X9_claimOf J x1 x2 x3 = some r) : Met l yX9_claimOf wsX9_claimOf (zrm 5 115) (va_Pc [.ref (G.2.1 359), .int x1, .int x2, .int x3] (zS G I J)) (zQi G r I J) 0 0 (zA G) := by
  refine zMet (cc := cX9_claimOf) (n := 5) (ret := (some .int)) (by decide) rfl (Nat.le_of_ble_eq_true rfl) ?_
  intro p e s m args below meth c H locs ls F hK hP hS hl
  obtain ⟨hx, hb, hr, hml, hts, hown, hlocks⟩ := F
  have hown : s.vm.findClass RX9 = some m.cls := hown
  have hl : lv_has ls 5 [(0, .ref (G.2.1 359)), (1, .int x1), (2, .int x2), (3, .int x3)] := hl
  unfold f_X9_claimOf at hf
  refine lv_aload_n hx hb dX9_claimOf_0 rfl (lv_at hl 0 rfl) ?_
  refine lv_iload_n hx hb dX9_claimOf_1 rfl (lv_at hl 1 rfl) ?_
  obtain ⟨q1, hq1, hf⟩ := zb_e hf
  refine x_calli (x_runV (As := [.int x1]) (rest := []) ⟨hx, hb, hml, hown, hts⟩ (c_X9_isTool l G hG I J x1 hq1) (cwV 1 hts gX9_claimOf_X9_isTool rfl rfl rfl (by decide +kernel) ⟨Nat.le_of_ble_eq_true rfl, Nat.le_of_ble_eq_true rfl⟩) hK hP zkL_359 (by decide) rfl rfl hl.1 rfl (Nat.le_of_ble_eq_true rfl) dX9_claimOf_2 ⟨Nat.zero_le _, Nat.zero_le _⟩) hS (fun H locs hP hS => ?_)
  refine lv_if_eq (tgt := 21) hx hb dX9_claimOf_5 (by decide) (fun c2 => ?_) (fun c2 => ?_)
  · have hf := zif_t c2 hf
    refine lv_iconst (v := (-1)) hx hb dX9_claimOf_21 (by decide) ?_
    obtain rfl := Option.some.inj hf
    exact x_iret hx hb hr hlocks hK hP hS dX9_claimOf_22
  · have hf := zif_f c2 hf
    refine lv_iload_n hx hb dX9_claimOf_8 rfl (lv_at hl 2 rfl) ?_
    refine lv_if_lt (tgt := 21) hx hb dX9_claimOf_9 (by decide) (fun c3 => ?_) (fun c3 => ?_)
    · have hf := zif_t c3 hf
      refine lv_iconst (v := (-1)) hx hb dX9_claimOf_21 (by decide) ?_
      obtain rfl := Option.some.inj hf
      exact x_iret hx hb hr hlocks hK hP hS dX9_claimOf_22
    · have hf := zif_f c3 hf
      refine lv_iload_n hx hb dX9_claimOf_12 rfl (lv_at hl 3 rfl) ?_
      refine lv_iconst (v := 0) hx hb dX9_claimOf_13 (by decide) ?_
      refine lv_iconst (v := 3) hx hb dX9_claimOf_14 (by decide) ?_
      obtain ⟨q4, hq4, hf⟩ := zb_e hf
      refine x_calli (x_runS (As := [.int x3, .int 0, .int 3]) (rest := []) ⟨hx, hb, hml, hown, hts⟩ (c_X9_in l G hG I J x3 0 3 hq4) (va_cwS 3 hts gX9_claimOf_X9_in rfl rfl rfl (by decide +kernel) ⟨Nat.le_of_ble_eq_true rfl, Nat.le_of_ble_eq_true rfl⟩) hK hP rfl hl.1 rfl (Nat.le_of_ble_eq_true rfl) dX9_claimOf_15 ⟨Nat.zero_le _, Nat.zero_le _⟩) hS (fun H locs hP hS => ?_)
      refine lv_if_ne (tgt := 23) hx hb dX9_claimOf_18 (by decide) (fun c5 => ?_) (fun c5 => ?_)
      · have hf := zif_f c5 hf
        refine lv_aload_n hx hb dX9_claimOf_23 rfl (lv_at hl 0 rfl) ?_
        refine lv_iload_n hx hb dX9_claimOf_24 rfl (lv_at hl 1 rfl) ?_
        refine lv_iload_n hx hb dX9_claimOf_25 rfl (lv_at hl 2 rfl) ?_
        obtain ⟨q6, hq6, hf⟩ := zb_e hf
        refine x_calli (x_runV (As := [.int x1, .int x2]) (rest := []) ⟨hx, hb, hml, hown, hts⟩ (c_X9_claimAt l G hG I J x1 x2 hq6) (cwV 2 hts gX9_claimOf_X9_claimAt rfl rfl rfl (by decide +kernel) ⟨Nat.le_of_ble_eq_true rfl, Nat.le_of_ble_eq_true rfl⟩) hK hP zkL_359 (by decide) rfl rfl hl.1 rfl (Nat.le_of_ble_eq_true rfl) dX9_claimOf_26 ⟨Nat.zero_le _, Nat.zero_le _⟩) hS (fun H locs hP hS => ?_)
        refine lv_istore (lv' := [(4, .int q6), (0, .ref (G.2.1 359)), (1, .int x1), (2, .int x2), (3, .int x3)]) hx hb dX9_claimOf_29 hl (by decide) rfl (fun ls hl => ?_)
        refine lv_iload hx hb dX9_claimOf_31 (lv_at hl 0 rfl) ?_
        refine lv_if_ge (tgt := 41) hx hb dX9_claimOf_33 (by decide) (fun c7 => ?_) (fun c7 => ?_)
        · have hf := zif_t c7 hf
          refine lv_aload_n hx hb dX9_claimOf_41 rfl (lv_at hl 1 rfl) ?_
          refine lv_iload_n hx hb dX9_claimOf_42 rfl (lv_at hl 2 rfl) ?_
          refine lv_iload hx hb dX9_claimOf_43 (lv_at hl 0 rfl) ?_
          refine lv_iload_n hx hb dX9_claimOf_45 rfl (lv_at hl 4 rfl) ?_
          obtain ⟨q8, hq8, hf⟩ := zb_e hf
          refine x_calli (x_runV (As := [.int x1, .int q6, .int x3]) (rest := []) ⟨hx, hb, hml, hown, hts⟩ (c_X9_c l G hG I J x1 q6 x3 hq8) (cwV 3 hts gX9_claimOf_X9_c rfl rfl rfl (by decide +kernel) ⟨Nat.le_of_ble_eq_true rfl, Nat.le_of_ble_eq_true rfl⟩) hK hP zkL_359 (by decide) rfl rfl hl.1 rfl (Nat.le_of_ble_eq_true rfl) dX9_claimOf_46 ⟨Nat.zero_le _, Nat.zero_le _⟩) hS (fun H locs hP hS => ?_)
          obtain rfl := Option.some.inj hf
          exact x_iret hx hb hr hlocks hK hP hS dX9_claimOf_49
        · have hf := zif_f c7 hf
          refine lv_bipush (v := (-2)) hx hb dX9_claimOf_36 (by decide) ?_
          refine lv_goto (tgt := 49) hx hb dX9_claimOf_38 (by decide) ?_
          obtain rfl := Option.some.inj hf
          exact x_iret hx hb hr hlocks hK hP hS dX9_claimOf_49
      · have hf := zif_t c5 hf
        refine lv_iconst (v := (-1)) hx hb dX9_claimOf_21 (by decide) ?_
        obtain rfl := Option.some.inj hf
        exact x_iret hx hb hr hlocks hK hP hS dX9_claimOf_22
set_option maxRecDepth 100000 in
set_option maxHeartbeats 4000000 in
theorem c_X9_claimsOf (l : Launch) (G : zGT) (hG : zOK G) (I J : zM) (x1 : Int32) {r : Int32} (hf : f_X9_claimsOf J x1 = some r) : Met l yX9_claimsOf wsX9_claimsOf (zrm 2 45) (va_Pc [.ref (G.2.1 359), .int x1] (zS G I J)) (zQi G r I J) 0 0 (zA G) := by
  refine zMet (cc := cX9_claimsOf) (n := 4) (ret := (some .int)) (by decide) rfl (Nat.le_of_ble_eq_true rfl) ?_
  intro p e s m args below meth c H locs ls F hK hP hS hl
  obtain ⟨hx, hb, hr, hml, hts, hown, hlocks⟩ := F
  have hown : s.vm.findClass RX9 = some m.cls := hown
  have hl : lv_has ls 4 [(0, .ref (G.2.1 359)), (1, .int x1)] := hl
  have hi9 : ∀ w ∈ wsX90, w ∈ wsX9_claimsOf := fun _ h => List.mem_cons_of_mem _ (List.mem_append_right _ h)
  have L4 : ∀ (n : Nat) (y2 : Int32) (y3 : Int32) (H : Heap) (locs : List Loc) (ls : Array Slot), f_X9_claimsOf_l4 J x1 n y2 y3 = some r → va_P G.1 vwCl (zW G I J) H → va_S (zA G) s.heap H locs → lv_has ls 4 [(0, .ref (G.2.1 359)), (1, .int x1), (2, .int y2), (3, .int y3)] → W p l e (zrm 2 45) s m args below meth c H locs 0 0 (MQ below (zQi G r I J) args s 0 0 (zA G)) (F0 m 4 ls []) := by
    intro n
    induction n with
    | zero =>
      intro y2 y3 H locs ls hf
      rw [f_X9_claimsOf_l4] at hf
      cases hf
    | succ n ih =>
      intro y2 y3 H locs ls hf hP hS hl
      rw [f_X9_claimsOf_l4] at hf
      refine lv_iload_n hx hb dX9_claimsOf_4 rfl (lv_at hl 3 rfl) ?_
      refine lv_aload_n hx hb dX9_claimsOf_5 rfl (lv_at hl 0 rfl) ?_
      refine x_get (j := 0) (v := .ref (G.2.1 360)) hx hb hts hi9 hown hK hP zkL_359 rfl (by decide) (hts (.fieldLink RX9 9 "LeaseOfficeModel" "g" "[I") (by decide +kernel)) rfl (by decide) dX9_claimsOf_6 ?_
      refine lv_sipush (v := 1081) hx hb dX9_claimsOf_9 (by decide) ?_
      refine x_ialdL (j := 1081) hx hb hK hP (zK_lt zkL_360 (by decide)) (zE_15 (j := 1) zkL_360 zlL_360 rfl) (by decide) (by decide) dX9_claimsOf_12 ?_
      refine lv_icmp_ge (tgt := 39) hx hb dX9_claimsOf_13 (by decide) (fun c1 => ?_) (fun c1 => ?_)
      · have hf := zif_t c1 hf
        refine lv_iload_n hx hb dX9_claimsOf_39 rfl (lv_at hl 2 rfl) ?_
        obtain rfl := Option.some.inj hf
        exact x_iret hx hb hr hlocks hK hP hS dX9_claimsOf_40
      · have hf := zif_f c1 hf
        refine lv_iload_n hx hb dX9_claimsOf_16 rfl (lv_at hl 2 rfl) ?_
        refine lv_aload_n hx hb dX9_claimsOf_17 rfl (lv_at hl 0 rfl) ?_
        refine lv_iload_n hx hb dX9_claimsOf_18 rfl (lv_at hl 3 rfl) ?_
        refine lv_iload_n hx hb dX9_claimsOf_19 rfl (lv_at hl 1 rfl) ?_
        obtain ⟨q2, hq2, hf⟩ := zb_e hf
        refine x_calli (x_runV (As := [.int y3, .int x1]) (rest := [.int y2]) ⟨hx, hb, hml, hown, hts⟩ (c_X9_claimOn l G hG I J y3 x1 hq2) (cwV 2 hts gX9_claimsOf_X9_claimOn rfl rfl rfl (by decide +kernel) ⟨Nat.le_of_ble_eq_true rfl, Nat.le_of_ble_eq_true rfl⟩) hK hP zkL_359 (by decide) rfl rfl hl.1 rfl (Nat.le_of_ble_eq_true rfl) dX9_claimsOf_20 ⟨Nat.zero_le _, Nat.zero_le _⟩) hS (fun H locs hP hS => ?_)
        refine lv_if_lt (tgt := 30) hx hb dX9_claimsOf_23 (by decide) (fun c3 => ?_) (fun c3 => ?_)
        · have hf := zif_t c3 hf
          refine lv_iconst (v := 0) hx hb dX9_claimsOf_30 (by decide) ?_
          refine lv_iadd hx hb dX9_claimsOf_31 ?_
          obtain ⟨w4, ew4, hf⟩ := zlet_e hf
          refine z_topi ew4 ?_
          refine lv_istore_n (lv' := [(2, .int w4), (0, .ref (G.2.1 359)), (1, .int x1), (3, .int y3)]) hx hb dX9_claimsOf_32 rfl hl (by decide) rfl (fun ls hl => ?_)
          refine lv_iinc (v := (y3 + 1)) (lv' := [(3, .int (y3 + 1)), (2, .int w4), (0, .ref (G.2.1 359)), (1, .int x1)]) hx hb dX9_claimsOf_33 hl (k := 3) rfl rfl (by decide) rfl (fun ls hl => ?_)
          refine lv_goto (tgt := 4) hx hb dX9_claimsOf_36 (by decide) ?_
          exact ih w4 (y3 + 1) H locs ls hf hP hS (lv_sub hl [2, 3, 1, 0] rfl)
        · have hf := zif_f c3 hf
          refine lv_iconst (v := 1) hx hb dX9_claimsOf_26 (by decide) ?_
          refine lv_goto (tgt := 31) hx hb dX9_claimsOf_27 (by decide) ?_
          refine lv_iadd hx hb dX9_claimsOf_31 ?_
          obtain ⟨w5, ew5, hf⟩ := zlet_e hf
          refine z_topi ew5 ?_
          refine lv_istore_n (lv' := [(2, .int w5), (0, .ref (G.2.1 359)), (1, .int x1), (3, .int y3)]) hx hb dX9_claimsOf_32 rfl hl (by decide) rfl (fun ls hl => ?_)
          refine lv_iinc (v := (y3 + 1)) (lv' := [(3, .int (y3 + 1)), (2, .int w5), (0, .ref (G.2.1 359)), (1, .int x1)]) hx hb dX9_claimsOf_33 hl (k := 3) rfl rfl (by decide) rfl (fun ls hl => ?_)
          refine lv_goto (tgt := 4) hx hb dX9_claimsOf_36 (by decide) ?_
          exact ih w5 (y3 + 1) H locs ls hf hP hS (lv_sub hl [2, 3, 1, 0] rfl)
  unfold f_X9_claimsOf at hf
  refine lv_iconst (v := 0) hx hb dX9_claimsOf_0 (by decide) ?_
  refine lv_istore_n (lv' := [(2, .int 0), (0, .ref (G.2.1 359)), (1, .int x1)]) hx hb dX9_claimsOf_1 rfl hl (by decide) rfl (fun ls hl => ?_)
  refine lv_iconst (v := 0) hx hb dX9_claimsOf_2 (by decide) ?_
  refine lv_istore_n (lv' := [(3, .int 0), (2, .int 0), (0, .ref (G.2.1 359)), (1, .int x1)]) hx hb dX9_claimsOf_3 rfl hl (by decide) rfl (fun ls hl => ?_)
  exact L4 zFu 0 0 H locs ls hf hP hS (lv_sub hl [2, 3, 1, 0] rfl)
set_option maxRecDepth 100000 in
set_option maxHeartbeats 4000000 in
theorem c_X9_p (l : Launch) (G : zGT) (hG : zOK G) (I J : zM) (x1 : Int32) (x2 : Int32) {r : Int32} (hf : f_X9_p J x1 x2 = some r) : Met l yX9_p wsX9_p (zrm 0 0) (va_Pc [.ref (G.2.1 359), .int x1, .int x2] (zS G I J)) (zQi G r I J) 0 0 (zA G) := by
  refine zMet (cc := cX9_p) (n := 3) (ret := (some .int)) (by decide) rfl (Nat.le_of_ble_eq_true rfl) ?_
  intro p e s m args below meth c H locs ls F hK hP hS hl
  obtain ⟨hx, hb, hr, hml, hts, hown, hlocks⟩ := F
  have hown : s.vm.findClass RX9 = some m.cls := hown
  have hl : lv_has ls 3 [(0, .ref (G.2.1 359)), (1, .int x1), (2, .int x2)] := hl
  have hi9 : ∀ w ∈ wsX90, w ∈ wsX9_p := fun _ h => List.mem_cons_of_mem _ (List.mem_append_right _ h)
  unfold f_X9_p at hf
  refine lv_aload_n hx hb dX9_p_0 rfl (lv_at hl 0 rfl) ?_
  refine x_get (j := 0) (v := .ref (G.2.1 360)) hx hb hts hi9 hown hK hP zkL_359 rfl (by decide) (hts (.fieldLink RX9 9 "LeaseOfficeModel" "g" "[I") (by decide +kernel)) rfl (by decide) dX9_p_1 ?_
  refine lv_iload_n hx hb dX9_p_4 rfl (lv_at hl 1 rfl) ?_
  refine lv_bipush (v := 15) hx hb dX9_p_5 (by decide) ?_
  refine lv_imul hx hb dX9_p_7 ?_
  refine lv_iload_n hx hb dX9_p_8 rfl (lv_at hl 2 rfl) ?_
  refine lv_iadd hx hb dX9_p_9 ?_
  obtain ⟨h1, hf⟩ := zck_e hf
  refine x_iald hx hb hK hP (zK_lt zkL_360 (by decide)) (zE_15 (j := 1) zkL_360 zlL_360 rfl) (zin_e h1) dX9_p_10 ?_
  obtain rfl := Option.some.inj hf
  exact x_iret hx hb hr hlocks hK hP hS dX9_p_11
