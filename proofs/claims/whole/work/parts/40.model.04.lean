set_option maxRecDepth 100000 in
set_option maxHeartbeats 4000000 in
theorem c_X9_nameHere (l : Launch) (G : zGT) (hG : zOK G) (I J : zM) {r : Int32 × zM} (hf : f_X9_nameHere J = some r) : Met l yX9_nameHere wsX9_nameHere (zrm 3 66) (va_Pc [.ref (G.2.1 359)] (zS G I J)) (zQi G r.1 I r.2) 0 0 (zA G) := by
  refine zMet (cc := cX9_nameHere) (n := 3) (ret := (some .int)) (by decide) rfl (Nat.le_of_ble_eq_true rfl) ?_
  intro p e s m args below meth c H locs ls F hK hP hS hl
  obtain ⟨hx, hb, hr, hml, hts, hown, hlocks⟩ := F
  have hown : s.vm.findClass RX9 = some m.cls := hown
  have hl : lv_has ls 3 [(0, .ref (G.2.1 359))] := hl
  have hi9 : ∀ w ∈ wsX90, w ∈ wsX9_nameHere := fun _ h => List.mem_cons_of_mem _ (List.mem_append_right _ h)
  have L25 : ∀ (n : Nat) (M : zM) (y1 : Int32) (y2 : Int32) (H : Heap) (locs : List Loc) (ls : Array Slot), f_X9_nameHere_l25 n M y1 y2 = some r → va_P G.1 vwCl (zW G I M) H → va_S (zA G) s.heap H locs → lv_has ls 3 [(0, .ref (G.2.1 359)), (1, .int y1), (2, .int y2)] → W p l e (zrm 3 66) s m args below meth c H locs 0 0 (MQ below (zQi G r.1 I r.2) args s 0 0 (zA G)) (F0 m 25 ls []) := by
    intro n
    induction n with
    | zero =>
      intro M y1 y2 H locs ls hf
      rw [f_X9_nameHere_l25] at hf
      cases hf
    | succ n ih =>
      intro M y1 y2 H locs ls hf hP hS hl
      rw [f_X9_nameHere_l25] at hf
      refine lv_iload_n hx hb dX9_nameHere_25 rfl (lv_at hl 2 rfl) ?_
      refine lv_iconst (v := 2) hx hb dX9_nameHere_26 (by decide) ?_
      refine lv_icmp_ge (tgt := 74) hx hb dX9_nameHere_27 (by decide) (fun c4 => ?_) (fun c4 => ?_)
      · have hf := zif_t c4 hf
        refine lv_iload_n hx hb dX9_nameHere_74 rfl (lv_at hl 1 rfl) ?_
        obtain rfl := Option.some.inj hf
        exact x_iret hx hb hr hlocks hK hP hS dX9_nameHere_75
      · have hf := zif_f c4 hf
        refine lv_aload_n hx hb dX9_nameHere_30 rfl (lv_at hl 0 rfl) ?_
        refine lv_bipush (v := 97) hx hb dX9_nameHere_31 (by decide) ?_
        refine lv_bipush (v := 122) hx hb dX9_nameHere_33 (by decide) ?_
        obtain ⟨q5, hq5, hf⟩ := zb_e hf
        refine x_calli (x_runV (As := [.int 97, .int 122]) (rest := []) ⟨hx, hb, hml, hown, hts⟩ (c_X9_sees l G hG I M 97 122 hq5) (cwV 2 hts gX9_nameHere_X9_sees rfl rfl rfl (by decide +kernel) ⟨Nat.le_of_ble_eq_true rfl, Nat.le_of_ble_eq_true rfl⟩) hK hP zkL_359 (by decide) rfl rfl hl.1 rfl (Nat.le_of_ble_eq_true rfl) dX9_nameHere_35 ⟨Nat.zero_le _, Nat.zero_le _⟩) hS (fun H locs hP hS => ?_)
        refine lv_if_eq (tgt := 74) hx hb dX9_nameHere_38 (by decide) (fun c6 => ?_) (fun c6 => ?_)
        · have hf := zif_t c6 hf
          refine lv_iload_n hx hb dX9_nameHere_74 rfl (lv_at hl 1 rfl) ?_
          obtain rfl := Option.some.inj hf
          exact x_iret hx hb hr hlocks hK hP hS dX9_nameHere_75
        · have hf := zif_f c6 hf
          refine lv_bipush (v := 27) hx hb dX9_nameHere_41 (by decide) ?_
          refine lv_iload_n hx hb dX9_nameHere_43 rfl (lv_at hl 1 rfl) ?_
          refine lv_imul hx hb dX9_nameHere_44 ?_
          refine lv_aload_n hx hb dX9_nameHere_45 rfl (lv_at hl 0 rfl) ?_
          refine x_get (j := 7) (v := .ref (G.2.1 365)) hx hb hts hi9 hown hK hP zkL_359 rfl (by decide) (hts (.fieldLink RX9 25 "LeaseOfficeModel" "tape" "[I") (by decide +kernel)) rfl (by decide) dX9_nameHere_46 ?_
          refine lv_aload_n hx hb dX9_nameHere_49 rfl (lv_at hl 0 rfl) ?_
          refine lv_dup hx hb dX9_nameHere_50 rfl ?_
          refine x_get (j := 13) (v := .int (M 0 13)) hx hb hts hi9 hown hK hP zkL_359 rfl (by decide) (hts (.fieldLink RX9 214 "LeaseOfficeModel" "spot" "I") (by decide +kernel)) rfl (by decide) dX9_nameHere_51 ?_
          refine lv_dup_x1 hx hb dX9_nameHere_54 rfl rfl ?_
          refine lv_iconst (v := 1) hx hb dX9_nameHere_55 (by decide) ?_
          refine lv_iadd hx hb dX9_nameHere_56 ?_
          obtain ⟨M7, eM7, hf⟩ := zlet_e hf
          refine x_put (j := 13) (I2 := I) (J2 := M7) (ty0 := tyX9) (ty := .int) hx hb hts hi9 hown hG hK hP hS zkL_359 rfl tyX9_ok nmX9 (by decide) (hts (.fieldLink RX9 214 "LeaseOfficeModel" "spot" "I") (by decide +kernel)) rfl (by decide +kernel) rfl rfl (Nat.le_of_ble_eq_true rfl) (by rw [eM7]; exact zs_9_13 _) (by rw [eM7]; exact zo_M (k := 0)) (by decide) dX9_nameHere_57 (fun H locs hP hS => ?_)
          obtain ⟨h8, hf⟩ := zck_e hf
          refine x_iald hx hb hK hP (zK_lt zkL_365 (by decide)) (zE_15 (j := 6) zkL_365 zlL_365 rfl) (zin_e h8) dX9_nameHere_60 ?_
          refine lv_iadd hx hb dX9_nameHere_61 ?_
          refine lv_bipush (v := 97) hx hb dX9_nameHere_62 (by decide) ?_
          refine lv_isub hx hb dX9_nameHere_64 ?_
          refine lv_iconst (v := 1) hx hb dX9_nameHere_65 (by decide) ?_
          refine lv_iadd hx hb dX9_nameHere_66 ?_
          obtain ⟨w9, ew9, hf⟩ := zlet_e hf
          refine z_topi ew9 ?_
          refine lv_istore_n (lv' := [(1, .int w9), (0, .ref (G.2.1 359)), (2, .int y2)]) hx hb dX9_nameHere_67 rfl hl (by decide) rfl (fun ls hl => ?_)
          refine lv_iinc (v := (y2 + 1)) (lv' := [(2, .int (y2 + 1)), (1, .int w9), (0, .ref (G.2.1 359))]) hx hb dX9_nameHere_68 hl (k := 2) rfl rfl (by decide) rfl (fun ls hl => ?_)
          refine lv_goto (tgt := 25) hx hb dX9_nameHere_71 (by decide) ?_
          exact ih M7 w9 (y2 + 1) H locs ls hf hP hS (lv_sub hl [2, 1, 0] rfl)
  unfold f_X9_nameHere at hf
  refine lv_aload_n hx hb dX9_nameHere_0 rfl (lv_at hl 0 rfl) ?_
  refine lv_bipush (v := 32) hx hb dX9_nameHere_1 (by decide) ?_
  refine lv_bipush (v := 32) hx hb dX9_nameHere_3 (by decide) ?_
  obtain ⟨q1, hq1, hf⟩ := zb_e hf
  refine x_calli (x_runV (As := [.int 32, .int 32]) (rest := []) ⟨hx, hb, hml, hown, hts⟩ (c_X9_must l G hG I J 32 32 hq1) (cwV 2 hts gX9_nameHere_X9_must rfl rfl rfl (by decide +kernel) ⟨Nat.le_of_ble_eq_true rfl, Nat.le_of_ble_eq_true rfl⟩) hK hP zkL_359 (by decide) rfl rfl hl.1 rfl (Nat.le_of_ble_eq_true rfl) dX9_nameHere_5 ⟨Nat.zero_le _, Nat.zero_le _⟩) hS (fun H locs hP hS => ?_)
  refine lv_pop hx hb dX9_nameHere_8 rfl ?_
  refine lv_aload_n hx hb dX9_nameHere_9 rfl (lv_at hl 0 rfl) ?_
  refine lv_bipush (v := 97) hx hb dX9_nameHere_10 (by decide) ?_
  refine lv_bipush (v := 122) hx hb dX9_nameHere_12 (by decide) ?_
  obtain ⟨q2, hq2, hf⟩ := zb_e hf
  refine x_calli (x_runV (As := [.int 97, .int 122]) (rest := []) ⟨hx, hb, hml, hown, hts⟩ (c_X9_must l G hG I q1.2 97 122 hq2) (cwV 2 hts gX9_nameHere_X9_must rfl rfl rfl (by decide +kernel) ⟨Nat.le_of_ble_eq_true rfl, Nat.le_of_ble_eq_true rfl⟩) hK hP zkL_359 (by decide) rfl rfl hl.1 rfl (Nat.le_of_ble_eq_true rfl) dX9_nameHere_14 ⟨Nat.zero_le _, Nat.zero_le _⟩) hS (fun H locs hP hS => ?_)
  refine lv_bipush (v := 97) hx hb dX9_nameHere_17 (by decide) ?_
  refine lv_isub hx hb dX9_nameHere_19 ?_
  refine lv_iconst (v := 1) hx hb dX9_nameHere_20 (by decide) ?_
  refine lv_iadd hx hb dX9_nameHere_21 ?_
  obtain ⟨w3, ew3, hf⟩ := zlet_e hf
  refine z_topi ew3 ?_
  refine lv_istore_n (lv' := [(1, .int w3), (0, .ref (G.2.1 359))]) hx hb dX9_nameHere_22 rfl hl (by decide) rfl (fun ls hl => ?_)
  refine lv_iconst (v := 0) hx hb dX9_nameHere_23 (by decide) ?_
  refine lv_istore_n (lv' := [(2, .int 0), (1, .int w3), (0, .ref (G.2.1 359))]) hx hb dX9_nameHere_24 rfl hl (by decide) rfl (fun ls hl => ?_)
  exact L25 zFu q2.2 w3 0 H locs ls hf hP hS (lv_sub hl [2, 1, 0] rfl)
set_option maxRecDepth 100000 in
set_option maxHeartbeats 4000000 in
theorem c_X9_number (l : Launch) (G : zGT) (hG : zOK G) (I J : zM) {r : Int32 × zM} (hf : f_X9_number J = some r) : Met l yX9_number wsX9_number (zrm 3 66) (va_Pc [.ref (G.2.1 359)] (zS G I J)) (zQi G r.1 I r.2) 0 0 (zA G) := by
  refine zMet (cc := cX9_number) (n := 3) (ret := (some .int)) (by decide) rfl (Nat.le_of_ble_eq_true rfl) ?_
  intro p e s m args below meth c H locs ls F hK hP hS hl
  obtain ⟨hx, hb, hr, hml, hts, hown, hlocks⟩ := F
  have hown : s.vm.findClass RX9 = some m.cls := hown
  have hl : lv_has ls 3 [(0, .ref (G.2.1 359))] := hl
  have hi9 : ∀ w ∈ wsX90, w ∈ wsX9_number := fun _ h => List.mem_cons_of_mem _ (List.mem_append_right _ h)
  have L23 : ∀ (n : Nat) (M : zM) (y1 : Int32) (y2 : Int32) (H : Heap) (locs : List Loc) (ls : Array Slot), f_X9_number_l23 n M y1 y2 = some r → va_P G.1 vwCl (zW G I M) H → va_S (zA G) s.heap H locs → lv_has ls 3 [(0, .ref (G.2.1 359)), (1, .int y1), (2, .int y2)] → W p l e (zrm 3 66) s m args below meth c H locs 0 0 (MQ below (zQi G r.1 I r.2) args s 0 0 (zA G)) (F0 m 23 ls []) := by
    intro n
    induction n with
    | zero =>
      intro M y1 y2 H locs ls hf
      rw [f_X9_number_l23] at hf
      cases hf
    | succ n ih =>
      intro M y1 y2 H locs ls hf hP hS hl
      rw [f_X9_number_l23] at hf
      refine lv_iload_n hx hb dX9_number_23 rfl (lv_at hl 2 rfl) ?_
      refine lv_iconst (v := 2) hx hb dX9_number_24 (by decide) ?_
      refine lv_icmp_ge (tgt := 70) hx hb dX9_number_25 (by decide) (fun c4 => ?_) (fun c4 => ?_)
      · have hf := zif_t c4 hf
        refine lv_iload_n hx hb dX9_number_70 rfl (lv_at hl 1 rfl) ?_
        obtain rfl := Option.some.inj hf
        exact x_iret hx hb hr hlocks hK hP hS dX9_number_71
      · have hf := zif_f c4 hf
        refine lv_aload_n hx hb dX9_number_28 rfl (lv_at hl 0 rfl) ?_
        refine lv_bipush (v := 48) hx hb dX9_number_29 (by decide) ?_
        refine lv_bipush (v := 57) hx hb dX9_number_31 (by decide) ?_
        obtain ⟨q5, hq5, hf⟩ := zb_e hf
        refine x_calli (x_runV (As := [.int 48, .int 57]) (rest := []) ⟨hx, hb, hml, hown, hts⟩ (c_X9_sees l G hG I M 48 57 hq5) (cwV 2 hts gX9_number_X9_sees rfl rfl rfl (by decide +kernel) ⟨Nat.le_of_ble_eq_true rfl, Nat.le_of_ble_eq_true rfl⟩) hK hP zkL_359 (by decide) rfl rfl hl.1 rfl (Nat.le_of_ble_eq_true rfl) dX9_number_33 ⟨Nat.zero_le _, Nat.zero_le _⟩) hS (fun H locs hP hS => ?_)
        refine lv_if_eq (tgt := 70) hx hb dX9_number_36 (by decide) (fun c6 => ?_) (fun c6 => ?_)
        · have hf := zif_t c6 hf
          refine lv_iload_n hx hb dX9_number_70 rfl (lv_at hl 1 rfl) ?_
          obtain rfl := Option.some.inj hf
          exact x_iret hx hb hr hlocks hK hP hS dX9_number_71
        · have hf := zif_f c6 hf
          refine lv_bipush (v := 10) hx hb dX9_number_39 (by decide) ?_
          refine lv_iload_n hx hb dX9_number_41 rfl (lv_at hl 1 rfl) ?_
          refine lv_imul hx hb dX9_number_42 ?_
          refine lv_aload_n hx hb dX9_number_43 rfl (lv_at hl 0 rfl) ?_
          refine x_get (j := 7) (v := .ref (G.2.1 365)) hx hb hts hi9 hown hK hP zkL_359 rfl (by decide) (hts (.fieldLink RX9 25 "LeaseOfficeModel" "tape" "[I") (by decide +kernel)) rfl (by decide) dX9_number_44 ?_
          refine lv_aload_n hx hb dX9_number_47 rfl (lv_at hl 0 rfl) ?_
          refine lv_dup hx hb dX9_number_48 rfl ?_
          refine x_get (j := 13) (v := .int (M 0 13)) hx hb hts hi9 hown hK hP zkL_359 rfl (by decide) (hts (.fieldLink RX9 214 "LeaseOfficeModel" "spot" "I") (by decide +kernel)) rfl (by decide) dX9_number_49 ?_
          refine lv_dup_x1 hx hb dX9_number_52 rfl rfl ?_
          refine lv_iconst (v := 1) hx hb dX9_number_53 (by decide) ?_
          refine lv_iadd hx hb dX9_number_54 ?_
          obtain ⟨M7, eM7, hf⟩ := zlet_e hf
          refine x_put (j := 13) (I2 := I) (J2 := M7) (ty0 := tyX9) (ty := .int) hx hb hts hi9 hown hG hK hP hS zkL_359 rfl tyX9_ok nmX9 (by decide) (hts (.fieldLink RX9 214 "LeaseOfficeModel" "spot" "I") (by decide +kernel)) rfl (by decide +kernel) rfl rfl (Nat.le_of_ble_eq_true rfl) (by rw [eM7]; exact zs_9_13 _) (by rw [eM7]; exact zo_M (k := 0)) (by decide) dX9_number_55 (fun H locs hP hS => ?_)
          obtain ⟨h8, hf⟩ := zck_e hf
          refine x_iald hx hb hK hP (zK_lt zkL_365 (by decide)) (zE_15 (j := 6) zkL_365 zlL_365 rfl) (zin_e h8) dX9_number_58 ?_
          refine lv_iadd hx hb dX9_number_59 ?_
          refine lv_bipush (v := 48) hx hb dX9_number_60 (by decide) ?_
          refine lv_isub hx hb dX9_number_62 ?_
          obtain ⟨w9, ew9, hf⟩ := zlet_e hf
          refine z_topi ew9 ?_
          refine lv_istore_n (lv' := [(1, .int w9), (0, .ref (G.2.1 359)), (2, .int y2)]) hx hb dX9_number_63 rfl hl (by decide) rfl (fun ls hl => ?_)
          refine lv_iinc (v := (y2 + 1)) (lv' := [(2, .int (y2 + 1)), (1, .int w9), (0, .ref (G.2.1 359))]) hx hb dX9_number_64 hl (k := 2) rfl rfl (by decide) rfl (fun ls hl => ?_)
          refine lv_goto (tgt := 23) hx hb dX9_number_67 (by decide) ?_
          exact ih M7 w9 (y2 + 1) H locs ls hf hP hS (lv_sub hl [2, 1, 0] rfl)
  unfold f_X9_number at hf
  refine lv_aload_n hx hb dX9_number_0 rfl (lv_at hl 0 rfl) ?_
  refine lv_bipush (v := 32) hx hb dX9_number_1 (by decide) ?_
  refine lv_bipush (v := 32) hx hb dX9_number_3 (by decide) ?_
  obtain ⟨q1, hq1, hf⟩ := zb_e hf
  refine x_calli (x_runV (As := [.int 32, .int 32]) (rest := []) ⟨hx, hb, hml, hown, hts⟩ (c_X9_must l G hG I J 32 32 hq1) (cwV 2 hts gX9_number_X9_must rfl rfl rfl (by decide +kernel) ⟨Nat.le_of_ble_eq_true rfl, Nat.le_of_ble_eq_true rfl⟩) hK hP zkL_359 (by decide) rfl rfl hl.1 rfl (Nat.le_of_ble_eq_true rfl) dX9_number_5 ⟨Nat.zero_le _, Nat.zero_le _⟩) hS (fun H locs hP hS => ?_)
  refine lv_pop hx hb dX9_number_8 rfl ?_
  refine lv_aload_n hx hb dX9_number_9 rfl (lv_at hl 0 rfl) ?_
  refine lv_bipush (v := 48) hx hb dX9_number_10 (by decide) ?_
  refine lv_bipush (v := 57) hx hb dX9_number_12 (by decide) ?_
  obtain ⟨q2, hq2, hf⟩ := zb_e hf
  refine x_calli (x_runV (As := [.int 48, .int 57]) (rest := []) ⟨hx, hb, hml, hown, hts⟩ (c_X9_must l G hG I q1.2 48 57 hq2) (cwV 2 hts gX9_number_X9_must rfl rfl rfl (by decide +kernel) ⟨Nat.le_of_ble_eq_true rfl, Nat.le_of_ble_eq_true rfl⟩) hK hP zkL_359 (by decide) rfl rfl hl.1 rfl (Nat.le_of_ble_eq_true rfl) dX9_number_14 ⟨Nat.zero_le _, Nat.zero_le _⟩) hS (fun H locs hP hS => ?_)
  refine lv_bipush (v := 48) hx hb dX9_number_17 (by decide) ?_
  refine lv_isub hx hb dX9_number_19 ?_
  obtain ⟨w3, ew3, hf⟩ := zlet_e hf
  refine z_topi ew3 ?_
  refine lv_istore_n (lv' := [(1, .int w3), (0, .ref (G.2.1 359))]) hx hb dX9_number_20 rfl hl (by decide) rfl (fun ls hl => ?_)
  refine lv_iconst (v := 0) hx hb dX9_number_21 (by decide) ?_
  refine lv_istore_n (lv' := [(2, .int 0), (1, .int w3), (0, .ref (G.2.1 359))]) hx hb dX9_number_22 rfl hl (by decide) rfl (fun ls hl => ?_)
  exact L23 zFu q2.2 w3 0 H locs ls hf hP hS (lv_sub hl [2, 1, 0] rfl)
set_option maxRecDepth 100000 in
set_option maxHeartbeats 4000000 in
theorem c_X9_line (l : Launch) (G : zGT) (hG : zOK G) (I J : zM) {r : Int32 × zM} (hf : f_X9_line J = some r) : Met l yX9_line wsX9_line (zrm 4 88) (va_Pc [.ref (G.2.1 359)] (zS G I J)) (zQi G r.1 I r.2) 0 0 (zA G) := by
  refine zMet (cc := cX9_line) (n := 4) (ret := (some .int)) (by decide) rfl (Nat.le_of_ble_eq_true rfl) ?_
  intro p e s m args below meth c H locs ls F hK hP hS hl
  obtain ⟨hx, hb, hr, hml, hts, hown, hlocks⟩ := F
  have hown : s.vm.findClass RX9 = some m.cls := hown
  have hl : lv_has ls 4 [(0, .ref (G.2.1 359))] := hl
  have hi9 : ∀ w ∈ wsX90, w ∈ wsX9_line := fun _ h => List.mem_cons_of_mem _ (List.mem_append_right _ h)
  have L77 : ∀ (y1 : Int32) (y2 : Int32) (n : Nat) (M : zM) (y3 : Int32) (H : Heap) (locs : List Loc) (ls : Array Slot), f_X9_line_l77 y1 y2 n M y3 = some r → va_P G.1 vwCl (zW G I M) H → va_S (zA G) s.heap H locs → lv_has ls 4 [(0, .ref (G.2.1 359)), (1, .int y1), (2, .int y2), (3, .int y3)] → W p l e (zrm 4 88) s m args below meth c H locs 0 0 (MQ below (zQi G r.1 I r.2) args s 0 0 (zA G)) (F0 m 77 ls []) := by
    intro y1 y2 n
    induction n with
    | zero =>
      intro M y3 H locs ls hf
      rw [f_X9_line_l77] at hf
      cases hf
    | succ n ih =>
      intro M y3 H locs ls hf hP hS hl
      rw [f_X9_line_l77] at hf
      refine lv_iload_n hx hb dX9_line_77 rfl (lv_at hl 3 rfl) ?_
      refine lv_iload_n hx hb dX9_line_78 rfl (lv_at hl 2 rfl) ?_
      refine lv_icmp_ge (tgt := 115) hx hb dX9_line_79 (by decide) (fun c5 => ?_) (fun c5 => ?_)
      · have hf := zif_t c5 hf
        refine lv_iload_n hx hb dX9_line_115 rfl (lv_at hl 1 rfl) ?_
        obtain rfl := Option.some.inj hf
        exact x_iret hx hb hr hlocks hK hP hS dX9_line_116
      · have hf := zif_f c5 hf
        refine lv_aload_n hx hb dX9_line_82 rfl (lv_at hl 0 rfl) ?_
        refine x_get (j := 15) (v := .ref (G.2.1 376)) hx hb hts hi9 hown hK hP zkL_359 rfl (by decide) (hts (.fieldLink RX9 42 "LeaseOfficeModel" "told" "[I") (by decide +kernel)) rfl (by decide) dX9_line_83 ?_
        refine lv_iload_n hx hb dX9_line_86 rfl (lv_at hl 3 rfl) ?_
        refine lv_iload_n hx hb dX9_line_87 rfl (lv_at hl 1 rfl) ?_
        refine lv_bipush (v := 112) hx hb dX9_line_88 (by decide) ?_
        refine lv_icmp_ne (tgt := 104) hx hb dX9_line_90 (by decide) (fun c6 => ?_) (fun c6 => ?_)
        · have hf := zif_f c6 hf
          refine lv_aload_n hx hb dX9_line_104 rfl (lv_at hl 0 rfl) ?_
          obtain ⟨q7, hq7, hf⟩ := zb_e hf
          refine x_calli (x_runV (As := []) (rest := [.int y3, .ref (G.2.1 376)]) ⟨hx, hb, hml, hown, hts⟩ (c_X9_number l G hG I M hq7) (cwV 0 hts gX9_line_X9_number rfl rfl rfl (by decide +kernel) ⟨Nat.le_of_ble_eq_true rfl, Nat.le_of_ble_eq_true rfl⟩) hK hP zkL_359 (by decide) rfl rfl hl.1 rfl (Nat.le_of_ble_eq_true rfl) dX9_line_105 ⟨Nat.zero_le _, Nat.zero_le _⟩) hS (fun H locs hP hS => ?_)
          obtain ⟨h9, hf⟩ := zck_e hf
          obtain ⟨M8, eM8, hf⟩ := zlet_e hf
          refine x_iastM (j := 17) (a := y3.toNatClampNeg) eM8 rfl hx hb hG hK hP hS zkL_376 zlL_376 (zin_e h9) dX9_line_108 (fun H locs hP hS => ?_)
          refine lv_iinc (v := (y3 + 1)) (lv' := [(3, .int (y3 + 1)), (0, .ref (G.2.1 359)), (1, .int y1), (2, .int y2)]) hx hb dX9_line_109 hl (k := 3) rfl rfl (by decide) rfl (fun ls hl => ?_)
          refine lv_goto (tgt := 77) hx hb dX9_line_112 (by decide) ?_
          exact ih M8 (y3 + 1) H locs ls hf hP hS (lv_sub hl [1, 2, 3, 0] rfl)
        · have hf := zif_t c6 hf
          refine lv_iload_n hx hb dX9_line_93 rfl (lv_at hl 3 rfl) ?_
          refine lv_if_ne (tgt := 104) hx hb dX9_line_94 (by decide) (fun c10 => ?_) (fun c10 => ?_)
          · have hf := zif_f c10 hf
            refine lv_aload_n hx hb dX9_line_104 rfl (lv_at hl 0 rfl) ?_
            obtain ⟨q11, hq11, hf⟩ := zb_e hf
            refine x_calli (x_runV (As := []) (rest := [.int y3, .ref (G.2.1 376)]) ⟨hx, hb, hml, hown, hts⟩ (c_X9_number l G hG I M hq11) (cwV 0 hts gX9_line_X9_number rfl rfl rfl (by decide +kernel) ⟨Nat.le_of_ble_eq_true rfl, Nat.le_of_ble_eq_true rfl⟩) hK hP zkL_359 (by decide) rfl rfl hl.1 rfl (Nat.le_of_ble_eq_true rfl) dX9_line_105 ⟨Nat.zero_le _, Nat.zero_le _⟩) hS (fun H locs hP hS => ?_)
            obtain ⟨h13, hf⟩ := zck_e hf
            obtain ⟨M12, eM12, hf⟩ := zlet_e hf
            refine x_iastM (j := 17) (a := y3.toNatClampNeg) eM12 rfl hx hb hG hK hP hS zkL_376 zlL_376 (zin_e h13) dX9_line_108 (fun H locs hP hS => ?_)
            refine lv_iinc (v := (y3 + 1)) (lv' := [(3, .int (y3 + 1)), (0, .ref (G.2.1 359)), (1, .int y1), (2, .int y2)]) hx hb dX9_line_109 hl (k := 3) rfl rfl (by decide) rfl (fun ls hl => ?_)
            refine lv_goto (tgt := 77) hx hb dX9_line_112 (by decide) ?_
            exact ih M12 (y3 + 1) H locs ls hf hP hS (lv_sub hl [1, 2, 3, 0] rfl)
          · have hf := zif_t c10 hf
            refine lv_aload_n hx hb dX9_line_97 rfl (lv_at hl 0 rfl) ?_
            obtain ⟨q14, hq14, hf⟩ := zb_e hf
            refine x_calli (x_runV (As := []) (rest := [.int y3, .ref (G.2.1 376)]) ⟨hx, hb, hml, hown, hts⟩ (c_X9_nameHere l G hG I M hq14) (cwV 0 hts gX9_line_X9_nameHere rfl rfl rfl (by decide +kernel) ⟨Nat.le_of_ble_eq_true rfl, Nat.le_of_ble_eq_true rfl⟩) hK hP zkL_359 (by decide) rfl rfl hl.1 rfl (Nat.le_of_ble_eq_true rfl) dX9_line_98 ⟨Nat.zero_le _, Nat.zero_le _⟩) hS (fun H locs hP hS => ?_)
            refine lv_goto (tgt := 108) hx hb dX9_line_101 (by decide) ?_
            obtain ⟨h16, hf⟩ := zck_e hf
            obtain ⟨M15, eM15, hf⟩ := zlet_e hf
            refine x_iastM (j := 17) (a := y3.toNatClampNeg) eM15 rfl hx hb hG hK hP hS zkL_376 zlL_376 (zin_e h16) dX9_line_108 (fun H locs hP hS => ?_)
            refine lv_iinc (v := (y3 + 1)) (lv' := [(3, .int (y3 + 1)), (0, .ref (G.2.1 359)), (1, .int y1), (2, .int y2)]) hx hb dX9_line_109 hl (k := 3) rfl rfl (by decide) rfl (fun ls hl => ?_)
            refine lv_goto (tgt := 77) hx hb dX9_line_112 (by decide) ?_
            exact ih M15 (y3 + 1) H locs ls hf hP hS (lv_sub hl [1, 2, 3, 0] rfl)
  have J31 : ∀ (M : zM) (s0 : Int32) (H : Heap) (locs : List Loc) (ls : Array Slot), f_X9_line_j31 M s0 = some r → va_P G.1 vwCl (zW G I M) H → va_S (zA G) s.heap H locs → lv_has ls 4 [(0, .ref (G.2.1 359))] → W p l e (zrm 4 88) s m args below meth c H locs 0 0 (MQ below (zQi G r.1 I r.2) args s 0 0 (zA G)) (F0 m 31 ls [.int s0]) := by
    intro M s0 H locs ls hf hP hS hl
    unfold f_X9_line_j31 at hf
    refine lv_istore_n (lv' := [(1, .int s0), (0, .ref (G.2.1 359))]) hx hb dX9_line_31 rfl hl (by decide) rfl (fun ls hl => ?_)
    refine lv_iload_n hx hb dX9_line_32 rfl (lv_at hl 0 rfl) ?_
    obtain ⟨q2, hq2, hf⟩ := zb_e hf
    refine x_calli (x_runS (As := [.int s0]) (rest := []) ⟨hx, hb, hml, hown, hts⟩ (c_X9_partsOf l G hG I M s0 hq2) (va_cwS 1 hts gX9_line_X9_partsOf rfl rfl rfl (by decide +kernel) ⟨Nat.le_of_ble_eq_true rfl, Nat.le_of_ble_eq_true rfl⟩) hK hP rfl hl.1 rfl (Nat.le_of_ble_eq_true rfl) dX9_line_33 ⟨Nat.zero_le _, Nat.zero_le _⟩) hS (fun H locs hP hS => ?_)
    refine lv_istore_n (lv' := [(2, .int q2), (1, .int s0), (0, .ref (G.2.1 359))]) hx hb dX9_line_36 rfl hl (by decide) rfl (fun ls hl => ?_)
    refine lv_iload_n hx hb dX9_line_37 rfl (lv_at hl 0 rfl) ?_
    refine lv_if_ge (tgt := 65) hx hb dX9_line_38 (by decide) (fun c3 => ?_) (fun c3 => ?_)
    · have hf := zif_t c3 hf
      refine lv_aload_n hx hb dX9_line_65 rfl (lv_at hl 2 rfl) ?_
      refine lv_dup hx hb dX9_line_66 rfl ?_
      refine x_get (j := 13) (v := .int (M 0 13)) hx hb hts hi9 hown hK hP zkL_359 rfl (by decide) (hts (.fieldLink RX9 214 "LeaseOfficeModel" "spot" "I") (by decide +kernel)) rfl (by decide) dX9_line_67 ?_
      refine lv_iconst (v := 1) hx hb dX9_line_70 (by decide) ?_
      refine lv_iadd hx hb dX9_line_71 ?_
      obtain ⟨M4, eM4, hf⟩ := zlet_e hf
      refine x_put (j := 13) (I2 := I) (J2 := M4) (ty0 := tyX9) (ty := .int) hx hb hts hi9 hown hG hK hP hS zkL_359 rfl tyX9_ok nmX9 (by decide) (hts (.fieldLink RX9 214 "LeaseOfficeModel" "spot" "I") (by decide +kernel)) rfl (by decide +kernel) rfl rfl (Nat.le_of_ble_eq_true rfl) (by rw [eM4]; exact zs_9_13 _) (by rw [eM4]; exact zo_M (k := 0)) (by decide) dX9_line_72 (fun H locs hP hS => ?_)
      refine lv_iconst (v := 0) hx hb dX9_line_75 (by decide) ?_
      refine lv_istore_n (lv' := [(3, .int 0), (2, .int q2), (1, .int s0), (0, .ref (G.2.1 359))]) hx hb dX9_line_76 rfl hl (by decide) rfl (fun ls hl => ?_)
      exact L77 s0 q2 zFu M4 0 H locs ls hf hP hS (lv_sub hl [3, 2, 1, 0] rfl)
    · have hf := zif_f c3 hf
      refine lv_aload_n hx hb dX9_line_41 rfl (lv_at hl 2 rfl) ?_
      refine lv_aload_n hx hb dX9_line_42 rfl (lv_at hl 2 rfl) ?_
      refine x_get (j := 14) (v := .int (M 0 14)) hx hb hts hi9 hown hK hP zkL_359 rfl (by decide) (hts (.fieldLink RX9 211 "LeaseOfficeModel" "fault" "I") (by decide +kernel)) rfl (by decide) dX9_line_43 ?_
      refine lv_if_ge (tgt := 56) hx hb dX9_line_46 (by decide) (fun c17 => ?_) (fun c17 => ?_)
      · have hf := zif_t c17 hf
        refine lv_aload_n hx hb dX9_line_56 rfl (lv_at hl 2 rfl) ?_
        refine x_get (j := 14) (v := .int (M 0 14)) hx hb hts hi9 hown hK hP zkL_359 rfl (by decide) (hts (.fieldLink RX9 211 "LeaseOfficeModel" "fault" "I") (by decide +kernel)) rfl (by decide) dX9_line_57 ?_
        obtain ⟨M18, eM18, hf⟩ := zlet_e hf
        refine x_put (j := 14) (I2 := I) (J2 := M18) (ty0 := tyX9) (ty := .int) hx hb hts hi9 hown hG hK hP hS zkL_359 rfl tyX9_ok nmX9 (by decide) (hts (.fieldLink RX9 211 "LeaseOfficeModel" "fault" "I") (by decide +kernel)) rfl (by decide +kernel) rfl rfl (Nat.le_of_ble_eq_true rfl) (by rw [eM18]; exact zs_9_14 _) (by rw [eM18]; exact zo_M (k := 0)) (by decide) dX9_line_60 (fun H locs hP hS => ?_)
        refine lv_iconst (v := 0) hx hb dX9_line_63 (by decide) ?_
        obtain rfl := Option.some.inj hf
        exact x_iret hx hb hr hlocks hK hP hS dX9_line_64
      · have hf := zif_f c17 hf
        refine lv_aload_n hx hb dX9_line_49 rfl (lv_at hl 2 rfl) ?_
        refine x_get (j := 13) (v := .int (M 0 13)) hx hb hts hi9 hown hK hP zkL_359 rfl (by decide) (hts (.fieldLink RX9 214 "LeaseOfficeModel" "spot" "I") (by decide +kernel)) rfl (by decide) dX9_line_50 ?_
        refine lv_goto (tgt := 60) hx hb dX9_line_53 (by decide) ?_
        obtain ⟨M19, eM19, hf⟩ := zlet_e hf
        refine x_put (j := 14) (I2 := I) (J2 := M19) (ty0 := tyX9) (ty := .int) hx hb hts hi9 hown hG hK hP hS zkL_359 rfl tyX9_ok nmX9 (by decide) (hts (.fieldLink RX9 211 "LeaseOfficeModel" "fault" "I") (by decide +kernel)) rfl (by decide +kernel) rfl rfl (Nat.le_of_ble_eq_true rfl) (by rw [eM19]; exact zs_9_14 _) (by rw [eM19]; exact zo_M (k := 0)) (by decide) dX9_line_60 (fun H locs hP hS => ?_)
        refine lv_iconst (v := 0) hx hb dX9_line_63 (by decide) ?_
        obtain rfl := Option.some.inj hf
        exact x_iret hx hb hr hlocks hK hP hS dX9_line_64
  have J30 : ∀ (M : zM) (H : Heap) (locs : List Loc) (ls : Array Slot), f_X9_line_j30 M = some r → va_P G.1 vwCl (zW G I M) H → va_S (zA G) s.heap H locs → lv_has ls 4 [(0, .ref (G.2.1 359))] → W p l e (zrm 4 88) s m args below meth c H locs 0 0 (MQ below (zQi G r.1 I r.2) args s 0 0 (zA G)) (F0 m 30 ls []) := by
    intro M H locs ls hf hP hS hl
    unfold f_X9_line_j30 at hf
    refine lv_iconst (v := 0) hx hb dX9_line_30 (by decide) ?_
    exact J31 M 0 H locs ls hf hP hS (lv_sub hl [0] rfl)
  unfold f_X9_line at hf
  refine lv_aload_n hx hb dX9_line_0 rfl (lv_at hl 0 rfl) ?_
  refine x_get (j := 14) (v := .int (J 0 14)) hx hb hts hi9 hown hK hP zkL_359 rfl (by decide) (hts (.fieldLink RX9 211 "LeaseOfficeModel" "fault" "I") (by decide +kernel)) rfl (by decide) dX9_line_1 ?_
  refine lv_if_ge (tgt := 30) hx hb dX9_line_4 (by decide) (fun c1 => ?_) (fun c1 => ?_)
  · have hf := zif_t c1 hf
    exact J30 J H locs ls hf hP hS (lv_sub hl [0] rfl)
  · have hf := zif_f c1 hf
    refine lv_aload_n hx hb dX9_line_7 rfl (lv_at hl 0 rfl) ?_
    refine x_get (j := 13) (v := .int (J 0 13)) hx hb hts hi9 hown hK hP zkL_359 rfl (by decide) (hts (.fieldLink RX9 214 "LeaseOfficeModel" "spot" "I") (by decide +kernel)) rfl (by decide) dX9_line_8 ?_
    refine lv_aload_n hx hb dX9_line_11 rfl (lv_at hl 0 rfl) ?_
    refine x_get (j := 8) (v := .int (J 0 8)) hx hb hts hi9 hown hK hP zkL_359 rfl (by decide) (hts (.fieldLink RX9 208 "LeaseOfficeModel" "tapeMany" "I") (by decide +kernel)) rfl (by decide) dX9_line_12 ?_
    refine lv_icmp_ge (tgt := 30) hx hb dX9_line_15 (by decide) (fun c20 => ?_) (fun c20 => ?_)
    · have hf := zif_t c20 hf
      exact J30 J H locs ls hf hP hS (lv_sub hl [0] rfl)
    · have hf := zif_f c20 hf
      refine lv_aload_n hx hb dX9_line_18 rfl (lv_at hl 0 rfl) ?_
      refine x_get (j := 7) (v := .ref (G.2.1 365)) hx hb hts hi9 hown hK hP zkL_359 rfl (by decide) (hts (.fieldLink RX9 25 "LeaseOfficeModel" "tape" "[I") (by decide +kernel)) rfl (by decide) dX9_line_19 ?_
      refine lv_aload_n hx hb dX9_line_22 rfl (lv_at hl 0 rfl) ?_
      refine x_get (j := 13) (v := .int (J 0 13)) hx hb hts hi9 hown hK hP zkL_359 rfl (by decide) (hts (.fieldLink RX9 214 "LeaseOfficeModel" "spot" "I") (by decide +kernel)) rfl (by decide) dX9_line_23 ?_
      obtain ⟨h21, hf⟩ := zck_e hf
      refine x_iald hx hb hK hP (zK_lt zkL_365 (by decide)) (zE_15 (j := 6) zkL_365 zlL_365 rfl) (zin_e h21) dX9_line_26 ?_
      refine lv_goto (tgt := 31) hx hb dX9_line_27 (by decide) ?_
      exact J31 J (J 6 (J 0 13).toNatClampNeg) H locs ls hf hP hS (lv_sub hl [0] rfl)
set_option maxRecDepth 100000 in
set_option maxHeartbeats 4000000 in
theorem c_X9_isForm (l : Launch) (G : zGT) (hG : zOK G) (I J : zM) {r : Int32 × zM} (hf : f_X9_isForm J = some r) : Met l yX9_isForm wsX9_isForm (zrm 5 111) (va_Pc [.ref (G.2.1 359)] (zS G I J)) (zQi G r.1 I r.2) 0 0 (zA G) := by
  refine zMet (cc := cX9_isForm) (n := 1) (ret := (some .boolean)) (by decide) rfl (Nat.le_of_ble_eq_true rfl) ?_
  intro p e s m args below meth c H locs ls F hK hP hS hl
  obtain ⟨hx, hb, hr, hml, hts, hown, hlocks⟩ := F
  have hown : s.vm.findClass RX9 = some m.cls := hown
  have hl : lv_has ls 1 [(0, .ref (G.2.1 359))] := hl
  have hi9 : ∀ w ∈ wsX90, w ∈ wsX9_isForm := fun _ h => List.mem_cons_of_mem _ (List.mem_append_right _ h)
  have L15 : ∀ (K : zM → Option (Int32 × zM)) (hKK : ∀ (M2 : zM) (H : Heap) (locs : List Loc) (ls : Array Slot), K M2 = some r → va_P G.1 vwCl (zW G I M2) H → va_S (zA G) s.heap H locs → lv_has ls 1 [(0, .ref (G.2.1 359))] → W p l e (zrm 5 111) s m args below meth c H locs 0 0 (MQ below (zQi G r.1 I r.2) args s 0 0 (zA G)) (F0 m 50 ls [])) (n : Nat) (M : zM) (H : Heap) (locs : List Loc) (ls : Array Slot), f_X9_isForm_l15 K n M = some r → va_P G.1 vwCl (zW G I M) H → va_S (zA G) s.heap H locs → lv_has ls 1 [(0, .ref (G.2.1 359))] → W p l e (zrm 5 111) s m args below meth c H locs 0 0 (MQ below (zQi G r.1 I r.2) args s 0 0 (zA G)) (F0 m 15 ls []) := by
    intro K hKK n
    induction n with
    | zero =>
      intro M H locs ls hf
      rw [f_X9_isForm_l15] at hf
      cases hf
    | succ n ih =>
      intro M H locs ls hf hP hS hl
      rw [f_X9_isForm_l15] at hf
      refine lv_aload_n hx hb dX9_isForm_15 rfl (lv_at hl 0 rfl) ?_
      refine x_get (j := 14) (v := .int (M 0 14)) hx hb hts hi9 hown hK hP zkL_359 rfl (by decide) (hts (.fieldLink RX9 211 "LeaseOfficeModel" "fault" "I") (by decide +kernel)) rfl (by decide) dX9_isForm_16 ?_
      refine lv_if_ge (tgt := 50) hx hb dX9_isForm_19 (by decide) (fun c4 => ?_) (fun c4 => ?_)
      · have hf := zif_t c4 hf
        exact hKK M H locs ls hf hP hS (lv_sub hl [0] rfl)
      · have hf := zif_f c4 hf
        refine lv_aload_n hx hb dX9_isForm_22 rfl (lv_at hl 0 rfl) ?_
        refine x_get (j := 13) (v := .int (M 0 13)) hx hb hts hi9 hown hK hP zkL_359 rfl (by decide) (hts (.fieldLink RX9 214 "LeaseOfficeModel" "spot" "I") (by decide +kernel)) rfl (by decide) dX9_isForm_23 ?_
        refine lv_aload_n hx hb dX9_isForm_26 rfl (lv_at hl 0 rfl) ?_
        refine x_get (j := 8) (v := .int (M 0 8)) hx hb hts hi9 hown hK hP zkL_359 rfl (by decide) (hts (.fieldLink RX9 208 "LeaseOfficeModel" "tapeMany" "I") (by decide +kernel)) rfl (by decide) dX9_isForm_27 ?_
        refine lv_icmp_ge (tgt := 50) hx hb dX9_isForm_30 (by decide) (fun c5 => ?_) (fun c5 => ?_)
        · have hf := zif_t c5 hf
          exact hKK M H locs ls hf hP hS (lv_sub hl [0] rfl)
        · have hf := zif_f c5 hf
          refine lv_aload_n hx hb dX9_isForm_33 rfl (lv_at hl 0 rfl) ?_
          refine lv_bipush (v := 59) hx hb dX9_isForm_34 (by decide) ?_
          refine lv_bipush (v := 59) hx hb dX9_isForm_36 (by decide) ?_
          obtain ⟨q6, hq6, hf⟩ := zb_e hf
          refine x_calli (x_runV (As := [.int 59, .int 59]) (rest := []) ⟨hx, hb, hml, hown, hts⟩ (c_X9_must l G hG I M 59 59 hq6) (cwV 2 hts gX9_isForm_X9_must rfl rfl rfl (by decide +kernel) ⟨Nat.le_of_ble_eq_true rfl, Nat.le_of_ble_eq_true rfl⟩) hK hP zkL_359 (by decide) rfl rfl hl.1 rfl (Nat.le_of_ble_eq_true rfl) dX9_isForm_38 ⟨Nat.zero_le _, Nat.zero_le _⟩) hS (fun H locs hP hS => ?_)
          refine lv_pop hx hb dX9_isForm_41 rfl ?_
          refine lv_aload_n hx hb dX9_isForm_42 rfl (lv_at hl 0 rfl) ?_
          obtain ⟨q7, hq7, hf⟩ := zb_e hf
          refine x_calli (x_runV (As := []) (rest := []) ⟨hx, hb, hml, hown, hts⟩ (c_X9_line l G hG I q6.2 hq7) (cwV 0 hts gX9_isForm_X9_line rfl rfl rfl (by decide +kernel) ⟨Nat.le_of_ble_eq_true rfl, Nat.le_of_ble_eq_true rfl⟩) hK hP zkL_359 (by decide) rfl rfl hl.1 rfl (Nat.le_of_ble_eq_true rfl) dX9_isForm_43 ⟨Nat.zero_le _, Nat.zero_le _⟩) hS (fun H locs hP hS => ?_)
          refine lv_pop hx hb dX9_isForm_46 rfl ?_
          refine lv_goto (tgt := 15) hx hb dX9_isForm_47 (by decide) ?_
          exact ih q7.2 H locs ls hf hP hS (lv_sub hl [0] rfl)
  have J50 : ∀ (M : zM) (H : Heap) (locs : List Loc) (ls : Array Slot), f_X9_isForm_j50 M = some r → va_P G.1 vwCl (zW G I M) H → va_S (zA G) s.heap H locs → lv_has ls 1 [(0, .ref (G.2.1 359))] → W p l e (zrm 5 111) s m args below meth c H locs 0 0 (MQ below (zQi G r.1 I r.2) args s 0 0 (zA G)) (F0 m 50 ls []) := by
    intro M H locs ls hf hP hS hl
    unfold f_X9_isForm_j50 at hf
    refine lv_aload_n hx hb dX9_isForm_50 rfl (lv_at hl 0 rfl) ?_
    refine x_get (j := 14) (v := .int (M 0 14)) hx hb hts hi9 hown hK hP zkL_359 rfl (by decide) (hts (.fieldLink RX9 211 "LeaseOfficeModel" "fault" "I") (by decide +kernel)) rfl (by decide) dX9_isForm_51 ?_
    refine lv_if_ge (tgt := 61) hx hb dX9_isForm_54 (by decide) (fun c9 => ?_) (fun c9 => ?_)
    · have hf := zif_t c9 hf
      refine lv_iconst (v := 0) hx hb dX9_isForm_61 (by decide) ?_
      obtain rfl := Option.some.inj hf
      exact x_zret (v := 0) rfl hx hb hr hlocks hK hP hS dX9_isForm_62
    · have hf := zif_f c9 hf
      refine lv_iconst (v := 1) hx hb dX9_isForm_57 (by decide) ?_
      refine lv_goto (tgt := 62) hx hb dX9_isForm_58 (by decide) ?_
      obtain rfl := Option.some.inj hf
      exact x_zret (v := 1) rfl hx hb hr hlocks hK hP hS dX9_isForm_62
  unfold f_X9_isForm at hf
  refine lv_aload_n hx hb dX9_isForm_0 rfl (lv_at hl 0 rfl) ?_
  refine lv_iconst (v := 0) hx hb dX9_isForm_1 (by decide) ?_
  obtain ⟨M1, eM1, hf⟩ := zlet_e hf
  refine x_put (j := 13) (I2 := I) (J2 := M1) (ty0 := tyX9) (ty := .int) hx hb hts hi9 hown hG hK hP hS zkL_359 rfl tyX9_ok nmX9 (by decide) (hts (.fieldLink RX9 214 "LeaseOfficeModel" "spot" "I") (by decide +kernel)) rfl (by decide +kernel) rfl rfl (Nat.le_of_ble_eq_true rfl) (by rw [eM1]; exact zs_9_13 _) (by rw [eM1]; exact zo_M (k := 0)) (by decide) dX9_isForm_2 (fun H locs hP hS => ?_)
  refine lv_aload_n hx hb dX9_isForm_5 rfl (lv_at hl 0 rfl) ?_
  refine lv_iconst (v := (-1)) hx hb dX9_isForm_6 (by decide) ?_
  obtain ⟨M2, eM2, hf⟩ := zlet_e hf
  refine x_put (j := 14) (I2 := I) (J2 := M2) (ty0 := tyX9) (ty := .int) hx hb hts hi9 hown hG hK hP hS zkL_359 rfl tyX9_ok nmX9 (by decide) (hts (.fieldLink RX9 211 "LeaseOfficeModel" "fault" "I") (by decide +kernel)) rfl (by decide +kernel) rfl rfl (Nat.le_of_ble_eq_true rfl) (by rw [eM2]; exact zs_9_14 _) (by rw [eM2]; exact zo_M (k := 0)) (by decide) dX9_isForm_7 (fun H locs hP hS => ?_)
  refine lv_aload_n hx hb dX9_isForm_10 rfl (lv_at hl 0 rfl) ?_
  obtain ⟨q3, hq3, hf⟩ := zb_e hf
  refine x_calli (x_runV (As := []) (rest := []) ⟨hx, hb, hml, hown, hts⟩ (c_X9_line l G hG I M2 hq3) (cwV 0 hts gX9_isForm_X9_line rfl rfl rfl (by decide +kernel) ⟨Nat.le_of_ble_eq_true rfl, Nat.le_of_ble_eq_true rfl⟩) hK hP zkL_359 (by decide) rfl rfl hl.1 rfl (Nat.le_of_ble_eq_true rfl) dX9_isForm_11 ⟨Nat.zero_le _, Nat.zero_le _⟩) hS (fun H locs hP hS => ?_)
  refine lv_pop hx hb dX9_isForm_14 rfl ?_
  refine L15 _ (fun M8 H locs ls hf hP hS hl => ?_) zFu q3.2 H locs ls hf hP hS (lv_sub hl [0] rfl)
  exact J50 M8 H locs ls hf hP hS (lv_sub hl [0] rfl)
set_option maxRecDepth 100000 in
set_option maxHeartbeats 4000000 in
theorem c_X9_rankOf (l : Launch) (G : zGT) (hG : zOK G) (I J : zM) (x1 : Int32) {r : Int32} (hf : f_X9_rankOf J x1 = some r) : Met l yX9_rankOf wsX9_rankOf (zrm 2 44) (va_Pc [.ref (G.2.1 359), .int x1] (zS G I J)) (zQi G r I J) 0 0 (zA G) := by
  refine zMet (cc := cX9_rankOf) (n := 4) (ret := (some .int)) (by decide) rfl (Nat.le_of_ble_eq_true rfl) ?_
  intro p e s m args below meth c H locs ls F hK hP hS hl
  obtain ⟨hx, hb, hr, hml, hts, hown, hlocks⟩ := F
  have hown : s.vm.findClass RX9 = some m.cls := hown
  have hl : lv_has ls 4 [(0, .ref (G.2.1 359)), (1, .int x1)] := hl
  have hi9 : ∀ w ∈ wsX90, w ∈ wsX9_rankOf := fun _ h => List.mem_cons_of_mem _ (List.mem_append_right _ h)
  have L4 : ∀ (n : Nat) (y2 : Int32) (y3 : Int32) (H : Heap) (locs : List Loc) (ls : Array Slot), f_X9_rankOf_l4 J x1 n y2 y3 = some r → va_P G.1 vwCl (zW G I J) H → va_S (zA G) s.heap H locs → lv_has ls 4 [(0, .ref (G.2.1 359)), (1, .int x1), (2, .int y2), (3, .int y3)] → W p l e (zrm 2 44) s m args below meth c H locs 0 0 (MQ below (zQi G r I J) args s 0 0 (zA G)) (F0 m 4 ls []) := by
    intro n
    induction n with
    | zero =>
      intro y2 y3 H locs ls hf
      rw [f_X9_rankOf_l4] at hf
      cases hf
    | succ n ih =>
      intro y2 y3 H locs ls hf hP hS hl
      rw [f_X9_rankOf_l4] at hf
      refine lv_iload_n hx hb dX9_rankOf_4 rfl (lv_at hl 3 rfl) ?_
      refine lv_aload_n hx hb dX9_rankOf_5 rfl (lv_at hl 0 rfl) ?_
      refine x_get (j := 0) (v := .ref (G.2.1 360)) hx hb hts hi9 hown hK hP zkL_359 rfl (by decide) (hts (.fieldLink RX9 9 "LeaseOfficeModel" "g" "[I") (by decide +kernel)) rfl (by decide) dX9_rankOf_6 ?_
      refine lv_sipush (v := 1080) hx hb dX9_rankOf_9 (by decide) ?_
      refine x_ialdL (j := 1080) hx hb hK hP (zK_lt zkL_360 (by decide)) (zE_15 (j := 1) zkL_360 zlL_360 rfl) (by decide) (by decide) dX9_rankOf_12 ?_
      refine lv_icmp_ge (tgt := 44) hx hb dX9_rankOf_13 (by decide) (fun c1 => ?_) (fun c1 => ?_)
      · have hf := zif_t c1 hf
        refine lv_iload_n hx hb dX9_rankOf_44 rfl (lv_at hl 2 rfl) ?_
        obtain rfl := Option.some.inj hf
        exact x_iret hx hb hr hlocks hK hP hS dX9_rankOf_45
      · have hf := zif_f c1 hf
        refine lv_iload_n hx hb dX9_rankOf_16 rfl (lv_at hl 2 rfl) ?_
        refine lv_iload_n hx hb dX9_rankOf_17 rfl (lv_at hl 3 rfl) ?_
        refine lv_iload_n hx hb dX9_rankOf_18 rfl (lv_at hl 1 rfl) ?_
        refine lv_icmp_eq (tgt := 35) hx hb dX9_rankOf_19 (by decide) (fun c2 => ?_) (fun c2 => ?_)
        · have hf := zif_t c2 hf
          refine lv_iconst (v := 0) hx hb dX9_rankOf_35 (by decide) ?_
          refine lv_iadd hx hb dX9_rankOf_36 ?_
          obtain ⟨w3, ew3, hf⟩ := zlet_e hf
          refine z_topi ew3 ?_
          refine lv_istore_n (lv' := [(2, .int w3), (0, .ref (G.2.1 359)), (1, .int x1), (3, .int y3)]) hx hb dX9_rankOf_37 rfl hl (by decide) rfl (fun ls hl => ?_)
          refine lv_iinc (v := (y3 + 1)) (lv' := [(3, .int (y3 + 1)), (2, .int w3), (0, .ref (G.2.1 359)), (1, .int x1)]) hx hb dX9_rankOf_38 hl (k := 3) rfl rfl (by decide) rfl (fun ls hl => ?_)
          refine lv_goto (tgt := 4) hx hb dX9_rankOf_41 (by decide) ?_
          exact ih w3 (y3 + 1) H locs ls hf hP hS (lv_sub hl [2, 3, 1, 0] rfl)
        · have hf := zif_f c2 hf
          refine lv_aload_n hx hb dX9_rankOf_22 rfl (lv_at hl 0 rfl) ?_
          refine lv_iload_n hx hb dX9_rankOf_23 rfl (lv_at hl 3 rfl) ?_
          refine lv_iload_n hx hb dX9_rankOf_24 rfl (lv_at hl 1 rfl) ?_
          obtain ⟨q4, hq4, hf⟩ := zb_e hf
          refine x_calli (x_runV (As := [.int y3, .int x1]) (rest := [.int y2]) ⟨hx, hb, hml, hown, hts⟩ (c_X9_isAhead l G hG I J y3 x1 hq4) (cwV 2 hts gX9_rankOf_X9_isAhead rfl rfl rfl (by decide +kernel) ⟨Nat.le_of_ble_eq_true rfl, Nat.le_of_ble_eq_true rfl⟩) hK hP zkL_359 (by decide) rfl rfl hl.1 rfl (Nat.le_of_ble_eq_true rfl) dX9_rankOf_25 ⟨Nat.zero_le _, Nat.zero_le _⟩) hS (fun H locs hP hS => ?_)
          refine lv_if_eq (tgt := 35) hx hb dX9_rankOf_28 (by decide) (fun c5 => ?_) (fun c5 => ?_)
          · have hf := zif_t c5 hf
            refine lv_iconst (v := 0) hx hb dX9_rankOf_35 (by decide) ?_
            refine lv_iadd hx hb dX9_rankOf_36 ?_
            obtain ⟨w6, ew6, hf⟩ := zlet_e hf
            refine z_topi ew6 ?_
            refine lv_istore_n (lv' := [(2, .int w6), (0, .ref (G.2.1 359)), (1, .int x1), (3, .int y3)]) hx hb dX9_rankOf_37 rfl hl (by decide) rfl (fun ls hl => ?_)
            refine lv_iinc (v := (y3 + 1)) (lv' := [(3, .int (y3 + 1)), (2, .int w6), (0, .ref (G.2.1 359)), (1, .int x1)]) hx hb dX9_rankOf_38 hl (k := 3) rfl rfl (by decide) rfl (fun ls hl => ?_)
            refine lv_goto (tgt := 4) hx hb dX9_rankOf_41 (by decide) ?_
            exact ih w6 (y3 + 1) H locs ls hf hP hS (lv_sub hl [2, 3, 1, 0] rfl)
          · have hf := zif_f c5 hf
            refine lv_iconst (v := 1) hx hb dX9_rankOf_31 (by decide) ?_
            refine lv_goto (tgt := 36) hx hb dX9_rankOf_32 (by decide) ?_
            refine lv_iadd hx hb dX9_rankOf_36 ?_
            obtain ⟨w7, ew7, hf⟩ := zlet_e hf
            refine z_topi ew7 ?_
            refine lv_istore_n (lv' := [(2, .int w7), (0, .ref (G.2.1 359)), (1, .int x1), (3, .int y3)]) hx hb dX9_rankOf_37 rfl hl (by decide) rfl (fun ls hl => ?_)
            refine lv_iinc (v := (y3 + 1)) (lv' := [(3, .int (y3 + 1)), (2, .int w7), (0, .ref (G.2.1 359)), (1, .int x1)]) hx hb dX9_rankOf_38 hl (k := 3) rfl rfl (by decide) rfl (fun ls hl => ?_)
            refine lv_goto (tgt := 4) hx hb dX9_rankOf_41 (by decide) ?_
            exact ih w7 (y3 + 1) H locs ls hf hP hS (lv_sub hl [2, 3, 1, 0] rfl)
  unfold f_X9_rankOf at hf
  refine lv_iconst (v := 0) hx hb dX9_rankOf_0 (by decide) ?_
  refine lv_istore_n (lv' := [(2, .int 0), (0, .ref (G.2.1 359)), (1, .int x1)]) hx hb dX9_rankOf_1 rfl hl (by decide) rfl (fun ls hl => ?_)
  refine lv_iconst (v := 0) hx hb dX9_rankOf_2 (by decide) ?_
  refine lv_istore_n (lv' := [(3, .int 0), (2, .int 0), (0, .ref (G.2.1 359)), (1, .int x1)]) hx hb dX9_rankOf_3 rfl hl (by decide) rfl (fun ls hl => ?_)
  exact L4 zFu 0 0 H locs ls hf hP hS (lv_sub hl [2, 3, 1, 0] rfl)
set_option maxRecDepth 100000 in
set_option maxHeartbeats 4000000 in
theorem c_X9_rankedAt (l : Launch) (G : zGT) (hG : zOK G) (I J : zM) (x1 : Int32) {r : Int32} (hf : f_X9_rankedAt J x1 = some r) : Met l yX9_rankedAt wsX9_rankedAt (zrm 3 67) (va_Pc [.ref (G.2.1 359), .int x1] (zS G I J)) (zQi G r I J) 0 0 (zA G) := by
  refine zMet (cc := cX9_rankedAt) (n := 3) (ret := (some .int)) (by decide) rfl (Nat.le_of_ble_eq_true rfl) ?_
  intro p e s m args below meth c H locs ls F hK hP hS hl
  obtain ⟨hx, hb, hr, hml, hts, hown, hlocks⟩ := F
  have hown : s.vm.findClass RX9 = some m.cls := hown
  have hl : lv_has ls 3 [(0, .ref (G.2.1 359)), (1, .int x1)] := hl
  have hi9 : ∀ w ∈ wsX90, w ∈ wsX9_rankedAt := fun _ h => List.mem_cons_of_mem _ (List.mem_append_right _ h)
  have L2 : ∀ (n : Nat) (y2 : Int32) (H : Heap) (locs : List Loc) (ls : Array Slot), f_X9_rankedAt_l2 J x1 n y2 = some r → va_P G.1 vwCl (zW G I J) H → va_S (zA G) s.heap H locs → lv_has ls 3 [(0, .ref (G.2.1 359)), (1, .int x1), (2, .int y2)] → W p l e (zrm 3 67) s m args below meth c H locs 0 0 (MQ below (zQi G r I J) args s 0 0 (zA G)) (F0 m 2 ls []) := by
    intro n
    induction n with
    | zero =>
      intro y2 H locs ls hf
      rw [f_X9_rankedAt_l2] at hf
      cases hf
    | succ n ih =>
      intro y2 H locs ls hf hP hS hl
      rw [f_X9_rankedAt_l2] at hf
      refine lv_iload_n hx hb dX9_rankedAt_2 rfl (lv_at hl 2 rfl) ?_
      refine lv_aload_n hx hb dX9_rankedAt_3 rfl (lv_at hl 0 rfl) ?_
      refine x_get (j := 0) (v := .ref (G.2.1 360)) hx hb hts hi9 hown hK hP zkL_359 rfl (by decide) (hts (.fieldLink RX9 9 "LeaseOfficeModel" "g" "[I") (by decide +kernel)) rfl (by decide) dX9_rankedAt_4 ?_
      refine lv_sipush (v := 1080) hx hb dX9_rankedAt_7 (by decide) ?_
      refine x_ialdL (j := 1080) hx hb hK hP (zK_lt zkL_360 (by decide)) (zE_15 (j := 1) zkL_360 zlL_360 rfl) (by decide) (by decide) dX9_rankedAt_10 ?_
      refine lv_icmp_ge (tgt := 31) hx hb dX9_rankedAt_11 (by decide) (fun c1 => ?_) (fun c1 => ?_)
      · have hf := zif_t c1 hf
        refine lv_bipush (v := (-2)) hx hb dX9_rankedAt_31 (by decide) ?_
        obtain rfl := Option.some.inj hf
        exact x_iret hx hb hr hlocks hK hP hS dX9_rankedAt_33
      · have hf := zif_f c1 hf
        refine lv_aload_n hx hb dX9_rankedAt_14 rfl (lv_at hl 0 rfl) ?_
        refine lv_iload_n hx hb dX9_rankedAt_15 rfl (lv_at hl 2 rfl) ?_
        obtain ⟨q2, hq2, hf⟩ := zb_e hf
        refine x_calli (x_runV (As := [.int y2]) (rest := []) ⟨hx, hb, hml, hown, hts⟩ (c_X9_rankOf l G hG I J y2 hq2) (cwV 1 hts gX9_rankedAt_X9_rankOf rfl rfl rfl (by decide +kernel) ⟨Nat.le_of_ble_eq_true rfl, Nat.le_of_ble_eq_true rfl⟩) hK hP zkL_359 (by decide) rfl rfl hl.1 rfl (Nat.le_of_ble_eq_true rfl) dX9_rankedAt_16 ⟨Nat.zero_le _, Nat.zero_le _⟩) hS (fun H locs hP hS => ?_)
        refine lv_iload_n hx hb dX9_rankedAt_19 rfl (lv_at hl 1 rfl) ?_
        refine lv_icmp_ne (tgt := 25) hx hb dX9_rankedAt_20 (by decide) (fun c3 => ?_) (fun c3 => ?_)
        · have hf := zif_f c3 hf
          refine lv_iinc (v := (y2 + 1)) (lv' := [(2, .int (y2 + 1)), (0, .ref (G.2.1 359)), (1, .int x1)]) hx hb dX9_rankedAt_25 hl (k := 2) rfl rfl (by decide) rfl (fun ls hl => ?_)
          refine lv_goto (tgt := 2) hx hb dX9_rankedAt_28 (by decide) ?_
          exact ih (y2 + 1) H locs ls hf hP hS (lv_sub hl [1, 2, 0] rfl)
        · have hf := zif_t c3 hf
          refine lv_iload_n hx hb dX9_rankedAt_23 rfl (lv_at hl 2 rfl) ?_
          obtain rfl := Option.some.inj hf
          exact x_iret hx hb hr hlocks hK hP hS dX9_rankedAt_24
  unfold f_X9_rankedAt at hf
  refine lv_iconst (v := 0) hx hb dX9_rankedAt_0 (by decide) ?_
  refine lv_istore_n (lv' := [(2, .int 0), (0, .ref (G.2.1 359)), (1, .int x1)]) hx hb dX9_rankedAt_1 rfl hl (by decide) rfl (fun ls hl => ?_)
  exact L2 zFu 0 H locs ls hf hP hS (lv_sub hl [1, 2, 0] rfl)
set_option maxRecDepth 100000 in
set_option maxHeartbeats 4000000 in
theorem c_X9_judge (l : Launch) (G : zGT) (hG : zOK G) (I J : zM) (x1 : Int32) (x2 : Int32) {r : Int32} (hf : f_X9_judge J x1 x2 = some r) : Met l yX9_judge wsX9_judge (zrm 5 115) (va_Pc [.ref (G.2.1 359), .int x1, .int x2] (zS G I J)) (zQi G r I J) 0 0 (zA G) := by
  refine zMet (cc := cX9_judge) (n := 6) (ret := (some .int)) (by decide) rfl (Nat.le_of_ble_eq_true rfl) ?_
  intro p e s m args below meth c H locs ls F hK hP hS hl
  obtain ⟨hx, hb, hr, hml, hts, hown, hlocks⟩ := F
  have hown : s.vm.findClass RX9 = some m.cls := hown
  have hl : lv_has ls 6 [(0, .ref (G.2.1 359)), (1, .int x1), (2, .int x2)] := hl
  have hi9 : ∀ w ∈ wsX90, w ∈ wsX9_judge := fun _ h => List.mem_cons_of_mem _ (List.mem_append_right _ h)
  have L77 : ∀ (y3 : Int32) (K : Option (Int32)) (hKK : ∀ (H : Heap) (locs : List Loc) (ls : Array Slot), K = some r → va_P G.1 vwCl (zW G I J) H → va_S (zA G) s.heap H locs → lv_has ls 6 [(0, .ref (G.2.1 359)), (1, .int x1), (3, .int y3)] → W p l e (zrm 5 115) s m args below meth c H locs 0 0 (MQ below (zQi G r I J) args s 0 0 (zA G)) (F0 m 157 ls [])) (n : Nat) (y4 : Int32) (H : Heap) (locs : List Loc) (ls : Array Slot), f_X9_judge_l77 J x1 x2 y3 K n y4 = some r → va_P G.1 vwCl (zW G I J) H → va_S (zA G) s.heap H locs → lv_has ls 6 [(0, .ref (G.2.1 359)), (1, .int x1), (2, .int x2), (3, .int y3), (4, .int y4)] → W p l e (zrm 5 115) s m args below meth c H locs 0 0 (MQ below (zQi G r I J) args s 0 0 (zA G)) (F0 m 77 ls []) := by
    intro y3 K hKK n
    induction n with
    | zero =>
      intro y4 H locs ls hf
      rw [f_X9_judge_l77] at hf
      cases hf
    | succ n ih =>
      intro y4 H locs ls hf hP hS hl
      rw [f_X9_judge_l77] at hf
      refine lv_iload hx hb dX9_judge_77 (lv_at hl 4 rfl) ?_
      refine lv_aload_n hx hb dX9_judge_79 rfl (lv_at hl 0 rfl) ?_
      refine x_get (j := 11) (v := .ref (G.2.1 368)) hx hb hts hi9 hown hK hP zkL_359 rfl (by decide) (hts (.fieldLink RX9 34 "LeaseOfficeModel" "rowSize" "[I") (by decide +kernel)) rfl (by decide) dX9_judge_80 ?_
      refine lv_iload_n hx hb dX9_judge_83 rfl (lv_at hl 1 rfl) ?_
      obtain ⟨h8, hf⟩ := zck_e hf
      refine x_iald hx hb hK hP (zK_lt zkL_368 (by decide)) (zE_15 (j := 9) zkL_368 zlL_368 rfl) (zin_e h8) dX9_judge_84 ?_
      refine lv_icmp_ge (tgt := 157) hx hb dX9_judge_85 (by decide) (fun c9 => ?_) (fun c9 => ?_)
      · have hf := zif_t c9 hf
        exact hKK H locs ls hf hP hS (lv_sub hl [0, 1, 3] rfl)
      · have hf := zif_f c9 hf
        refine lv_iload hx hb dX9_judge_88 (lv_at hl 4 rfl) ?_
        refine lv_iload_n hx hb dX9_judge_90 rfl (lv_at hl 3 rfl) ?_
        refine lv_icmp_lt (tgt := 99) hx hb dX9_judge_91 (by decide) (fun c10 => ?_) (fun c10 => ?_)
        · have hf := zif_t c10 hf
          refine lv_iload_n hx hb dX9_judge_99 rfl (lv_at hl 2 rfl) ?_
          refine lv_iconst (v := (-1)) hx hb dX9_judge_100 (by decide) ?_
          refine lv_icmp_ne (tgt := 113) hx hb dX9_judge_101 (by decide) (fun c11 => ?_) (fun c11 => ?_)
          · have hf := zif_f c11 hf
            refine lv_aload_n hx hb dX9_judge_113 rfl (lv_at hl 0 rfl) ?_
            refine lv_iload_n hx hb dX9_judge_114 rfl (lv_at hl 2 rfl) ?_
            refine lv_aload_n hx hb dX9_judge_115 rfl (lv_at hl 0 rfl) ?_
            refine lv_iload_n hx hb dX9_judge_116 rfl (lv_at hl 2 rfl) ?_
            refine lv_iload hx hb dX9_judge_117 (lv_at hl 4 rfl) ?_
            obtain ⟨q12, hq12, hf⟩ := zb_e hf
            refine x_calli (x_runV (As := [.int x2, .int y4]) (rest := [.int x2, .ref (G.2.1 359)]) ⟨hx, hb, hml, hown, hts⟩ (c_X9_claimAt l G hG I J x2 y4 hq12) (cwV 2 hts gX9_judge_X9_claimAt rfl rfl rfl (by decide +kernel) ⟨Nat.le_of_ble_eq_true rfl, Nat.le_of_ble_eq_true rfl⟩) hK hP zkL_359 (by decide) rfl rfl hl.1 rfl (Nat.le_of_ble_eq_true rfl) dX9_judge_119 ⟨Nat.zero_le _, Nat.zero_le _⟩) hS (fun H locs hP hS => ?_)
            refine lv_iconst (v := 0) hx hb dX9_judge_122 (by decide) ?_
            obtain ⟨q13, hq13, hf⟩ := zb_e hf
            refine x_calli (x_runV (As := [.int x2, .int q12, .int 0]) (rest := []) ⟨hx, hb, hml, hown, hts⟩ (c_X9_c l G hG I J x2 q12 0 hq13) (cwV 3 hts gX9_judge_X9_c rfl rfl rfl (by decide +kernel) ⟨Nat.le_of_ble_eq_true rfl, Nat.le_of_ble_eq_true rfl⟩) hK hP zkL_359 (by decide) rfl rfl hl.1 rfl (Nat.le_of_ble_eq_true rfl) dX9_judge_123 ⟨Nat.zero_le _, Nat.zero_le _⟩) hS (fun H locs hP hS => ?_)
            refine lv_istore (lv' := [(5, .int q13), (0, .ref (G.2.1 359)), (1, .int x1), (2, .int x2), (3, .int y3), (4, .int y4)]) hx hb dX9_judge_126 hl (by decide) rfl (fun ls hl => ?_)
            refine lv_iload hx hb dX9_judge_128 (lv_at hl 5 rfl) ?_
            refine lv_iload_n hx hb dX9_judge_130 rfl (lv_at hl 4 rfl) ?_
            refine lv_icmp_ge (tgt := 148) hx hb dX9_judge_131 (by decide) (fun c14 => ?_) (fun c14 => ?_)
            · have hf := zif_t c14 hf
              refine lv_iload hx hb dX9_judge_148 (lv_at hl 5 rfl) ?_
              obtain rfl := Option.some.inj hf
              exact x_iret hx hb hr hlocks hK hP hS dX9_judge_150
            · have hf := zif_f c14 hf
              refine lv_aload_n hx hb dX9_judge_134 rfl (lv_at hl 1 rfl) ?_
              refine x_get (j := 12) (v := .ref (G.2.1 369)) hx hb hts hi9 hown hK hP zkL_359 rfl (by decide) (hts (.fieldLink RX9 39 "LeaseOfficeModel" "rows" "[[I") (by decide +kernel)) rfl (by decide) dX9_judge_135 ?_
              refine lv_iload_n hx hb dX9_judge_138 rfl (lv_at hl 2 rfl) ?_
              obtain ⟨h15, hf⟩ := zck_e hf
              refine x_aald14 hx hb hK hP (zin_e h15) dX9_judge_139 ?_
              refine lv_iload hx hb dX9_judge_140 (lv_at hl 5 rfl) ?_
              obtain ⟨h16, hf⟩ := zck_e hf
              refine x_iald hx hb hK hP (zK_lt (zk_r _ (zin_lt h15)).1 (by decide)) (zE_15 (j := (11 + x1.toNatClampNeg)) (zk_r _ (zin_lt h15)).1 (zk_r _ (zin_lt h15)).2 rfl) (zin_e h16) dX9_judge_142 ?_
              refine lv_iload hx hb dX9_judge_143 (lv_at hl 0 rfl) ?_
              refine lv_icmp_eq (tgt := 151) hx hb dX9_judge_145 (by decide) (fun c17 => ?_) (fun c17 => ?_)
              · have hf := zif_t c17 hf
                refine lv_iinc (v := (y4 + 1)) (lv' := [(4, .int (y4 + 1)), (5, .int q13), (0, .ref (G.2.1 359)), (1, .int x1), (2, .int x2), (3, .int y3)]) hx hb dX9_judge_151 hl (k := 5) rfl rfl (by decide) rfl (fun ls hl => ?_)
                refine lv_goto (tgt := 77) hx hb dX9_judge_154 (by decide) ?_
                exact ih (y4 + 1) H locs ls hf hP hS (lv_sub hl [2, 3, 4, 5, 0] rfl)
              · have hf := zif_f c17 hf
                refine lv_iload hx hb dX9_judge_148 (lv_at hl 5 rfl) ?_
                obtain rfl := Option.some.inj hf
                exact x_iret hx hb hr hlocks hK hP hS dX9_judge_150
          · have hf := zif_t c11 hf
            refine lv_aload_n hx hb dX9_judge_104 rfl (lv_at hl 0 rfl) ?_
            refine lv_iload hx hb dX9_judge_105 (lv_at hl 4 rfl) ?_
            obtain ⟨q18, hq18, hf⟩ := zb_e hf
            refine x_calli (x_runV (As := [.int y4]) (rest := []) ⟨hx, hb, hml, hown, hts⟩ (c_X9_rankedAt l G hG I J y4 hq18) (cwV 1 hts gX9_judge_X9_rankedAt rfl rfl rfl (by decide +kernel) ⟨Nat.le_of_ble_eq_true rfl, Nat.le_of_ble_eq_true rfl⟩) hK hP zkL_359 (by decide) rfl rfl hl.1 rfl (Nat.le_of_ble_eq_true rfl) dX9_judge_107 ⟨Nat.zero_le _, Nat.zero_le _⟩) hS (fun H locs hP hS => ?_)
            refine lv_goto (tgt := 126) hx hb dX9_judge_110 (by decide) ?_
            refine lv_istore (lv' := [(5, .int q18), (0, .ref (G.2.1 359)), (1, .int x1), (2, .int x2), (3, .int y3), (4, .int y4)]) hx hb dX9_judge_126 hl (by decide) rfl (fun ls hl => ?_)
            refine lv_iload hx hb dX9_judge_128 (lv_at hl 5 rfl) ?_
            refine lv_iload_n hx hb dX9_judge_130 rfl (lv_at hl 4 rfl) ?_
            refine lv_icmp_ge (tgt := 148) hx hb dX9_judge_131 (by decide) (fun c19 => ?_) (fun c19 => ?_)
            · have hf := zif_t c19 hf
              refine lv_iload hx hb dX9_judge_148 (lv_at hl 5 rfl) ?_
              obtain rfl := Option.some.inj hf
              exact x_iret hx hb hr hlocks hK hP hS dX9_judge_150
            · have hf := zif_f c19 hf
              refine lv_aload_n hx hb dX9_judge_134 rfl (lv_at hl 1 rfl) ?_
              refine x_get (j := 12) (v := .ref (G.2.1 369)) hx hb hts hi9 hown hK hP zkL_359 rfl (by decide) (hts (.fieldLink RX9 39 "LeaseOfficeModel" "rows" "[[I") (by decide +kernel)) rfl (by decide) dX9_judge_135 ?_
              refine lv_iload_n hx hb dX9_judge_138 rfl (lv_at hl 2 rfl) ?_
              obtain ⟨h20, hf⟩ := zck_e hf
              refine x_aald14 hx hb hK hP (zin_e h20) dX9_judge_139 ?_
              refine lv_iload hx hb dX9_judge_140 (lv_at hl 5 rfl) ?_
              obtain ⟨h21, hf⟩ := zck_e hf
              refine x_iald hx hb hK hP (zK_lt (zk_r _ (zin_lt h20)).1 (by decide)) (zE_15 (j := (11 + x1.toNatClampNeg)) (zk_r _ (zin_lt h20)).1 (zk_r _ (zin_lt h20)).2 rfl) (zin_e h21) dX9_judge_142 ?_
              refine lv_iload hx hb dX9_judge_143 (lv_at hl 0 rfl) ?_
              refine lv_icmp_eq (tgt := 151) hx hb dX9_judge_145 (by decide) (fun c22 => ?_) (fun c22 => ?_)
              · have hf := zif_t c22 hf
                refine lv_iinc (v := (y4 + 1)) (lv' := [(4, .int (y4 + 1)), (5, .int q18), (0, .ref (G.2.1 359)), (1, .int x1), (2, .int x2), (3, .int y3)]) hx hb dX9_judge_151 hl (k := 5) rfl rfl (by decide) rfl (fun ls hl => ?_)
                refine lv_goto (tgt := 77) hx hb dX9_judge_154 (by decide) ?_
                exact ih (y4 + 1) H locs ls hf hP hS (lv_sub hl [2, 3, 4, 5, 0] rfl)
              · have hf := zif_f c22 hf
                refine lv_iload hx hb dX9_judge_148 (lv_at hl 5 rfl) ?_
                obtain rfl := Option.some.inj hf
                exact x_iret hx hb hr hlocks hK hP hS dX9_judge_150
        · have hf := zif_f c10 hf
          refine lv_bipush (v := (-2)) hx hb dX9_judge_94 (by decide) ?_
          refine lv_goto (tgt := 126) hx hb dX9_judge_96 (by decide) ?_
          refine lv_istore (lv' := [(5, .int (-2)), (0, .ref (G.2.1 359)), (1, .int x1), (2, .int x2), (3, .int y3), (4, .int y4)]) hx hb dX9_judge_126 hl (by decide) rfl (fun ls hl => ?_)
          refine lv_iload hx hb dX9_judge_128 (lv_at hl 5 rfl) ?_
          refine lv_iload_n hx hb dX9_judge_130 rfl (lv_at hl 4 rfl) ?_
          refine lv_icmp_ge (tgt := 148) hx hb dX9_judge_131 (by decide) (fun c23 => ?_) (fun c23 => ?_)
          · have hf := zif_t c23 hf
            refine lv_iload hx hb dX9_judge_148 (lv_at hl 5 rfl) ?_
            obtain rfl := Option.some.inj hf
            exact x_iret hx hb hr hlocks hK hP hS dX9_judge_150
          · have hf := zif_f c23 hf
            refine lv_aload_n hx hb dX9_judge_134 rfl (lv_at hl 1 rfl) ?_
            refine x_get (j := 12) (v := .ref (G.2.1 369)) hx hb hts hi9 hown hK hP zkL_359 rfl (by decide) (hts (.fieldLink RX9 39 "LeaseOfficeModel" "rows" "[[I") (by decide +kernel)) rfl (by decide) dX9_judge_135 ?_
            refine lv_iload_n hx hb dX9_judge_138 rfl (lv_at hl 2 rfl) ?_
            obtain ⟨h24, hf⟩ := zck_e hf
            refine x_aald14 hx hb hK hP (zin_e h24) dX9_judge_139 ?_
            refine lv_iload hx hb dX9_judge_140 (lv_at hl 5 rfl) ?_
            obtain ⟨h25, hf⟩ := zck_e hf
            refine x_iald hx hb hK hP (zK_lt (zk_r _ (zin_lt h24)).1 (by decide)) (zE_15 (j := (11 + x1.toNatClampNeg)) (zk_r _ (zin_lt h24)).1 (zk_r _ (zin_lt h24)).2 rfl) (zin_e h25) dX9_judge_142 ?_
            refine lv_iload hx hb dX9_judge_143 (lv_at hl 0 rfl) ?_
            refine lv_icmp_eq (tgt := 151) hx hb dX9_judge_145 (by decide) (fun c26 => ?_) (fun c26 => ?_)
            · have hf := zif_t c26 hf
              refine lv_iinc (v := (y4 + 1)) (lv' := [(4, .int (y4 + 1)), (5, .int (-2)), (0, .ref (G.2.1 359)), (1, .int x1), (2, .int x2), (3, .int y3)]) hx hb dX9_judge_151 hl (k := 5) rfl rfl (by decide) rfl (fun ls hl => ?_)
              refine lv_goto (tgt := 77) hx hb dX9_judge_154 (by decide) ?_
              exact ih (y4 + 1) H locs ls hf hP hS (lv_sub hl [2, 3, 4, 5, 0] rfl)
            · have hf := zif_f c26 hf
              refine lv_iload hx hb dX9_judge_148 (lv_at hl 5 rfl) ?_
              obtain rfl := Option.some.inj hf
              exact x_iret hx hb hr hlocks hK hP hS dX9_judge_150
  have J73 : ∀ (s0 : Int32) (H : Heap) (locs : List Loc) (ls : Array Slot), f_X9_judge_j73 J x1 x2 s0 = some r → va_P G.1 vwCl (zW G I J) H → va_S (zA G) s.heap H locs → lv_has ls 6 [(0, .ref (G.2.1 359)), (1, .int x1), (2, .int x2)] → W p l e (zrm 5 115) s m args below meth c H locs 0 0 (MQ below (zQi G r I J) args s 0 0 (zA G)) (F0 m 73 ls [.int s0]) := by
    intro s0 H locs ls hf hP hS hl
    unfold f_X9_judge_j73 at hf
    refine lv_istore_n (lv' := [(3, .int s0), (0, .ref (G.2.1 359)), (1, .int x1), (2, .int x2)]) hx hb dX9_judge_73 rfl hl (by decide) rfl (fun ls hl => ?_)
    refine lv_iconst (v := 0) hx hb dX9_judge_74 (by decide) ?_
    refine lv_istore (lv' := [(4, .int 0), (3, .int s0), (0, .ref (G.2.1 359)), (1, .int x1), (2, .int x2)]) hx hb dX9_judge_75 hl (by decide) rfl (fun ls hl => ?_)
    refine L77 s0 _ (fun H locs ls hf hP hS hl => ?_) zFu 0 H locs ls hf hP hS (lv_sub hl [2, 3, 4, 1, 0] rfl)
    refine lv_iload_n hx hb dX9_judge_157 rfl (lv_at hl 2 rfl) ?_
    refine lv_aload_n hx hb dX9_judge_158 rfl (lv_at hl 0 rfl) ?_
    refine x_get (j := 11) (v := .ref (G.2.1 368)) hx hb hts hi9 hown hK hP zkL_359 rfl (by decide) (hts (.fieldLink RX9 34 "LeaseOfficeModel" "rowSize" "[I") (by decide +kernel)) rfl (by decide) dX9_judge_159 ?_
    refine lv_iload_n hx hb dX9_judge_162 rfl (lv_at hl 1 rfl) ?_
    obtain ⟨h27, hf⟩ := zck_e hf
    refine x_iald hx hb hK hP (zK_lt zkL_368 (by decide)) (zE_15 (j := 9) zkL_368 zlL_368 rfl) (zin_e h27) dX9_judge_163 ?_
    refine lv_icmp_le (tgt := 176) hx hb dX9_judge_164 (by decide) (fun c28 => ?_) (fun c28 => ?_)
    · have hf := zif_t c28 hf
      refine lv_bipush (v := (-2)) hx hb dX9_judge_176 (by decide) ?_
      obtain rfl := Option.some.inj hf
      exact x_iret hx hb hr hlocks hK hP hS dX9_judge_178
    · have hf := zif_f c28 hf
      refine lv_aload_n hx hb dX9_judge_167 rfl (lv_at hl 0 rfl) ?_
      refine x_get (j := 11) (v := .ref (G.2.1 368)) hx hb hts hi9 hown hK hP zkL_359 rfl (by decide) (hts (.fieldLink RX9 34 "LeaseOfficeModel" "rowSize" "[I") (by decide +kernel)) rfl (by decide) dX9_judge_168 ?_
      refine lv_iload_n hx hb dX9_judge_171 rfl (lv_at hl 1 rfl) ?_
      obtain ⟨h29, hf⟩ := zck_e hf
      refine x_iald hx hb hK hP (zK_lt zkL_368 (by decide)) (zE_15 (j := 9) zkL_368 zlL_368 rfl) (zin_e h29) dX9_judge_172 ?_
      refine lv_goto (tgt := 178) hx hb dX9_judge_173 (by decide) ?_
      obtain rfl := Option.some.inj hf
      exact x_iret hx hb hr hlocks hK hP hS dX9_judge_178
  have J23 : ∀ (H : Heap) (locs : List Loc) (ls : Array Slot), f_X9_judge_j23 J x1 x2 = some r → va_P G.1 vwCl (zW G I J) H → va_S (zA G) s.heap H locs → lv_has ls 6 [(0, .ref (G.2.1 359)), (1, .int x1), (2, .int x2)] → W p l e (zrm 5 115) s m args below meth c H locs 0 0 (MQ below (zQi G r I J) args s 0 0 (zA G)) (F0 m 23 ls []) := by
    intro H locs ls hf hP hS hl
    unfold f_X9_judge_j23 at hf
    refine lv_aload_n hx hb dX9_judge_23 rfl (lv_at hl 0 rfl) ?_
    refine x_get (j := 9) (v := .ref (G.2.1 366)) hx hb hts hi9 hown hK hP zkL_359 rfl (by decide) (hts (.fieldLink RX9 28 "LeaseOfficeModel" "held" "[I") (by decide +kernel)) rfl (by decide) dX9_judge_24 ?_
    refine lv_iload_n hx hb dX9_judge_27 rfl (lv_at hl 1 rfl) ?_
    obtain ⟨h4, hf⟩ := zck_e hf
    refine x_iald hx hb hK hP (zK_lt zkL_366 (by decide)) (zE_15 (j := 7) zkL_366 zlL_366 rfl) (zin_e h4) dX9_judge_28 ?_
    refine lv_iconst (v := 3) hx hb dX9_judge_29 (by decide) ?_
    refine lv_icmp_eq (tgt := 50) hx hb dX9_judge_30 (by decide) (fun c5 => ?_) (fun c5 => ?_)
    · have hf := zif_t c5 hf
      refine lv_iload_n hx hb dX9_judge_50 rfl (lv_at hl 2 rfl) ?_
      refine lv_iconst (v := (-1)) hx hb dX9_judge_51 (by decide) ?_
      refine lv_icmp_ne (tgt := 66) hx hb dX9_judge_52 (by decide) (fun c6 => ?_) (fun c6 => ?_)
      · have hf := zif_f c6 hf
        refine lv_aload_n hx hb dX9_judge_66 rfl (lv_at hl 0 rfl) ?_
        refine lv_iload_n hx hb dX9_judge_67 rfl (lv_at hl 2 rfl) ?_
        refine lv_bipush (v := 57) hx hb dX9_judge_68 (by decide) ?_
        obtain ⟨q7, hq7, hf⟩ := zb_e hf
        refine x_calli (x_runV (As := [.int x2, .int 57]) (rest := []) ⟨hx, hb, hml, hown, hts⟩ (c_X9_t l G hG I J x2 57 hq7) (cwV 2 hts gX9_judge_X9_t rfl rfl rfl (by decide +kernel) ⟨Nat.le_of_ble_eq_true rfl, Nat.le_of_ble_eq_true rfl⟩) hK hP zkL_359 (by decide) rfl rfl hl.1 rfl (Nat.le_of_ble_eq_true rfl) dX9_judge_70 ⟨Nat.zero_le _, Nat.zero_le _⟩) hS (fun H locs hP hS => ?_)
        exact J73 q7 H locs ls hf hP hS (lv_sub hl [0, 1, 2] rfl)
      · have hf := zif_t c6 hf
        refine lv_aload_n hx hb dX9_judge_55 rfl (lv_at hl 0 rfl) ?_
        refine x_get (j := 0) (v := .ref (G.2.1 360)) hx hb hts hi9 hown hK hP zkL_359 rfl (by decide) (hts (.fieldLink RX9 9 "LeaseOfficeModel" "g" "[I") (by decide +kernel)) rfl (by decide) dX9_judge_56 ?_
        refine lv_sipush (v := 1080) hx hb dX9_judge_59 (by decide) ?_
        refine x_ialdL (j := 1080) hx hb hK hP (zK_lt zkL_360 (by decide)) (zE_15 (j := 1) zkL_360 zlL_360 rfl) (by decide) (by decide) dX9_judge_62 ?_
        refine lv_goto (tgt := 73) hx hb dX9_judge_63 (by decide) ?_
        exact J73 (J 1 1080) H locs ls hf hP hS (lv_sub hl [0, 1, 2] rfl)
    · have hf := zif_f c5 hf
      refine lv_aload_n hx hb dX9_judge_33 rfl (lv_at hl 0 rfl) ?_
      refine x_get (j := 9) (v := .ref (G.2.1 366)) hx hb hts hi9 hown hK hP zkL_359 rfl (by decide) (hts (.fieldLink RX9 28 "LeaseOfficeModel" "held" "[I") (by decide +kernel)) rfl (by decide) dX9_judge_34 ?_
      refine lv_iload_n hx hb dX9_judge_37 rfl (lv_at hl 1 rfl) ?_
      obtain ⟨h30, hf⟩ := zck_e hf
      refine x_iald hx hb hK hP (zK_lt zkL_366 (by decide)) (zE_15 (j := 7) zkL_366 zlL_366 rfl) (zin_e h30) dX9_judge_38 ?_
      refine lv_if_ne (tgt := 47) hx hb dX9_judge_39 (by decide) (fun c31 => ?_) (fun c31 => ?_)
      · have hf := zif_f c31 hf
        refine lv_bipush (v := (-12)) hx hb dX9_judge_47 (by decide) ?_
        obtain rfl := Option.some.inj hf
        exact x_iret hx hb hr hlocks hK hP hS dX9_judge_49
      · have hf := zif_t c31 hf
        refine lv_bipush (v := (-11)) hx hb dX9_judge_42 (by decide) ?_
        refine lv_goto (tgt := 49) hx hb dX9_judge_44 (by decide) ?_
        obtain rfl := Option.some.inj hf
        exact x_iret hx hb hr hlocks hK hP hS dX9_judge_49
  unfold f_X9_judge at hf
  refine lv_aload_n hx hb dX9_judge_0 rfl (lv_at hl 0 rfl) ?_
  refine lv_iload_n hx hb dX9_judge_1 rfl (lv_at hl 1 rfl) ?_
  obtain ⟨q1, hq1, hf⟩ := zb_e hf
  refine x_calli (x_runV (As := [.int x1]) (rest := []) ⟨hx, hb, hml, hown, hts⟩ (c_X9_isHolder l G hG I J x1 hq1) (cwV 1 hts gX9_judge_X9_isHolder rfl rfl rfl (by decide +kernel) ⟨Nat.le_of_ble_eq_true rfl, Nat.le_of_ble_eq_true rfl⟩) hK hP zkL_359 (by decide) rfl rfl hl.1 rfl (Nat.le_of_ble_eq_true rfl) dX9_judge_2 ⟨Nat.zero_le _, Nat.zero_le _⟩) hS (fun H locs hP hS => ?_)
  refine lv_if_eq (tgt := 21) hx hb dX9_judge_5 (by decide) (fun c2 => ?_) (fun c2 => ?_)
  · have hf := zif_t c2 hf
    refine lv_iconst (v := (-1)) hx hb dX9_judge_21 (by decide) ?_
    obtain rfl := Option.some.inj hf
    exact x_iret hx hb hr hlocks hK hP hS dX9_judge_22
  · have hf := zif_f c2 hf
    refine lv_iload_n hx hb dX9_judge_8 rfl (lv_at hl 2 rfl) ?_
    refine lv_iconst (v := (-1)) hx hb dX9_judge_9 (by decide) ?_
    refine lv_icmp_eq (tgt := 23) hx hb dX9_judge_10 (by decide) (fun c3 => ?_) (fun c3 => ?_)
    · have hf := zif_t c3 hf
      exact J23 H locs ls hf hP hS (lv_sub hl [0, 1, 2] rfl)
    · have hf := zif_f c3 hf
      refine lv_aload_n hx hb dX9_judge_13 rfl (lv_at hl 0 rfl) ?_
      refine lv_iload_n hx hb dX9_judge_14 rfl (lv_at hl 2 rfl) ?_
      obtain ⟨q32, hq32, hf⟩ := zb_e hf
      refine x_calli (x_runV (As := [.int x2]) (rest := []) ⟨hx, hb, hml, hown, hts⟩ (c_X9_isTool l G hG I J x2 hq32) (cwV 1 hts gX9_judge_X9_isTool rfl rfl rfl (by decide +kernel) ⟨Nat.le_of_ble_eq_true rfl, Nat.le_of_ble_eq_true rfl⟩) hK hP zkL_359 (by decide) rfl rfl hl.1 rfl (Nat.le_of_ble_eq_true rfl) dX9_judge_15 ⟨Nat.zero_le _, Nat.zero_le _⟩) hS (fun H locs hP hS => ?_)
      refine lv_if_ne (tgt := 23) hx hb dX9_judge_18 (by decide) (fun c33 => ?_) (fun c33 => ?_)
      · have hf := zif_f c33 hf
        exact J23 H locs ls hf hP hS (lv_sub hl [0, 1, 2] rfl)
      · have hf := zif_t c33 hf
        refine lv_iconst (v := (-1)) hx hb dX9_judge_21 (by decide) ?_
        obtain rfl := Option.some.inj hf
        exact x_iret hx hb hr hlocks hK hP hS dX9_judge_22
set_option maxRecDepth 100000 in
set_option maxHeartbeats 4000000 in
theorem c_X9_link (l : Launch) (G : zGT) (hG : zOK G) (I J : zM) (x1 : Int32) (x2 : Int32) (x3 : Int32) {r : Int32} (hf : f_X9_link J x1 x2 x3 = some r) : Met l yX9_link wsX9_link (zrm 2 43) (va_Pc [.ref (G.2.1 359), .int x1, .int x2, .int x3] (zS G I J)) (zQi G r I J) 0 0 (zA G) := by
  refine zMet (cc := cX9_link) (n := 4) (ret := (some .int)) (by decide) rfl (Nat.le_of_ble_eq_true rfl) ?_
  intro p e s m args below meth c H locs ls F hK hP hS hl
  obtain ⟨hx, hb, hr, hml, hts, hown, hlocks⟩ := F
  have hown : s.vm.findClass RX9 = some m.cls := hown
  have hl : lv_has ls 4 [(0, .ref (G.2.1 359)), (1, .int x1), (2, .int x2), (3, .int x3)] := hl
  unfold f_X9_link at hf
  refine lv_aload_n hx hb dX9_link_0 rfl (lv_at hl 0 rfl) ?_
  refine lv_iload_n hx hb dX9_link_1 rfl (lv_at hl 1 rfl) ?_
  obtain ⟨q1, hq1, hf⟩ := zb_e hf
  refine x_calli (x_runV (As := [.int x1]) (rest := []) ⟨hx, hb, hml, hown, hts⟩ (c_X9_isTool l G hG I J x1 hq1) (cwV 1 hts gX9_link_X9_isTool rfl rfl rfl (by decide +kernel) ⟨Nat.le_of_ble_eq_true rfl, Nat.le_of_ble_eq_true rfl⟩) hK hP zkL_359 (by decide) rfl rfl hl.1 rfl (Nat.le_of_ble_eq_true rfl) dX9_link_2 ⟨Nat.zero_le _, Nat.zero_le _⟩) hS (fun H locs hP hS => ?_)
  refine lv_if_eq (tgt := 21) hx hb dX9_link_5 (by decide) (fun c2 => ?_) (fun c2 => ?_)
  · have hf := zif_t c2 hf
    refine lv_iconst (v := (-1)) hx hb dX9_link_21 (by decide) ?_
    obtain rfl := Option.some.inj hf
    exact x_iret hx hb hr hlocks hK hP hS dX9_link_22
  · have hf := zif_f c2 hf
    refine lv_iload_n hx hb dX9_link_8 rfl (lv_at hl 2 rfl) ?_
    refine lv_if_lt (tgt := 21) hx hb dX9_link_9 (by decide) (fun c3 => ?_) (fun c3 => ?_)
    · have hf := zif_t c3 hf
      refine lv_iconst (v := (-1)) hx hb dX9_link_21 (by decide) ?_
      obtain rfl := Option.some.inj hf
      exact x_iret hx hb hr hlocks hK hP hS dX9_link_22
    · have hf := zif_f c3 hf
      refine lv_iload_n hx hb dX9_link_12 rfl (lv_at hl 3 rfl) ?_
      refine lv_iconst (v := 0) hx hb dX9_link_13 (by decide) ?_
      refine lv_iconst (v := 2) hx hb dX9_link_14 (by decide) ?_
      obtain ⟨q4, hq4, hf⟩ := zb_e hf
      refine x_calli (x_runS (As := [.int x3, .int 0, .int 2]) (rest := []) ⟨hx, hb, hml, hown, hts⟩ (c_X9_in l G hG I J x3 0 2 hq4) (va_cwS 3 hts gX9_link_X9_in rfl rfl rfl (by decide +kernel) ⟨Nat.le_of_ble_eq_true rfl, Nat.le_of_ble_eq_true rfl⟩) hK hP rfl hl.1 rfl (Nat.le_of_ble_eq_true rfl) dX9_link_15 ⟨Nat.zero_le _, Nat.zero_le _⟩) hS (fun H locs hP hS => ?_)
      refine lv_if_ne (tgt := 23) hx hb dX9_link_18 (by decide) (fun c5 => ?_) (fun c5 => ?_)
      · have hf := zif_f c5 hf
        refine lv_iload_n hx hb dX9_link_23 rfl (lv_at hl 2 rfl) ?_
        refine lv_aload_n hx hb dX9_link_24 rfl (lv_at hl 0 rfl) ?_
        refine lv_iload_n hx hb dX9_link_25 rfl (lv_at hl 1 rfl) ?_
        refine lv_bipush (v := 6) hx hb dX9_link_26 (by decide) ?_
        obtain ⟨q6, hq6, hf⟩ := zb_e hf
        refine x_calli (x_runV (As := [.int x1, .int 6]) (rest := [.int x2]) ⟨hx, hb, hml, hown, hts⟩ (c_X9_t l G hG I J x1 6 hq6) (cwV 2 hts gX9_link_X9_t rfl rfl rfl (by decide +kernel) ⟨Nat.le_of_ble_eq_true rfl, Nat.le_of_ble_eq_true rfl⟩) hK hP zkL_359 (by decide) rfl rfl hl.1 rfl (Nat.le_of_ble_eq_true rfl) dX9_link_28 ⟨Nat.zero_le _, Nat.zero_le _⟩) hS (fun H locs hP hS => ?_)
        refine lv_icmp_ge (tgt := 50) hx hb dX9_link_31 (by decide) (fun c7 => ?_) (fun c7 => ?_)
        · have hf := zif_t c7 hf
          refine lv_bipush (v := (-2)) hx hb dX9_link_50 (by decide) ?_
          obtain rfl := Option.some.inj hf
          exact x_iret hx hb hr hlocks hK hP hS dX9_link_52
        · have hf := zif_f c7 hf
          refine lv_aload_n hx hb dX9_link_34 rfl (lv_at hl 0 rfl) ?_
          refine lv_iload_n hx hb dX9_link_35 rfl (lv_at hl 1 rfl) ?_
          refine lv_bipush (v := 8) hx hb dX9_link_36 (by decide) ?_
          refine lv_iconst (v := 3) hx hb dX9_link_38 (by decide) ?_
          refine lv_iload_n hx hb dX9_link_39 rfl (lv_at hl 2 rfl) ?_
          refine lv_imul hx hb dX9_link_40 ?_
          refine lv_iadd hx hb dX9_link_41 ?_
          refine lv_iload_n hx hb dX9_link_42 rfl (lv_at hl 3 rfl) ?_
          refine lv_iadd hx hb dX9_link_43 ?_
          obtain ⟨q8, hq8, hf⟩ := zb_e hf
          refine x_calli (x_runV (As := [.int x1, .int ((8 + (3 * x2)) + x3)]) (rest := []) ⟨hx, hb, hml, hown, hts⟩ (c_X9_t l G hG I J x1 ((8 + (3 * x2)) + x3) hq8) (cwV 2 hts gX9_link_X9_t rfl rfl rfl (by decide +kernel) ⟨Nat.le_of_ble_eq_true rfl, Nat.le_of_ble_eq_true rfl⟩) hK hP zkL_359 (by decide) rfl rfl hl.1 rfl (Nat.le_of_ble_eq_true rfl) dX9_link_44 ⟨Nat.zero_le _, Nat.zero_le _⟩) hS (fun H locs hP hS => ?_)
          refine lv_goto (tgt := 52) hx hb dX9_link_47 (by decide) ?_
          obtain rfl := Option.some.inj hf
          exact x_iret hx hb hr hlocks hK hP hS dX9_link_52
      · have hf := zif_t c5 hf
        refine lv_iconst (v := (-1)) hx hb dX9_link_21 (by decide) ?_
        obtain rfl := Option.some.inj hf
        exact x_iret hx hb hr hlocks hK hP hS dX9_link_22
set_option maxRecDepth 100000 in
set_option maxHeartbeats 4000000 in
theorem c_X9_toolsOf (l : Launch) (G : zGT) (hG : zOK G) (I J : zM) (x1 : Int32) {r : Int32} (hf : f_X9_toolsOf J x1 = some r) : Met l yX9_toolsOf wsX9_toolsOf (zrm 1 22) (va_Pc [.ref (G.2.1 359), .int x1] (zS G I J)) (zQi G r I J) 0 0 (zA G) := by
  refine zMet (cc := cX9_toolsOf) (n := 4) (ret := (some .int)) (by decide) rfl (Nat.le_of_ble_eq_true rfl) ?_
  intro p e s m args below meth c H locs ls F hK hP hS hl
  obtain ⟨hx, hb, hr, hml, hts, hown, hlocks⟩ := F
  have hown : s.vm.findClass RX9 = some m.cls := hown
  have hl : lv_has ls 4 [(0, .ref (G.2.1 359)), (1, .int x1)] := hl
  have hi9 : ∀ w ∈ wsX90, w ∈ wsX9_toolsOf := fun _ h => List.mem_cons_of_mem _ (List.mem_append_right _ h)
  have L4 : ∀ (n : Nat) (y2 : Int32) (y3 : Int32) (H : Heap) (locs : List Loc) (ls : Array Slot), f_X9_toolsOf_l4 J x1 n y2 y3 = some r → va_P G.1 vwCl (zW G I J) H → va_S (zA G) s.heap H locs → lv_has ls 4 [(0, .ref (G.2.1 359)), (1, .int x1), (2, .int y2), (3, .int y3)] → W p l e (zrm 1 22) s m args below meth c H locs 0 0 (MQ below (zQi G r I J) args s 0 0 (zA G)) (F0 m 4 ls []) := by
    intro n
    induction n with
    | zero =>
      intro y2 y3 H locs ls hf
      rw [f_X9_toolsOf_l4] at hf
      cases hf
    | succ n ih =>
      intro y2 y3 H locs ls hf hP hS hl
      rw [f_X9_toolsOf_l4] at hf
      refine lv_iload_n hx hb dX9_toolsOf_4 rfl (lv_at hl 3 rfl) ?_
      refine lv_aload_n hx hb dX9_toolsOf_5 rfl (lv_at hl 0 rfl) ?_
      refine x_get (j := 0) (v := .ref (G.2.1 360)) hx hb hts hi9 hown hK hP zkL_359 rfl (by decide) (hts (.fieldLink RX9 9 "LeaseOfficeModel" "g" "[I") (by decide +kernel)) rfl (by decide) dX9_toolsOf_6 ?_
      refine lv_sipush (v := 1081) hx hb dX9_toolsOf_9 (by decide) ?_
      refine x_ialdL (j := 1081) hx hb hK hP (zK_lt zkL_360 (by decide)) (zE_15 (j := 1) zkL_360 zlL_360 rfl) (by decide) (by decide) dX9_toolsOf_12 ?_
      refine lv_icmp_ge (tgt := 40) hx hb dX9_toolsOf_13 (by decide) (fun c1 => ?_) (fun c1 => ?_)
      · have hf := zif_t c1 hf
        refine lv_iload_n hx hb dX9_toolsOf_40 rfl (lv_at hl 2 rfl) ?_
        obtain rfl := Option.some.inj hf
        exact x_iret hx hb hr hlocks hK hP hS dX9_toolsOf_41
      · have hf := zif_f c1 hf
        refine lv_iload_n hx hb dX9_toolsOf_16 rfl (lv_at hl 2 rfl) ?_
        refine lv_aload_n hx hb dX9_toolsOf_17 rfl (lv_at hl 0 rfl) ?_
        refine lv_iload_n hx hb dX9_toolsOf_18 rfl (lv_at hl 3 rfl) ?_
        refine lv_iconst (v := 2) hx hb dX9_toolsOf_19 (by decide) ?_
        obtain ⟨q2, hq2, hf⟩ := zb_e hf
        refine x_calli (x_runV (As := [.int y3, .int 2]) (rest := [.int y2]) ⟨hx, hb, hml, hown, hts⟩ (c_X9_t l G hG I J y3 2 hq2) (cwV 2 hts gX9_toolsOf_X9_t rfl rfl rfl (by decide +kernel) ⟨Nat.le_of_ble_eq_true rfl, Nat.le_of_ble_eq_true rfl⟩) hK hP zkL_359 (by decide) rfl rfl hl.1 rfl (Nat.le_of_ble_eq_true rfl) dX9_toolsOf_20 ⟨Nat.zero_le _, Nat.zero_le _⟩) hS (fun H locs hP hS => ?_)
        refine lv_iload_n hx hb dX9_toolsOf_23 rfl (lv_at hl 1 rfl) ?_
        refine lv_icmp_ne (tgt := 31) hx hb dX9_toolsOf_24 (by decide) (fun c3 => ?_) (fun c3 => ?_)
        · have hf := zif_f c3 hf
          refine lv_iconst (v := 0) hx hb dX9_toolsOf_31 (by decide) ?_
          refine lv_iadd hx hb dX9_toolsOf_32 ?_
          obtain ⟨w4, ew4, hf⟩ := zlet_e hf
          refine z_topi ew4 ?_
          refine lv_istore_n (lv' := [(2, .int w4), (0, .ref (G.2.1 359)), (1, .int x1), (3, .int y3)]) hx hb dX9_toolsOf_33 rfl hl (by decide) rfl (fun ls hl => ?_)
          refine lv_iinc (v := (y3 + 1)) (lv' := [(3, .int (y3 + 1)), (2, .int w4), (0, .ref (G.2.1 359)), (1, .int x1)]) hx hb dX9_toolsOf_34 hl (k := 3) rfl rfl (by decide) rfl (fun ls hl => ?_)
          refine lv_goto (tgt := 4) hx hb dX9_toolsOf_37 (by decide) ?_
          exact ih w4 (y3 + 1) H locs ls hf hP hS (lv_sub hl [2, 3, 1, 0] rfl)
        · have hf := zif_t c3 hf
          refine lv_iconst (v := 1) hx hb dX9_toolsOf_27 (by decide) ?_
          refine lv_goto (tgt := 32) hx hb dX9_toolsOf_28 (by decide) ?_
          refine lv_iadd hx hb dX9_toolsOf_32 ?_
          obtain ⟨w5, ew5, hf⟩ := zlet_e hf
          refine z_topi ew5 ?_
          refine lv_istore_n (lv' := [(2, .int w5), (0, .ref (G.2.1 359)), (1, .int x1), (3, .int y3)]) hx hb dX9_toolsOf_33 rfl hl (by decide) rfl (fun ls hl => ?_)
          refine lv_iinc (v := (y3 + 1)) (lv' := [(3, .int (y3 + 1)), (2, .int w5), (0, .ref (G.2.1 359)), (1, .int x1)]) hx hb dX9_toolsOf_34 hl (k := 3) rfl rfl (by decide) rfl (fun ls hl => ?_)
          refine lv_goto (tgt := 4) hx hb dX9_toolsOf_37 (by decide) ?_
          exact ih w5 (y3 + 1) H locs ls hf hP hS (lv_sub hl [2, 3, 1, 0] rfl)
  unfold f_X9_toolsOf at hf
  refine lv_iconst (v := 0) hx hb dX9_toolsOf_0 (by decide) ?_
  refine lv_istore_n (lv' := [(2, .int 0), (0, .ref (G.2.1 359)), (1, .int x1)]) hx hb dX9_toolsOf_1 rfl hl (by decide) rfl (fun ls hl => ?_)
  refine lv_iconst (v := 0) hx hb dX9_toolsOf_2 (by decide) ?_
  refine lv_istore_n (lv' := [(3, .int 0), (2, .int 0), (0, .ref (G.2.1 359)), (1, .int x1)]) hx hb dX9_toolsOf_3 rfl hl (by decide) rfl (fun ls hl => ?_)
  exact L4 zFu 0 0 H locs ls hf hP hS (lv_sub hl [2, 3, 1, 0] rfl)
set_option maxRecDepth 100000 in
set_option maxHeartbeats 4000000 in
theorem c_X9_personOf (l : Launch) (G : zGT) (hG : zOK G) (I J : zM) (x1 : Int32) (x2 : Int32) {r : Int32} (hf : f_X9_personOf J x1 x2 = some r) : Met l yX9_personOf wsX9_personOf (zrm 3 68) (va_Pc [.ref (G.2.1 359), .int x1, .int x2] (zS G I J)) (zQi G r I J) 0 0 (zA G) := by
  refine zMet (cc := cX9_personOf) (n := 3) (ret := (some .int)) (by decide) rfl (Nat.le_of_ble_eq_true rfl) ?_
  intro p e s m args below meth c H locs ls F hK hP hS hl
  obtain ⟨hx, hb, hr, hml, hts, hown, hlocks⟩ := F
  have hown : s.vm.findClass RX9 = some m.cls := hown
  have hl : lv_has ls 3 [(0, .ref (G.2.1 359)), (1, .int x1), (2, .int x2)] := hl
  unfold f_X9_personOf at hf
  refine lv_aload_n hx hb dX9_personOf_0 rfl (lv_at hl 0 rfl) ?_
  refine lv_iload_n hx hb dX9_personOf_1 rfl (lv_at hl 1 rfl) ?_
  obtain ⟨q1, hq1, hf⟩ := zb_e hf
  refine x_calli (x_runV (As := [.int x1]) (rest := []) ⟨hx, hb, hml, hown, hts⟩ (c_X9_isPerson l G hG I J x1 hq1) (cwV 1 hts gX9_personOf_X9_isPerson rfl rfl rfl (by decide +kernel) ⟨Nat.le_of_ble_eq_true rfl, Nat.le_of_ble_eq_true rfl⟩) hK hP zkL_359 (by decide) rfl rfl hl.1 rfl (Nat.le_of_ble_eq_true rfl) dX9_personOf_2 ⟨Nat.zero_le _, Nat.zero_le _⟩) hS (fun H locs hP hS => ?_)
  refine lv_if_eq (tgt := 18) hx hb dX9_personOf_5 (by decide) (fun c2 => ?_) (fun c2 => ?_)
  · have hf := zif_t c2 hf
    refine lv_iconst (v := (-1)) hx hb dX9_personOf_18 (by decide) ?_
    obtain rfl := Option.some.inj hf
    exact x_iret hx hb hr hlocks hK hP hS dX9_personOf_19
  · have hf := zif_f c2 hf
    refine lv_iload_n hx hb dX9_personOf_8 rfl (lv_at hl 2 rfl) ?_
    refine lv_iconst (v := 0) hx hb dX9_personOf_9 (by decide) ?_
    refine lv_bipush (v := 7) hx hb dX9_personOf_10 (by decide) ?_
    obtain ⟨q3, hq3, hf⟩ := zb_e hf
    refine x_calli (x_runS (As := [.int x2, .int 0, .int 7]) (rest := []) ⟨hx, hb, hml, hown, hts⟩ (c_X9_in l G hG I J x2 0 7 hq3) (va_cwS 3 hts gX9_personOf_X9_in rfl rfl rfl (by decide +kernel) ⟨Nat.le_of_ble_eq_true rfl, Nat.le_of_ble_eq_true rfl⟩) hK hP rfl hl.1 rfl (Nat.le_of_ble_eq_true rfl) dX9_personOf_12 ⟨Nat.zero_le _, Nat.zero_le _⟩) hS (fun H locs hP hS => ?_)
    refine lv_if_ne (tgt := 20) hx hb dX9_personOf_15 (by decide) (fun c4 => ?_) (fun c4 => ?_)
    · have hf := zif_f c4 hf
      refine lv_iload_n hx hb dX9_personOf_20 rfl (lv_at hl 2 rfl) ?_
      refine lv_iconst (v := 5) hx hb dX9_personOf_21 (by decide) ?_
      refine lv_icmp_ge (tgt := 34) hx hb dX9_personOf_22 (by decide) (fun c5 => ?_) (fun c5 => ?_)
      · have hf := zif_t c5 hf
        refine lv_iload_n hx hb dX9_personOf_34 rfl (lv_at hl 2 rfl) ?_
        refine lv_iconst (v := 5) hx hb dX9_personOf_35 (by decide) ?_
        refine lv_icmp_ne (tgt := 47) hx hb dX9_personOf_36 (by decide) (fun c6 => ?_) (fun c6 => ?_)
        · have hf := zif_f c6 hf
          refine lv_iload_n hx hb dX9_personOf_47 rfl (lv_at hl 2 rfl) ?_
          refine lv_bipush (v := 6) hx hb dX9_personOf_48 (by decide) ?_
          refine lv_icmp_ne (tgt := 61) hx hb dX9_personOf_50 (by decide) (fun c7 => ?_) (fun c7 => ?_)
          · have hf := zif_f c7 hf
            refine lv_aload_n hx hb dX9_personOf_61 rfl (lv_at hl 0 rfl) ?_
            refine lv_iload_n hx hb dX9_personOf_62 rfl (lv_at hl 1 rfl) ?_
            obtain ⟨q8, hq8, hf⟩ := zb_e hf
            refine x_calli (x_runV (As := [.int x1]) (rest := []) ⟨hx, hb, hml, hown, hts⟩ (c_X9_claimsOf l G hG I J x1 hq8) (cwV 1 hts gX9_personOf_X9_claimsOf rfl rfl rfl (by decide +kernel) ⟨Nat.le_of_ble_eq_true rfl, Nat.le_of_ble_eq_true rfl⟩) hK hP zkL_359 (by decide) rfl rfl hl.1 rfl (Nat.le_of_ble_eq_true rfl) dX9_personOf_63 ⟨Nat.zero_le _, Nat.zero_le _⟩) hS (fun H locs hP hS => ?_)
            obtain rfl := Option.some.inj hf
            exact x_iret hx hb hr hlocks hK hP hS dX9_personOf_66
          · have hf := zif_t c7 hf
            refine lv_aload_n hx hb dX9_personOf_53 rfl (lv_at hl 0 rfl) ?_
            refine lv_iload_n hx hb dX9_personOf_54 rfl (lv_at hl 1 rfl) ?_
            obtain ⟨q9, hq9, hf⟩ := zb_e hf
            refine x_calli (x_runV (As := [.int x1]) (rest := []) ⟨hx, hb, hml, hown, hts⟩ (c_X9_rankOf l G hG I J x1 hq9) (cwV 1 hts gX9_personOf_X9_rankOf rfl rfl rfl (by decide +kernel) ⟨Nat.le_of_ble_eq_true rfl, Nat.le_of_ble_eq_true rfl⟩) hK hP zkL_359 (by decide) rfl rfl hl.1 rfl (Nat.le_of_ble_eq_true rfl) dX9_personOf_55 ⟨Nat.zero_le _, Nat.zero_le _⟩) hS (fun H locs hP hS => ?_)
            refine lv_goto (tgt := 66) hx hb dX9_personOf_58 (by decide) ?_
            obtain rfl := Option.some.inj hf
            exact x_iret hx hb hr hlocks hK hP hS dX9_personOf_66
        · have hf := zif_t c6 hf
          refine lv_aload_n hx hb dX9_personOf_39 rfl (lv_at hl 0 rfl) ?_
          refine lv_iload_n hx hb dX9_personOf_40 rfl (lv_at hl 1 rfl) ?_
          obtain ⟨q10, hq10, hf⟩ := zb_e hf
          refine x_calli (x_runV (As := [.int x1]) (rest := []) ⟨hx, hb, hml, hown, hts⟩ (c_X9_toolsOf l G hG I J x1 hq10) (cwV 1 hts gX9_personOf_X9_toolsOf rfl rfl rfl (by decide +kernel) ⟨Nat.le_of_ble_eq_true rfl, Nat.le_of_ble_eq_true rfl⟩) hK hP zkL_359 (by decide) rfl rfl hl.1 rfl (Nat.le_of_ble_eq_true rfl) dX9_personOf_41 ⟨Nat.zero_le _, Nat.zero_le _⟩) hS (fun H locs hP hS => ?_)
          refine lv_goto (tgt := 66) hx hb dX9_personOf_44 (by decide) ?_
          obtain rfl := Option.some.inj hf
          exact x_iret hx hb hr hlocks hK hP hS dX9_personOf_66
      · have hf := zif_f c5 hf
        refine lv_aload_n hx hb dX9_personOf_25 rfl (lv_at hl 0 rfl) ?_
        refine lv_iload_n hx hb dX9_personOf_26 rfl (lv_at hl 1 rfl) ?_
        refine lv_iload_n hx hb dX9_personOf_27 rfl (lv_at hl 2 rfl) ?_
        obtain ⟨q11, hq11, hf⟩ := zb_e hf
        refine x_calli (x_runV (As := [.int x1, .int x2]) (rest := []) ⟨hx, hb, hml, hown, hts⟩ (c_X9_p l G hG I J x1 x2 hq11) (cwV 2 hts gX9_personOf_X9_p rfl rfl rfl (by decide +kernel) ⟨Nat.le_of_ble_eq_true rfl, Nat.le_of_ble_eq_true rfl⟩) hK hP zkL_359 (by decide) rfl rfl hl.1 rfl (Nat.le_of_ble_eq_true rfl) dX9_personOf_28 ⟨Nat.zero_le _, Nat.zero_le _⟩) hS (fun H locs hP hS => ?_)
        refine lv_goto (tgt := 66) hx hb dX9_personOf_31 (by decide) ?_
        obtain rfl := Option.some.inj hf
        exact x_iret hx hb hr hlocks hK hP hS dX9_personOf_66
    · have hf := zif_t c4 hf
      refine lv_iconst (v := (-1)) hx hb dX9_personOf_18 (by decide) ?_
      obtain rfl := Option.some.inj hf
      exact x_iret hx hb hr hlocks hK hP hS dX9_personOf_19
set_option maxRecDepth 100000 in
set_option maxHeartbeats 4000000 in
theorem c_X9_put (l : Launch) (G : zGT) (hG : zOK G) (I J : zM) (x1 : Int32) (x2 : Int32) (x3 : Int32) {r : Int32 × zM} (hf : f_X9_put J x1 x2 x3 = some r) : Met l yX9_put wsX9_put (zrm 2 43) (va_Pc [.ref (G.2.1 359), .int x1, .int x2, .int x3] (zS G I J)) (zQi G r.1 I r.2) 0 0 (zA G) := by
  refine zMet (cc := cX9_put) (n := 5) (ret := (some .int)) (by decide) rfl (Nat.le_of_ble_eq_true rfl) ?_
  intro p e s m args below meth c H locs ls F hK hP hS hl
  obtain ⟨hx, hb, hr, hml, hts, hown, hlocks⟩ := F
  have hown : s.vm.findClass RX9 = some m.cls := hown
  have hl : lv_has ls 5 [(0, .ref (G.2.1 359)), (1, .int x1), (2, .int x2), (3, .int x3)] := hl
  have hi9 : ∀ w ∈ wsX90, w ∈ wsX9_put := fun _ h => List.mem_cons_of_mem _ (List.mem_append_right _ h)
  unfold f_X9_put at hf
  refine lv_aload_n hx hb dX9_put_0 rfl (lv_at hl 0 rfl) ?_
  refine lv_iload_n hx hb dX9_put_1 rfl (lv_at hl 1 rfl) ?_
  obtain ⟨q1, hq1, hf⟩ := zb_e hf
  refine x_calli (x_runV (As := [.int x1]) (rest := []) ⟨hx, hb, hml, hown, hts⟩ (c_X9_isHolder l G hG I J x1 hq1) (cwV 1 hts gX9_put_X9_isHolder rfl rfl rfl (by decide +kernel) ⟨Nat.le_of_ble_eq_true rfl, Nat.le_of_ble_eq_true rfl⟩) hK hP zkL_359 (by decide) rfl rfl hl.1 rfl (Nat.le_of_ble_eq_true rfl) dX9_put_2 ⟨Nat.zero_le _, Nat.zero_le _⟩) hS (fun H locs hP hS => ?_)
  refine lv_if_eq (tgt := 34) hx hb dX9_put_5 (by decide) (fun c2 => ?_) (fun c2 => ?_)
  · have hf := zif_t c2 hf
    refine lv_ldcw (v := (-2000000000)) hx hb hown (hts (.constant RX9 279 (-2000000000)) (by decide +kernel)) dX9_put_34 ?_
    obtain rfl := Option.some.inj hf
    exact x_iret hx hb hr hlocks hK hP hS dX9_put_37
  · have hf := zif_f c2 hf
    refine lv_aload_n hx hb dX9_put_8 rfl (lv_at hl 0 rfl) ?_
    refine x_get (j := 9) (v := .ref (G.2.1 366)) hx hb hts hi9 hown hK hP zkL_359 rfl (by decide) (hts (.fieldLink RX9 28 "LeaseOfficeModel" "held" "[I") (by decide +kernel)) rfl (by decide) dX9_put_9 ?_
    refine lv_iload_n hx hb dX9_put_12 rfl (lv_at hl 1 rfl) ?_
    obtain ⟨h3, hf⟩ := zck_e hf
    refine x_iald hx hb hK hP (zK_lt zkL_366 (by decide)) (zE_15 (j := 7) zkL_366 zlL_366 rfl) (zin_e h3) dX9_put_13 ?_
    refine lv_iconst (v := 3) hx hb dX9_put_14 (by decide) ?_
    refine lv_icmp_ne (tgt := 34) hx hb dX9_put_15 (by decide) (fun c4 => ?_) (fun c4 => ?_)
    · have hf := zif_f c4 hf
      refine lv_ldcw (v := (-2000000000)) hx hb hown (hts (.constant RX9 279 (-2000000000)) (by decide +kernel)) dX9_put_34 ?_
      obtain rfl := Option.some.inj hf
      exact x_iret hx hb hr hlocks hK hP hS dX9_put_37
    · have hf := zif_t c4 hf
      refine lv_iload_n hx hb dX9_put_18 rfl (lv_at hl 2 rfl) ?_
      refine lv_iconst (v := 0) hx hb dX9_put_19 (by decide) ?_
      refine lv_aload_n hx hb dX9_put_20 rfl (lv_at hl 0 rfl) ?_
      refine x_get (j := 11) (v := .ref (G.2.1 368)) hx hb hts hi9 hown hK hP zkL_359 rfl (by decide) (hts (.fieldLink RX9 34 "LeaseOfficeModel" "rowSize" "[I") (by decide +kernel)) rfl (by decide) dX9_put_21 ?_
      refine lv_iload_n hx hb dX9_put_24 rfl (lv_at hl 1 rfl) ?_
      obtain ⟨h5, hf⟩ := zck_e hf
      refine x_iald hx hb hK hP (zK_lt zkL_368 (by decide)) (zE_15 (j := 9) zkL_368 zlL_368 rfl) (zin_e h5) dX9_put_25 ?_
      refine lv_iconst (v := 1) hx hb dX9_put_26 (by decide) ?_
      refine lv_isub hx hb dX9_put_27 ?_
      obtain ⟨q6, hq6, hf⟩ := zb_e hf
      refine x_calli (x_runS (As := [.int x2, .int 0, .int ((J 9 x1.toNatClampNeg) - 1)]) (rest := []) ⟨hx, hb, hml, hown, hts⟩ (c_X9_in l G hG I J x2 0 ((J 9 x1.toNatClampNeg) - 1) hq6) (va_cwS 3 hts gX9_put_X9_in rfl rfl rfl (by decide +kernel) ⟨Nat.le_of_ble_eq_true rfl, Nat.le_of_ble_eq_true rfl⟩) hK hP rfl hl.1 rfl (Nat.le_of_ble_eq_true rfl) dX9_put_28 ⟨Nat.zero_le _, Nat.zero_le _⟩) hS (fun H locs hP hS => ?_)
      refine lv_if_ne (tgt := 38) hx hb dX9_put_31 (by decide) (fun c7 => ?_) (fun c7 => ?_)
      · have hf := zif_f c7 hf
        refine lv_aload_n hx hb dX9_put_38 rfl (lv_at hl 0 rfl) ?_
        refine x_get (j := 12) (v := .ref (G.2.1 369)) hx hb hts hi9 hown hK hP zkL_359 rfl (by decide) (hts (.fieldLink RX9 39 "LeaseOfficeModel" "rows" "[[I") (by decide +kernel)) rfl (by decide) dX9_put_39 ?_
        refine lv_iload_n hx hb dX9_put_42 rfl (lv_at hl 1 rfl) ?_
        obtain ⟨h8, hf⟩ := zck_e hf
        refine x_aald14 hx hb hK hP (zin_e h8) dX9_put_43 ?_
        refine lv_iload_n hx hb dX9_put_44 rfl (lv_at hl 2 rfl) ?_
        obtain ⟨h9, hf⟩ := zck_e hf
        refine x_iald hx hb hK hP (zK_lt (zk_r _ (zin_lt h8)).1 (by decide)) (zE_15 (j := (11 + x1.toNatClampNeg)) (zk_r _ (zin_lt h8)).1 (zk_r _ (zin_lt h8)).2 rfl) (zin_e h9) dX9_put_45 ?_
        obtain ⟨w10, ew10, hf⟩ := zlet_e hf
        refine z_topi ew10 ?_
        refine lv_istore (lv' := [(4, .int w10), (0, .ref (G.2.1 359)), (1, .int x1), (2, .int x2), (3, .int x3)]) hx hb dX9_put_46 hl (by decide) rfl (fun ls hl => ?_)
        refine lv_aload_n hx hb dX9_put_48 rfl (lv_at hl 1 rfl) ?_
        refine x_get (j := 12) (v := .ref (G.2.1 369)) hx hb hts hi9 hown hK hP zkL_359 rfl (by decide) (hts (.fieldLink RX9 39 "LeaseOfficeModel" "rows" "[[I") (by decide +kernel)) rfl (by decide) dX9_put_49 ?_
        refine lv_iload_n hx hb dX9_put_52 rfl (lv_at hl 2 rfl) ?_
        obtain ⟨h11, hf⟩ := zck_e hf
        refine x_aald14 hx hb hK hP (zin_e h11) dX9_put_53 ?_
        refine lv_iload_n hx hb dX9_put_54 rfl (lv_at hl 3 rfl) ?_
        refine lv_iload_n hx hb dX9_put_55 rfl (lv_at hl 4 rfl) ?_
        obtain ⟨h13, hf⟩ := zck_e hf
        obtain ⟨M12, eM12, hf⟩ := zlet_e hf
        refine x_iastM (j := (11 + x1.toNatClampNeg)) (a := x2.toNatClampNeg) eM12 rfl hx hb hG hK hP hS (zk_r _ (zin_lt h11)).1 (zk_r _ (zin_lt h11)).2 (zin_e h13) dX9_put_56 (fun H locs hP hS => ?_)
        refine lv_iload hx hb dX9_put_57 (lv_at hl 0 rfl) ?_
        obtain rfl := Option.some.inj hf
        exact x_iret hx hb hr hlocks hK hP hS dX9_put_59
      · have hf := zif_t c7 hf
        refine lv_ldcw (v := (-2000000000)) hx hb hown (hts (.constant RX9 279 (-2000000000)) (by decide +kernel)) dX9_put_34 ?_
        obtain rfl := Option.some.inj hf
        exact x_iret hx hb hr hlocks hK hP hS dX9_put_37
set_option maxRecDepth 100000 in
set_option maxHeartbeats 4000000 in
theorem c_X9_ranked (l : Launch) (G : zGT) (hG : zOK G) (I J : zM) (x1 : Int32) {r : Int32} (hf : f_X9_ranked J x1 = some r) : Met l yX9_ranked wsX9_ranked (zrm 4 89) (va_Pc [.ref (G.2.1 359), .int x1] (zS G I J)) (zQi G r I J) 0 0 (zA G) := by
  refine zMet (cc := cX9_ranked) (n := 2) (ret := (some .int)) (by decide) rfl (Nat.le_of_ble_eq_true rfl) ?_
  intro p e s m args below meth c H locs ls F hK hP hS hl
  obtain ⟨hx, hb, hr, hml, hts, hown, hlocks⟩ := F
  have hown : s.vm.findClass RX9 = some m.cls := hown
  have hl : lv_has ls 2 [(0, .ref (G.2.1 359)), (1, .int x1)] := hl
  unfold f_X9_ranked at hf
  refine lv_iload_n hx hb dX9_ranked_0 rfl (lv_at hl 1 rfl) ?_
  refine lv_if_ge (tgt := 8) hx hb dX9_ranked_1 (by decide) (fun c1 => ?_) (fun c1 => ?_)
  · have hf := zif_t c1 hf
    refine lv_aload_n hx hb dX9_ranked_8 rfl (lv_at hl 0 rfl) ?_
    refine lv_iload_n hx hb dX9_ranked_9 rfl (lv_at hl 1 rfl) ?_
    obtain ⟨q2, hq2, hf⟩ := zb_e hf
    refine x_calli (x_runV (As := [.int x1]) (rest := []) ⟨hx, hb, hml, hown, hts⟩ (c_X9_rankedAt l G hG I J x1 hq2) (cwV 1 hts gX9_ranked_X9_rankedAt rfl rfl rfl (by decide +kernel) ⟨Nat.le_of_ble_eq_true rfl, Nat.le_of_ble_eq_true rfl⟩) hK hP zkL_359 (by decide) rfl rfl hl.1 rfl (Nat.le_of_ble_eq_true rfl) dX9_ranked_10 ⟨Nat.zero_le _, Nat.zero_le _⟩) hS (fun H locs hP hS => ?_)
    obtain rfl := Option.some.inj hf
    exact x_iret hx hb hr hlocks hK hP hS dX9_ranked_13
  · have hf := zif_f c1 hf
    refine lv_iconst (v := (-1)) hx hb dX9_ranked_4 (by decide) ?_
    refine lv_goto (tgt := 13) hx hb dX9_ranked_5 (by decide) ?_
    obtain rfl := Option.some.inj hf
    exact x_iret hx hb hr hlocks hK hP hS dX9_ranked_13
set_option maxRecDepth 100000 in
set_option maxHeartbeats 4000000 in
theorem c_X9_wishesMore (l : Launch) (G : zGT) (hG : zOK G) (I J : zM) (x1 : Int32) (x2 : Int32) {r : Int32} (hf : f_X9_wishesMore J x1 x2 = some r) : Met l yX9_wishesMore wsX9_wishesMore (zrm 2 45) (va_Pc [.ref (G.2.1 359), .int x1, .int x2] (zS G I J)) (zQi G r I J) 0 0 (zA G) := by
  refine zMet (cc := cX9_wishesMore) (n := 3) (ret := (some .boolean)) (by decide) rfl (Nat.le_of_ble_eq_true rfl) ?_
  intro p e s m args below meth c H locs ls F hK hP hS hl
  obtain ⟨hx, hb, hr, hml, hts, hown, hlocks⟩ := F
  have hown : s.vm.findClass RX9 = some m.cls := hown
  have hl : lv_has ls 3 [(0, .ref (G.2.1 359)), (1, .int x1), (2, .int x2)] := hl
  unfold f_X9_wishesMore at hf
  refine lv_aload_n hx hb dX9_wishesMore_0 rfl (lv_at hl 0 rfl) ?_
  refine lv_aload_n hx hb dX9_wishesMore_1 rfl (lv_at hl 0 rfl) ?_
  refine lv_iload_n hx hb dX9_wishesMore_2 rfl (lv_at hl 1 rfl) ?_
  refine lv_iconst (v := 2) hx hb dX9_wishesMore_3 (by decide) ?_
  obtain ⟨q1, hq1, hf⟩ := zb_e hf
  refine x_calli (x_runV (As := [.int x1, .int 2]) (rest := [.ref (G.2.1 359)]) ⟨hx, hb, hml, hown, hts⟩ (c_X9_t l G hG I J x1 2 hq1) (cwV 2 hts gX9_wishesMore_X9_t rfl rfl rfl (by decide +kernel) ⟨Nat.le_of_ble_eq_true rfl, Nat.le_of_ble_eq_true rfl⟩) hK hP zkL_359 (by decide) rfl rfl hl.1 rfl (Nat.le_of_ble_eq_true rfl) dX9_wishesMore_4 ⟨Nat.zero_le _, Nat.zero_le _⟩) hS (fun H locs hP hS => ?_)
  refine lv_iload_n hx hb dX9_wishesMore_7 rfl (lv_at hl 1 rfl) ?_
  refine lv_iload_n hx hb dX9_wishesMore_8 rfl (lv_at hl 2 rfl) ?_
  obtain ⟨q2, hq2, hf⟩ := zb_e hf
  refine x_calli (x_runV (As := [.int q1, .int x1, .int x2]) (rest := []) ⟨hx, hb, hml, hown, hts⟩ (c_X9_more l G hG I J q1 x1 x2 hq2) (cwV 3 hts gX9_wishesMore_X9_more rfl rfl rfl (by decide +kernel) ⟨Nat.le_of_ble_eq_true rfl, Nat.le_of_ble_eq_true rfl⟩) hK hP zkL_359 (by decide) rfl rfl hl.1 rfl (Nat.le_of_ble_eq_true rfl) dX9_wishesMore_9 ⟨Nat.zero_le _, Nat.zero_le _⟩) hS (fun H locs hP hS => ?_)
  refine lv_if_le (tgt := 19) hx hb dX9_wishesMore_12 (by decide) (fun c3 => ?_) (fun c3 => ?_)
  · have hf := zif_t c3 hf
    refine lv_iconst (v := 0) hx hb dX9_wishesMore_19 (by decide) ?_
    obtain rfl := Option.some.inj hf
    exact x_zret (v := 0) rfl hx hb hr hlocks hK hP hS dX9_wishesMore_20
  · have hf := zif_f c3 hf
    refine lv_iconst (v := 1) hx hb dX9_wishesMore_15 (by decide) ?_
    refine lv_goto (tgt := 20) hx hb dX9_wishesMore_16 (by decide) ?_
    obtain rfl := Option.some.inj hf
    exact x_zret (v := 1) rfl hx hb hr hlocks hK hP hS dX9_wishesMore_20
set_option maxRecDepth 100000 in
set_option maxHeartbeats 4000000 in
theorem c_X9_rings (l : Launch) (G : zGT) (hG : zOK G) (I J : zM) {r : Int32} (hf : f_X9_rings J = some r) : Met l yX9_rings wsX9_rings (zrm 3 67) (va_Pc [.ref (G.2.1 359)] (zS G I J)) (zQi G r I J) 0 0 (zA G) := by
  refine zMet (cc := cX9_rings) (n := 6) (ret := (some .int)) (by decide) rfl (Nat.le_of_ble_eq_true rfl) ?_
  intro p e s m args below meth c H locs ls F hK hP hS hl
  obtain ⟨hx, hb, hr, hml, hts, hown, hlocks⟩ := F
  have hown : s.vm.findClass RX9 = some m.cls := hown
  have hl : lv_has ls 6 [(0, .ref (G.2.1 359))] := hl
  have hi9 : ∀ w ∈ wsX90, w ∈ wsX9_rings := fun _ h => List.mem_cons_of_mem _ (List.mem_append_right _ h)
  have L37 : ∀ (y2 : Int32) (y3 : Int32) (K : Int32 → Option (Int32)) (hKK : ∀ (z1 : Int32) (H : Heap) (locs : List Loc) (ls : Array Slot), K z1 = some r → va_P G.1 vwCl (zW G I J) H → va_S (zA G) s.heap H locs → lv_has ls 6 [(0, .ref (G.2.1 359)), (1, .int z1), (2, .int y2), (3, .int y3)] → W p l e (zrm 3 67) s m args below meth c H locs 0 0 (MQ below (zQi G r I J) args s 0 0 (zA G)) (F0 m 134 ls [])) (n : Nat) (y1 : Int32) (y4 : Int32) (H : Heap) (locs : List Loc) (ls : Array Slot), f_X9_rings_l37 J y2 y3 K n y1 y4 = some r → va_P G.1 vwCl (zW G I J) H → va_S (zA G) s.heap H locs → lv_has ls 6 [(0, .ref (G.2.1 359)), (1, .int y1), (2, .int y2), (3, .int y3), (4, .int y4)] → W p l e (zrm 3 67) s m args below meth c H locs 0 0 (MQ below (zQi G r I J) args s 0 0 (zA G)) (F0 m 37 ls []) := by
    intro y2 y3 K hKK n
    induction n with
    | zero =>
      intro y1 y4 H locs ls hf
      rw [f_X9_rings_l37] at hf
      cases hf
    | succ n ih =>
      intro y1 y4 H locs ls hf hP hS hl
      rw [f_X9_rings_l37] at hf
      refine lv_iload hx hb dX9_rings_37 (lv_at hl 4 rfl) ?_
      refine lv_aload_n hx hb dX9_rings_39 rfl (lv_at hl 0 rfl) ?_
      refine x_get (j := 0) (v := .ref (G.2.1 360)) hx hb hts hi9 hown hK hP zkL_359 rfl (by decide) (hts (.fieldLink RX9 9 "LeaseOfficeModel" "g" "[I") (by decide +kernel)) rfl (by decide) dX9_rings_40 ?_
      refine lv_sipush (v := 1081) hx hb dX9_rings_43 (by decide) ?_
      refine x_ialdL (j := 1081) hx hb hK hP (zK_lt zkL_360 (by decide)) (zE_15 (j := 1) zkL_360 zlL_360 rfl) (by decide) (by decide) dX9_rings_46 ?_
      refine lv_icmp_ge (tgt := 134) hx hb dX9_rings_47 (by decide) (fun c5 => ?_) (fun c5 => ?_)
      · have hf := zif_t c5 hf
        exact hKK y1 H locs ls hf hP hS (lv_sub hl [0, 1, 2, 3] rfl)
      · have hf := zif_f c5 hf
        refine lv_aload_n hx hb dX9_rings_50 rfl (lv_at hl 0 rfl) ?_
        refine lv_iload_n hx hb dX9_rings_51 rfl (lv_at hl 2 rfl) ?_
        refine lv_iload_n hx hb dX9_rings_52 rfl (lv_at hl 3 rfl) ?_
        obtain ⟨q6, hq6, hf⟩ := zb_e hf
        refine x_calli (x_runV (As := [.int y2, .int y3]) (rest := []) ⟨hx, hb, hml, hown, hts⟩ (c_X9_mayBeSwapped l G hG I J y2 y3 hq6) (cwV 2 hts gX9_rings_X9_mayBeSwapped rfl rfl rfl (by decide +kernel) ⟨Nat.le_of_ble_eq_true rfl, Nat.le_of_ble_eq_true rfl⟩) hK hP zkL_359 (by decide) rfl rfl hl.1 rfl (Nat.le_of_ble_eq_true rfl) dX9_rings_53 ⟨Nat.zero_le _, Nat.zero_le _⟩) hS (fun H locs hP hS => ?_)
        refine lv_if_eq (tgt := 83) hx hb dX9_rings_56 (by decide) (fun c7 => ?_) (fun c7 => ?_)
        · have hf := zif_t c7 hf
          refine lv_iconst (v := 0) hx hb dX9_rings_83 (by decide) ?_
          refine lv_istore (lv' := [(5, .int 0), (0, .ref (G.2.1 359)), (1, .int y1), (2, .int y2), (3, .int y3), (4, .int y4)]) hx hb dX9_rings_84 hl (by decide) rfl (fun ls hl => ?_)
          refine lv_iload_n hx hb dX9_rings_86 rfl (lv_at hl 2 rfl) ?_
          refine lv_iload hx hb dX9_rings_87 (lv_at hl 0 rfl) ?_
          refine lv_if_eq (tgt := 125) hx hb dX9_rings_89 (by decide) (fun _ => ?_) (fun c8 => absurd (by decide) c8)
          refine lv_iconst (v := 0) hx hb dX9_rings_125 (by decide) ?_
          refine lv_iadd hx hb dX9_rings_126 ?_
          obtain ⟨w9, ew9, hf⟩ := zlet_e hf
          refine z_topi ew9 ?_
          refine lv_istore_n (lv' := [(1, .int w9), (5, .int 0), (0, .ref (G.2.1 359)), (2, .int y2), (3, .int y3), (4, .int y4)]) hx hb dX9_rings_127 rfl hl (by decide) rfl (fun ls hl => ?_)
          refine lv_iinc (v := (y4 + 1)) (lv' := [(4, .int (y4 + 1)), (1, .int w9), (5, .int 0), (0, .ref (G.2.1 359)), (2, .int y2), (3, .int y3)]) hx hb dX9_rings_128 hl (k := 5) rfl rfl (by decide) rfl (fun ls hl => ?_)
          refine lv_goto (tgt := 37) hx hb dX9_rings_131 (by decide) ?_
          exact ih w9 (y4 + 1) H locs ls hf hP hS (lv_sub hl [3, 1, 4, 5, 0] rfl)
        · have hf := zif_f c7 hf
          refine lv_aload_n hx hb dX9_rings_59 rfl (lv_at hl 0 rfl) ?_
          refine lv_iload_n hx hb dX9_rings_60 rfl (lv_at hl 3 rfl) ?_
          refine lv_iload hx hb dX9_rings_61 (lv_at hl 4 rfl) ?_
          obtain ⟨q10, hq10, hf⟩ := zb_e hf
          refine x_calli (x_runV (As := [.int y3, .int y4]) (rest := []) ⟨hx, hb, hml, hown, hts⟩ (c_X9_mayBeSwapped l G hG I J y3 y4 hq10) (cwV 2 hts gX9_rings_X9_mayBeSwapped rfl rfl rfl (by decide +kernel) ⟨Nat.le_of_ble_eq_true rfl, Nat.le_of_ble_eq_true rfl⟩) hK hP zkL_359 (by decide) rfl rfl hl.1 rfl (Nat.le_of_ble_eq_true rfl) dX9_rings_63 ⟨Nat.zero_le _, Nat.zero_le _⟩) hS (fun H locs hP hS => ?_)
          refine lv_if_eq (tgt := 83) hx hb dX9_rings_66 (by decide) (fun c11 => ?_) (fun c11 => ?_)
          · have hf := zif_t c11 hf
            refine lv_iconst (v := 0) hx hb dX9_rings_83 (by decide) ?_
            refine lv_istore (lv' := [(5, .int 0), (0, .ref (G.2.1 359)), (1, .int y1), (2, .int y2), (3, .int y3), (4, .int y4)]) hx hb dX9_rings_84 hl (by decide) rfl (fun ls hl => ?_)
            refine lv_iload_n hx hb dX9_rings_86 rfl (lv_at hl 2 rfl) ?_
            refine lv_iload hx hb dX9_rings_87 (lv_at hl 0 rfl) ?_
            refine lv_if_eq (tgt := 125) hx hb dX9_rings_89 (by decide) (fun _ => ?_) (fun c12 => absurd (by decide) c12)
            refine lv_iconst (v := 0) hx hb dX9_rings_125 (by decide) ?_
            refine lv_iadd hx hb dX9_rings_126 ?_
            obtain ⟨w13, ew13, hf⟩ := zlet_e hf
            refine z_topi ew13 ?_
            refine lv_istore_n (lv' := [(1, .int w13), (5, .int 0), (0, .ref (G.2.1 359)), (2, .int y2), (3, .int y3), (4, .int y4)]) hx hb dX9_rings_127 rfl hl (by decide) rfl (fun ls hl => ?_)
            refine lv_iinc (v := (y4 + 1)) (lv' := [(4, .int (y4 + 1)), (1, .int w13), (5, .int 0), (0, .ref (G.2.1 359)), (2, .int y2), (3, .int y3)]) hx hb dX9_rings_128 hl (k := 5) rfl rfl (by decide) rfl (fun ls hl => ?_)
            refine lv_goto (tgt := 37) hx hb dX9_rings_131 (by decide) ?_
            exact ih w13 (y4 + 1) H locs ls hf hP hS (lv_sub hl [3, 1, 4, 5, 0] rfl)
          · have hf := zif_f c11 hf
            refine lv_aload_n hx hb dX9_rings_69 rfl (lv_at hl 0 rfl) ?_
            refine lv_iload hx hb dX9_rings_70 (lv_at hl 4 rfl) ?_
            refine lv_iload_n hx hb dX9_rings_72 rfl (lv_at hl 2 rfl) ?_
            obtain ⟨q14, hq14, hf⟩ := zb_e hf
            refine x_calli (x_runV (As := [.int y4, .int y2]) (rest := []) ⟨hx, hb, hml, hown, hts⟩ (c_X9_mayBeSwapped l G hG I J y4 y2 hq14) (cwV 2 hts gX9_rings_X9_mayBeSwapped rfl rfl rfl (by decide +kernel) ⟨Nat.le_of_ble_eq_true rfl, Nat.le_of_ble_eq_true rfl⟩) hK hP zkL_359 (by decide) rfl rfl hl.1 rfl (Nat.le_of_ble_eq_true rfl) dX9_rings_73 ⟨Nat.zero_le _, Nat.zero_le _⟩) hS (fun H locs hP hS => ?_)
            refine lv_if_eq (tgt := 83) hx hb dX9_rings_76 (by decide) (fun c15 => ?_) (fun c15 => ?_)
            · have hf := zif_t c15 hf
              refine lv_iconst (v := 0) hx hb dX9_rings_83 (by decide) ?_
              refine lv_istore (lv' := [(5, .int 0), (0, .ref (G.2.1 359)), (1, .int y1), (2, .int y2), (3, .int y3), (4, .int y4)]) hx hb dX9_rings_84 hl (by decide) rfl (fun ls hl => ?_)
              refine lv_iload_n hx hb dX9_rings_86 rfl (lv_at hl 2 rfl) ?_
              refine lv_iload hx hb dX9_rings_87 (lv_at hl 0 rfl) ?_
              refine lv_if_eq (tgt := 125) hx hb dX9_rings_89 (by decide) (fun _ => ?_) (fun c16 => absurd (by decide) c16)
              refine lv_iconst (v := 0) hx hb dX9_rings_125 (by decide) ?_
              refine lv_iadd hx hb dX9_rings_126 ?_
              obtain ⟨w17, ew17, hf⟩ := zlet_e hf
              refine z_topi ew17 ?_
              refine lv_istore_n (lv' := [(1, .int w17), (5, .int 0), (0, .ref (G.2.1 359)), (2, .int y2), (3, .int y3), (4, .int y4)]) hx hb dX9_rings_127 rfl hl (by decide) rfl (fun ls hl => ?_)
              refine lv_iinc (v := (y4 + 1)) (lv' := [(4, .int (y4 + 1)), (1, .int w17), (5, .int 0), (0, .ref (G.2.1 359)), (2, .int y2), (3, .int y3)]) hx hb dX9_rings_128 hl (k := 5) rfl rfl (by decide) rfl (fun ls hl => ?_)
              refine lv_goto (tgt := 37) hx hb dX9_rings_131 (by decide) ?_
              exact ih w17 (y4 + 1) H locs ls hf hP hS (lv_sub hl [3, 1, 4, 5, 0] rfl)
            · have hf := zif_f c15 hf
              refine lv_iconst (v := 1) hx hb dX9_rings_79 (by decide) ?_
              refine lv_goto (tgt := 84) hx hb dX9_rings_80 (by decide) ?_
              refine lv_istore (lv' := [(5, .int 1), (0, .ref (G.2.1 359)), (1, .int y1), (2, .int y2), (3, .int y3), (4, .int y4)]) hx hb dX9_rings_84 hl (by decide) rfl (fun ls hl => ?_)
              refine lv_iload_n hx hb dX9_rings_86 rfl (lv_at hl 2 rfl) ?_
              refine lv_iload hx hb dX9_rings_87 (lv_at hl 0 rfl) ?_
              refine lv_if_eq (tgt := 125) hx hb dX9_rings_89 (by decide) (fun c18 => absurd c18 (by decide)) (fun _ => ?_)
              refine lv_aload_n hx hb dX9_rings_92 rfl (lv_at hl 1 rfl) ?_
              refine lv_iload_n hx hb dX9_rings_93 rfl (lv_at hl 3 rfl) ?_
              refine lv_iload_n hx hb dX9_rings_94 rfl (lv_at hl 4 rfl) ?_
              obtain ⟨q19, hq19, hf⟩ := zb_e hf
              refine x_calli (x_runV (As := [.int y2, .int y3]) (rest := [.int y1]) ⟨hx, hb, hml, hown, hts⟩ (c_X9_wishesMore l G hG I J y2 y3 hq19) (cwV 2 hts gX9_rings_X9_wishesMore rfl rfl rfl (by decide +kernel) ⟨Nat.le_of_ble_eq_true rfl, Nat.le_of_ble_eq_true rfl⟩) hK hP zkL_359 (by decide) rfl rfl hl.1 rfl (Nat.le_of_ble_eq_true rfl) dX9_rings_95 ⟨Nat.zero_le _, Nat.zero_le _⟩) hS (fun H locs hP hS => ?_)
              refine lv_if_eq (tgt := 125) hx hb dX9_rings_98 (by decide) (fun c20 => ?_) (fun c20 => ?_)
              · have hf := zif_t c20 hf
                refine lv_iconst (v := 0) hx hb dX9_rings_125 (by decide) ?_
                refine lv_iadd hx hb dX9_rings_126 ?_
                obtain ⟨w21, ew21, hf⟩ := zlet_e hf
                refine z_topi ew21 ?_
                refine lv_istore_n (lv' := [(1, .int w21), (5, .int 1), (0, .ref (G.2.1 359)), (2, .int y2), (3, .int y3), (4, .int y4)]) hx hb dX9_rings_127 rfl hl (by decide) rfl (fun ls hl => ?_)
                refine lv_iinc (v := (y4 + 1)) (lv' := [(4, .int (y4 + 1)), (1, .int w21), (5, .int 1), (0, .ref (G.2.1 359)), (2, .int y2), (3, .int y3)]) hx hb dX9_rings_128 hl (k := 5) rfl rfl (by decide) rfl (fun ls hl => ?_)
                refine lv_goto (tgt := 37) hx hb dX9_rings_131 (by decide) ?_
                exact ih w21 (y4 + 1) H locs ls hf hP hS (lv_sub hl [3, 1, 4, 5, 0] rfl)
              · have hf := zif_f c20 hf
                refine lv_aload_n hx hb dX9_rings_101 rfl (lv_at hl 1 rfl) ?_
                refine lv_iload_n hx hb dX9_rings_102 rfl (lv_at hl 4 rfl) ?_
                refine lv_iload hx hb dX9_rings_103 (lv_at hl 5 rfl) ?_
                obtain ⟨q22, hq22, hf⟩ := zb_e hf
                refine x_calli (x_runV (As := [.int y3, .int y4]) (rest := [.int y1]) ⟨hx, hb, hml, hown, hts⟩ (c_X9_wishesMore l G hG I J y3 y4 hq22) (cwV 2 hts gX9_rings_X9_wishesMore rfl rfl rfl (by decide +kernel) ⟨Nat.le_of_ble_eq_true rfl, Nat.le_of_ble_eq_true rfl⟩) hK hP zkL_359 (by decide) rfl rfl hl.1 rfl (Nat.le_of_ble_eq_true rfl) dX9_rings_105 ⟨Nat.zero_le _, Nat.zero_le _⟩) hS (fun H locs hP hS => ?_)
                refine lv_if_eq (tgt := 125) hx hb dX9_rings_108 (by decide) (fun c23 => ?_) (fun c23 => ?_)
                · have hf := zif_t c23 hf
                  refine lv_iconst (v := 0) hx hb dX9_rings_125 (by decide) ?_
                  refine lv_iadd hx hb dX9_rings_126 ?_
                  obtain ⟨w24, ew24, hf⟩ := zlet_e hf
                  refine z_topi ew24 ?_
                  refine lv_istore_n (lv' := [(1, .int w24), (5, .int 1), (0, .ref (G.2.1 359)), (2, .int y2), (3, .int y3), (4, .int y4)]) hx hb dX9_rings_127 rfl hl (by decide) rfl (fun ls hl => ?_)
                  refine lv_iinc (v := (y4 + 1)) (lv' := [(4, .int (y4 + 1)), (1, .int w24), (5, .int 1), (0, .ref (G.2.1 359)), (2, .int y2), (3, .int y3)]) hx hb dX9_rings_128 hl (k := 5) rfl rfl (by decide) rfl (fun ls hl => ?_)
                  refine lv_goto (tgt := 37) hx hb dX9_rings_131 (by decide) ?_
                  exact ih w24 (y4 + 1) H locs ls hf hP hS (lv_sub hl [3, 1, 4, 5, 0] rfl)
                · have hf := zif_f c23 hf
                  refine lv_aload_n hx hb dX9_rings_111 rfl (lv_at hl 1 rfl) ?_
                  refine lv_iload hx hb dX9_rings_112 (lv_at hl 5 rfl) ?_
                  refine lv_iload_n hx hb dX9_rings_114 rfl (lv_at hl 3 rfl) ?_
                  obtain ⟨q25, hq25, hf⟩ := zb_e hf
                  refine x_calli (x_runV (As := [.int y4, .int y2]) (rest := [.int y1]) ⟨hx, hb, hml, hown, hts⟩ (c_X9_wishesMore l G hG I J y4 y2 hq25) (cwV 2 hts gX9_rings_X9_wishesMore rfl rfl rfl (by decide +kernel) ⟨Nat.le_of_ble_eq_true rfl, Nat.le_of_ble_eq_true rfl⟩) hK hP zkL_359 (by decide) rfl rfl hl.1 rfl (Nat.le_of_ble_eq_true rfl) dX9_rings_115 ⟨Nat.zero_le _, Nat.zero_le _⟩) hS (fun H locs hP hS => ?_)
                  refine lv_if_eq (tgt := 125) hx hb dX9_rings_118 (by decide) (fun c26 => ?_) (fun c26 => ?_)
                  · have hf := zif_t c26 hf
                    refine lv_iconst (v := 0) hx hb dX9_rings_125 (by decide) ?_
                    refine lv_iadd hx hb dX9_rings_126 ?_
                    obtain ⟨w27, ew27, hf⟩ := zlet_e hf
                    refine z_topi ew27 ?_
                    refine lv_istore_n (lv' := [(1, .int w27), (5, .int 1), (0, .ref (G.2.1 359)), (2, .int y2), (3, .int y3), (4, .int y4)]) hx hb dX9_rings_127 rfl hl (by decide) rfl (fun ls hl => ?_)
                    refine lv_iinc (v := (y4 + 1)) (lv' := [(4, .int (y4 + 1)), (1, .int w27), (5, .int 1), (0, .ref (G.2.1 359)), (2, .int y2), (3, .int y3)]) hx hb dX9_rings_128 hl (k := 5) rfl rfl (by decide) rfl (fun ls hl => ?_)
                    refine lv_goto (tgt := 37) hx hb dX9_rings_131 (by decide) ?_
                    exact ih w27 (y4 + 1) H locs ls hf hP hS (lv_sub hl [3, 1, 4, 5, 0] rfl)
                  · have hf := zif_f c26 hf
                    refine lv_iconst (v := 1) hx hb dX9_rings_121 (by decide) ?_
                    refine lv_goto (tgt := 126) hx hb dX9_rings_122 (by decide) ?_
                    refine lv_iadd hx hb dX9_rings_126 ?_
                    obtain ⟨w28, ew28, hf⟩ := zlet_e hf
                    refine z_topi ew28 ?_
                    refine lv_istore_n (lv' := [(1, .int w28), (5, .int 1), (0, .ref (G.2.1 359)), (2, .int y2), (3, .int y3), (4, .int y4)]) hx hb dX9_rings_127 rfl hl (by decide) rfl (fun ls hl => ?_)
                    refine lv_iinc (v := (y4 + 1)) (lv' := [(4, .int (y4 + 1)), (1, .int w28), (5, .int 1), (0, .ref (G.2.1 359)), (2, .int y2), (3, .int y3)]) hx hb dX9_rings_128 hl (k := 5) rfl rfl (by decide) rfl (fun ls hl => ?_)
                    refine lv_goto (tgt := 37) hx hb dX9_rings_131 (by decide) ?_
                    exact ih w28 (y4 + 1) H locs ls hf hP hS (lv_sub hl [3, 1, 4, 5, 0] rfl)
  have L20 : ∀ (y2 : Int32) (K : Int32 → Option (Int32)) (hKK : ∀ (z1 : Int32) (H : Heap) (locs : List Loc) (ls : Array Slot), K z1 = some r → va_P G.1 vwCl (zW G I J) H → va_S (zA G) s.heap H locs → lv_has ls 6 [(0, .ref (G.2.1 359)), (1, .int z1), (2, .int y2)] → W p l e (zrm 3 67) s m args below meth c H locs 0 0 (MQ below (zQi G r I J) args s 0 0 (zA G)) (F0 m 140 ls [])) (n : Nat) (y1 : Int32) (y3 : Int32) (H : Heap) (locs : List Loc) (ls : Array Slot), f_X9_rings_l20 J y2 K n y1 y3 = some r → va_P G.1 vwCl (zW G I J) H → va_S (zA G) s.heap H locs → lv_has ls 6 [(0, .ref (G.2.1 359)), (1, .int y1), (2, .int y2), (3, .int y3)] → W p l e (zrm 3 67) s m args below meth c H locs 0 0 (MQ below (zQi G r I J) args s 0 0 (zA G)) (F0 m 20 ls []) := by
    intro y2 K hKK n
    induction n with
    | zero =>
      intro y1 y3 H locs ls hf
      rw [f_X9_rings_l20] at hf
      cases hf
    | succ n ih =>
      intro y1 y3 H locs ls hf hP hS hl
      rw [f_X9_rings_l20] at hf
      refine lv_iload_n hx hb dX9_rings_20 rfl (lv_at hl 3 rfl) ?_
      refine lv_aload_n hx hb dX9_rings_21 rfl (lv_at hl 0 rfl) ?_
      refine x_get (j := 0) (v := .ref (G.2.1 360)) hx hb hts hi9 hown hK hP zkL_359 rfl (by decide) (hts (.fieldLink RX9 9 "LeaseOfficeModel" "g" "[I") (by decide +kernel)) rfl (by decide) dX9_rings_22 ?_
      refine lv_sipush (v := 1081) hx hb dX9_rings_25 (by decide) ?_
      refine x_ialdL (j := 1081) hx hb hK hP (zK_lt zkL_360 (by decide)) (zE_15 (j := 1) zkL_360 zlL_360 rfl) (by decide) (by decide) dX9_rings_28 ?_
      refine lv_icmp_ge (tgt := 140) hx hb dX9_rings_29 (by decide) (fun c3 => ?_) (fun c3 => ?_)
      · have hf := zif_t c3 hf
        exact hKK y1 H locs ls hf hP hS (lv_sub hl [0, 1, 2] rfl)
      · have hf := zif_f c3 hf
        refine lv_iload_n hx hb dX9_rings_32 rfl (lv_at hl 2 rfl) ?_
        refine lv_iconst (v := 1) hx hb dX9_rings_33 (by decide) ?_
        refine lv_iadd hx hb dX9_rings_34 ?_
        obtain ⟨w4, ew4, hf⟩ := zlet_e hf
        refine z_topi ew4 ?_
        refine lv_istore (lv' := [(4, .int w4), (0, .ref (G.2.1 359)), (1, .int y1), (2, .int y2), (3, .int y3)]) hx hb dX9_rings_35 hl (by decide) rfl (fun ls hl => ?_)
        refine L37 y2 y3 _ (fun z29 H locs ls hf hP hS hl => ?_) zFu y1 w4 H locs ls hf hP hS (lv_sub hl [1, 2, 3, 4, 0] rfl)
        refine lv_iinc (v := (y3 + 1)) (lv' := [(3, .int (y3 + 1)), (0, .ref (G.2.1 359)), (1, .int z29), (2, .int y2)]) hx hb dX9_rings_134 hl (k := 3) rfl rfl (by decide) rfl (fun ls hl => ?_)
        refine lv_goto (tgt := 20) hx hb dX9_rings_137 (by decide) ?_
        exact ih z29 (y3 + 1) H locs ls hf hP hS (lv_sub hl [1, 2, 3, 0] rfl)
  have L4 : ∀ (n : Nat) (y1 : Int32) (y2 : Int32) (H : Heap) (locs : List Loc) (ls : Array Slot), f_X9_rings_l4 J n y1 y2 = some r → va_P G.1 vwCl (zW G I J) H → va_S (zA G) s.heap H locs → lv_has ls 6 [(0, .ref (G.2.1 359)), (1, .int y1), (2, .int y2)] → W p l e (zrm 3 67) s m args below meth c H locs 0 0 (MQ below (zQi G r I J) args s 0 0 (zA G)) (F0 m 4 ls []) := by
    intro n
    induction n with
    | zero =>
      intro y1 y2 H locs ls hf
      rw [f_X9_rings_l4] at hf
      cases hf
    | succ n ih =>
      intro y1 y2 H locs ls hf hP hS hl
      rw [f_X9_rings_l4] at hf
      refine lv_iload_n hx hb dX9_rings_4 rfl (lv_at hl 2 rfl) ?_
      refine lv_aload_n hx hb dX9_rings_5 rfl (lv_at hl 0 rfl) ?_
      refine x_get (j := 0) (v := .ref (G.2.1 360)) hx hb hts hi9 hown hK hP zkL_359 rfl (by decide) (hts (.fieldLink RX9 9 "LeaseOfficeModel" "g" "[I") (by decide +kernel)) rfl (by decide) dX9_rings_6 ?_
      refine lv_sipush (v := 1081) hx hb dX9_rings_9 (by decide) ?_
      refine x_ialdL (j := 1081) hx hb hK hP (zK_lt zkL_360 (by decide)) (zE_15 (j := 1) zkL_360 zlL_360 rfl) (by decide) (by decide) dX9_rings_12 ?_
      refine lv_icmp_ge (tgt := 146) hx hb dX9_rings_13 (by decide) (fun c1 => ?_) (fun c1 => ?_)
      · have hf := zif_t c1 hf
        refine lv_iload_n hx hb dX9_rings_146 rfl (lv_at hl 1 rfl) ?_
        obtain rfl := Option.some.inj hf
        exact x_iret hx hb hr hlocks hK hP hS dX9_rings_147
      · have hf := zif_f c1 hf
        refine lv_iload_n hx hb dX9_rings_16 rfl (lv_at hl 2 rfl) ?_
        refine lv_iconst (v := 1) hx hb dX9_rings_17 (by decide) ?_
        refine lv_iadd hx hb dX9_rings_18 ?_
        obtain ⟨w2, ew2, hf⟩ := zlet_e hf
        refine z_topi ew2 ?_
        refine lv_istore_n (lv' := [(3, .int w2), (0, .ref (G.2.1 359)), (1, .int y1), (2, .int y2)]) hx hb dX9_rings_19 rfl hl (by decide) rfl (fun ls hl => ?_)
        refine L20 y2 _ (fun z30 H locs ls hf hP hS hl => ?_) zFu y1 w2 H locs ls hf hP hS (lv_sub hl [1, 2, 3, 0] rfl)
        refine lv_iinc (v := (y2 + 1)) (lv' := [(2, .int (y2 + 1)), (0, .ref (G.2.1 359)), (1, .int z30)]) hx hb dX9_rings_140 hl (k := 2) rfl rfl (by decide) rfl (fun ls hl => ?_)
        refine lv_goto (tgt := 4) hx hb dX9_rings_143 (by decide) ?_
        exact ih z30 (y2 + 1) H locs ls hf hP hS (lv_sub hl [1, 2, 0] rfl)
  unfold f_X9_rings at hf
  refine lv_iconst (v := 0) hx hb dX9_rings_0 (by decide) ?_
  refine lv_istore_n (lv' := [(1, .int 0), (0, .ref (G.2.1 359))]) hx hb dX9_rings_1 rfl hl (by decide) rfl (fun ls hl => ?_)
  refine lv_iconst (v := 0) hx hb dX9_rings_2 (by decide) ?_
  refine lv_istore_n (lv' := [(2, .int 0), (1, .int 0), (0, .ref (G.2.1 359))]) hx hb dX9_rings_3 rfl hl (by decide) rfl (fun ls hl => ?_)
  exact L4 zFu 0 0 H locs ls hf hP hS (lv_sub hl [2, 1, 0] rfl)
set_option maxRecDepth 100000 in
set_option maxHeartbeats 4000000 in
theorem c_X9_row (l : Launch) (G : zGT) (hG : zOK G) (I J : zM) (x1 : Int32) (x2 : Int32) {r : Int32 × zM} (hf : f_X9_row J x1 x2 = some r) : Met l yX9_row wsX9_row (zrm 2 43) (va_Pc [.ref (G.2.1 359), .int x1, .int x2] (zS G I J)) (zQi G r.1 I r.2) 0 0 (zA G) := by
  refine zMet (cc := cX9_row) (n := 4) (ret := (some .int)) (by decide) rfl (Nat.le_of_ble_eq_true rfl) ?_
  intro p e s m args below meth c H locs ls F hK hP hS hl
  obtain ⟨hx, hb, hr, hml, hts, hown, hlocks⟩ := F
  have hown : s.vm.findClass RX9 = some m.cls := hown
  have hl : lv_has ls 4 [(0, .ref (G.2.1 359)), (1, .int x1), (2, .int x2)] := hl
  have hi9 : ∀ w ∈ wsX90, w ∈ wsX9_row := fun _ h => List.mem_cons_of_mem _ (List.mem_append_right _ h)
  have L39 : ∀ (n : Nat) (M : zM) (y3 : Int32) (H : Heap) (locs : List Loc) (ls : Array Slot), f_X9_row_l39 x1 n M y3 = some r → va_P G.1 vwCl (zW G I M) H → va_S (zA G) s.heap H locs → lv_has ls 4 [(0, .ref (G.2.1 359)), (1, .int x1), (3, .int y3)] → W p l e (zrm 2 43) s m args below meth c H locs 0 0 (MQ below (zQi G r.1 I r.2) args s 0 0 (zA G)) (F0 m 39 ls []) := by
    intro n
    induction n with
    | zero =>
      intro M y3 H locs ls hf
      rw [f_X9_row_l39] at hf
      cases hf
    | succ n ih =>
      intro M y3 H locs ls hf hP hS hl
      rw [f_X9_row_l39] at hf
      refine lv_iload_n hx hb dX9_row_39 rfl (lv_at hl 2 rfl) ?_
      refine lv_bipush (v := 60) hx hb dX9_row_40 (by decide) ?_
      refine lv_icmp_ge (tgt := 60) hx hb dX9_row_42 (by decide) (fun c7 => ?_) (fun c7 => ?_)
      · have hf := zif_t c7 hf
        refine lv_iconst (v := 1) hx hb dX9_row_60 (by decide) ?_
        obtain rfl := Option.some.inj hf
        exact x_iret hx hb hr hlocks hK hP hS dX9_row_61
      · have hf := zif_f c7 hf
        refine lv_aload_n hx hb dX9_row_45 rfl (lv_at hl 0 rfl) ?_
        refine x_get (j := 12) (v := .ref (G.2.1 369)) hx hb hts hi9 hown hK hP zkL_359 rfl (by decide) (hts (.fieldLink RX9 39 "LeaseOfficeModel" "rows" "[[I") (by decide +kernel)) rfl (by decide) dX9_row_46 ?_
        refine lv_iload_n hx hb dX9_row_49 rfl (lv_at hl 1 rfl) ?_
        obtain ⟨h8, hf⟩ := zck_e hf
        refine x_aald14 hx hb hK hP (zin_e h8) dX9_row_50 ?_
        refine lv_iload_n hx hb dX9_row_51 rfl (lv_at hl 2 rfl) ?_
        refine lv_iconst (v := 0) hx hb dX9_row_52 (by decide) ?_
        obtain ⟨h10, hf⟩ := zck_e hf
        obtain ⟨M9, eM9, hf⟩ := zlet_e hf
        refine x_iastM (j := (11 + x1.toNatClampNeg)) (a := y3.toNatClampNeg) eM9 rfl hx hb hG hK hP hS (zk_r _ (zin_lt h8)).1 (zk_r _ (zin_lt h8)).2 (zin_e h10) dX9_row_53 (fun H locs hP hS => ?_)
        refine lv_iinc (v := (y3 + 1)) (lv' := [(3, .int (y3 + 1)), (0, .ref (G.2.1 359)), (1, .int x1)]) hx hb dX9_row_54 hl (k := 2) rfl rfl (by decide) rfl (fun ls hl => ?_)
        refine lv_goto (tgt := 39) hx hb dX9_row_57 (by decide) ?_
        exact ih M9 (y3 + 1) H locs ls hf hP hS (lv_sub hl [1, 2, 0] rfl)
  unfold f_X9_row at hf
  refine lv_aload_n hx hb dX9_row_0 rfl (lv_at hl 0 rfl) ?_
  refine lv_iload_n hx hb dX9_row_1 rfl (lv_at hl 1 rfl) ?_
  obtain ⟨q1, hq1, hf⟩ := zb_e hf
  refine x_calli (x_runV (As := [.int x1]) (rest := []) ⟨hx, hb, hml, hown, hts⟩ (c_X9_isHolder l G hG I J x1 hq1) (cwV 1 hts gX9_row_X9_isHolder rfl rfl rfl (by decide +kernel) ⟨Nat.le_of_ble_eq_true rfl, Nat.le_of_ble_eq_true rfl⟩) hK hP zkL_359 (by decide) rfl rfl hl.1 rfl (Nat.le_of_ble_eq_true rfl) dX9_row_2 ⟨Nat.zero_le _, Nat.zero_le _⟩) hS (fun H locs hP hS => ?_)
  refine lv_if_eq (tgt := 14) hx hb dX9_row_5 (by decide) (fun c2 => ?_) (fun c2 => ?_)
  · have hf := zif_t c2 hf
    refine lv_iconst (v := (-1)) hx hb dX9_row_14 (by decide) ?_
    obtain rfl := Option.some.inj hf
    exact x_iret hx hb hr hlocks hK hP hS dX9_row_15
  · have hf := zif_f c2 hf
    refine lv_iload_n hx hb dX9_row_8 rfl (lv_at hl 2 rfl) ?_
    refine lv_bipush (v := 60) hx hb dX9_row_9 (by decide) ?_
    refine lv_icmp_le (tgt := 16) hx hb dX9_row_11 (by decide) (fun c3 => ?_) (fun c3 => ?_)
    · have hf := zif_t c3 hf
      refine lv_iload_n hx hb dX9_row_16 rfl (lv_at hl 2 rfl) ?_
      refine lv_if_ge (tgt := 23) hx hb dX9_row_17 (by decide) (fun c4 => ?_) (fun c4 => ?_)
      · have hf := zif_t c4 hf
        refine lv_aload_n hx hb dX9_row_23 rfl (lv_at hl 0 rfl) ?_
        refine x_get (j := 9) (v := .ref (G.2.1 366)) hx hb hts hi9 hown hK hP zkL_359 rfl (by decide) (hts (.fieldLink RX9 28 "LeaseOfficeModel" "held" "[I") (by decide +kernel)) rfl (by decide) dX9_row_24 ?_
        refine lv_iload_n hx hb dX9_row_27 rfl (lv_at hl 1 rfl) ?_
        refine lv_iconst (v := 3) hx hb dX9_row_28 (by decide) ?_
        obtain ⟨h12, hf⟩ := zck_e hf
        obtain ⟨M5, eM5, hf⟩ := zlet_e hf
        refine x_iastM (j := 7) (a := x1.toNatClampNeg) eM5 rfl hx hb hG hK hP hS zkL_366 zlL_366 (zin_e h12) dX9_row_29 (fun H locs hP hS => ?_)
        refine lv_aload_n hx hb dX9_row_30 rfl (lv_at hl 0 rfl) ?_
        refine x_get (j := 11) (v := .ref (G.2.1 368)) hx hb hts hi9 hown hK hP zkL_359 rfl (by decide) (hts (.fieldLink RX9 34 "LeaseOfficeModel" "rowSize" "[I") (by decide +kernel)) rfl (by decide) dX9_row_31 ?_
        refine lv_iload_n hx hb dX9_row_34 rfl (lv_at hl 1 rfl) ?_
        refine lv_iload_n hx hb dX9_row_35 rfl (lv_at hl 2 rfl) ?_
        obtain ⟨h11, hf⟩ := zck_e hf
        obtain ⟨M6, eM6, hf⟩ := zlet_e hf
        refine x_iastM (j := 9) (a := x1.toNatClampNeg) eM6 rfl hx hb hG hK hP hS zkL_368 zlL_368 (zin_e h11) dX9_row_36 (fun H locs hP hS => ?_)
        refine lv_iconst (v := 0) hx hb dX9_row_37 (by decide) ?_
        refine lv_istore_n (lv' := [(3, .int 0), (0, .ref (G.2.1 359)), (1, .int x1), (2, .int x2)]) hx hb dX9_row_38 rfl hl (by decide) rfl (fun ls hl => ?_)
        exact L39 zFu M6 0 H locs ls hf hP hS (lv_sub hl [1, 2, 0] rfl)
      · have hf := zif_f c4 hf
        refine lv_bipush (v := (-14)) hx hb dX9_row_20 (by decide) ?_
        obtain rfl := Option.some.inj hf
        exact x_iret hx hb hr hlocks hK hP hS dX9_row_22
    · have hf := zif_f c3 hf
      refine lv_iconst (v := (-1)) hx hb dX9_row_14 (by decide) ?_
      obtain rfl := Option.some.inj hf
      exact x_iret hx hb hr hlocks hK hP hS dX9_row_15
set_option maxRecDepth 100000 in
set_option maxHeartbeats 4000000 in
theorem c_X9_script (l : Launch) (G : zGT) (hG : zOK G) (I J : zM) {r : Int32 × zM} (hf : f_X9_script J = some r) : Met l yX9_script wsX9_script (zrm 9 209) (va_Pc [.ref (G.2.1 359)] (zS G I J)) (zQi G r.1 I r.2) 0 0 (zA G) := by
  refine zMet (cc := cX9_script) (n := 3) (ret := (some .int)) (by decide) rfl (Nat.le_of_ble_eq_true rfl) ?_
  intro p e s m args below meth c H locs ls F hK hP hS hl
  obtain ⟨hx, hb, hr, hml, hts, hown, hlocks⟩ := F
  have hown : s.vm.findClass RX9 = some m.cls := hown
  have hl : lv_has ls 3 [(0, .ref (G.2.1 359))] := hl
  have hi9 : ∀ w ∈ wsX90, w ∈ wsX9_script := fun _ h => List.mem_cons_of_mem _ (List.mem_append_right _ h)
  have L41 : ∀ (K : zM → Int32 → Int32 → Option (Int32 × zM)) (hKK : ∀ (M2 : zM) (z1 : Int32) (z2 : Int32) (H : Heap) (locs : List Loc) (ls : Array Slot), K M2 z1 z2 = some r → va_P G.1 vwCl (zW G I M2) H → va_S (zA G) s.heap H locs → lv_has ls 3 [(0, .ref (G.2.1 359)), (1, .int z1), (2, .int z2)] → W p l e (zrm 9 209) s m args below meth c H locs 0 0 (MQ below (zQi G r.1 I r.2) args s 0 0 (zA G)) (F0 m 97 ls [])) (n : Nat) (M : zM) (y1 : Int32) (y2 : Int32) (H : Heap) (locs : List Loc) (ls : Array Slot), f_X9_script_l41 K n M y1 y2 = some r → va_P G.1 vwCl (zW G I M) H → va_S (zA G) s.heap H locs → lv_has ls 3 [(0, .ref (G.2.1 359)), (1, .int y1), (2, .int y2)] → W p l e (zrm 9 209) s m args below meth c H locs 0 0 (MQ below (zQi G r.1 I r.2) args s 0 0 (zA G)) (F0 m 41 ls []) := by
    intro K hKK n
    induction n with
    | zero =>
      intro M y1 y2 H locs ls hf
      rw [f_X9_script_l41] at hf
      cases hf
    | succ n ih =>
      intro M y1 y2 H locs ls hf hP hS hl
      rw [f_X9_script_l41] at hf
      refine lv_iload_n hx hb dX9_script_41 rfl (lv_at hl 2 rfl) ?_
      refine lv_if_eq (tgt := 97) hx hb dX9_script_42 (by decide) (fun c5 => ?_) (fun c5 => ?_)
      · have hf := zif_t c5 hf
        exact hKK M y1 y2 H locs ls hf hP hS (lv_sub hl [0, 1, 2] rfl)
      · have hf := zif_f c5 hf
        refine lv_aload_n hx hb dX9_script_45 rfl (lv_at hl 0 rfl) ?_
        refine x_get (j := 13) (v := .int (M 0 13)) hx hb hts hi9 hown hK hP zkL_359 rfl (by decide) (hts (.fieldLink RX9 214 "LeaseOfficeModel" "spot" "I") (by decide +kernel)) rfl (by decide) dX9_script_46 ?_
        refine lv_aload_n hx hb dX9_script_49 rfl (lv_at hl 0 rfl) ?_
        refine x_get (j := 8) (v := .int (M 0 8)) hx hb hts hi9 hown hK hP zkL_359 rfl (by decide) (hts (.fieldLink RX9 208 "LeaseOfficeModel" "tapeMany" "I") (by decide +kernel)) rfl (by decide) dX9_script_50 ?_
        refine lv_icmp_ge (tgt := 97) hx hb dX9_script_53 (by decide) (fun c6 => ?_) (fun c6 => ?_)
        · have hf := zif_t c6 hf
          exact hKK M y1 y2 H locs ls hf hP hS (lv_sub hl [0, 1, 2] rfl)
        · have hf := zif_f c6 hf
          refine lv_aload_n hx hb dX9_script_56 rfl (lv_at hl 0 rfl) ?_
          refine lv_dup hx hb dX9_script_57 rfl ?_
          refine x_get (j := 13) (v := .int (M 0 13)) hx hb hts hi9 hown hK hP zkL_359 rfl (by decide) (hts (.fieldLink RX9 214 "LeaseOfficeModel" "spot" "I") (by decide +kernel)) rfl (by decide) dX9_script_58 ?_
          refine lv_iload_n hx hb dX9_script_61 rfl (lv_at hl 1 rfl) ?_
          refine lv_if_le (tgt := 69) hx hb dX9_script_62 (by decide) (fun c7 => ?_) (fun c7 => ?_)
          · have hf := zif_t c7 hf
            refine lv_iconst (v := 0) hx hb dX9_script_69 (by decide) ?_
            refine lv_iadd hx hb dX9_script_70 ?_
            obtain ⟨M8, eM8, hf⟩ := zlet_e hf
            refine x_put (j := 13) (I2 := I) (J2 := M8) (ty0 := tyX9) (ty := .int) hx hb hts hi9 hown hG hK hP hS zkL_359 rfl tyX9_ok nmX9 (by decide) (hts (.fieldLink RX9 214 "LeaseOfficeModel" "spot" "I") (by decide +kernel)) rfl (by decide +kernel) rfl rfl (Nat.le_of_ble_eq_true rfl) (by rw [eM8]; exact zs_9_13 _) (by rw [eM8]; exact zo_M (k := 0)) (by decide) dX9_script_71 (fun H locs hP hS => ?_)
            refine lv_aload_n hx hb dX9_script_74 rfl (lv_at hl 0 rfl) ?_
            refine lv_aload_n hx hb dX9_script_75 rfl (lv_at hl 0 rfl) ?_
            obtain ⟨q9, hq9, hf⟩ := zb_e hf
            refine x_calli (x_runV (As := []) (rest := [.ref (G.2.1 359)]) ⟨hx, hb, hml, hown, hts⟩ (c_X9_line l G hG I M8 hq9) (cwV 0 hts gX9_script_X9_line rfl rfl rfl (by decide +kernel) ⟨Nat.le_of_ble_eq_true rfl, Nat.le_of_ble_eq_true rfl⟩) hK hP zkL_359 (by decide) rfl rfl hl.1 rfl (Nat.le_of_ble_eq_true rfl) dX9_script_76 ⟨Nat.zero_le _, Nat.zero_le _⟩) hS (fun H locs hP hS => ?_)
            obtain ⟨q10, hq10, hf⟩ := zb_e hf
            refine x_calli (x_runV (As := [.int q9.1]) (rest := []) ⟨hx, hb, hml, hown, hts⟩ (c_X9_does l G hG I q9.2 q9.1 hq10) (cwV 1 hts gX9_script_X9_does rfl rfl rfl (by decide +kernel) ⟨Nat.le_of_ble_eq_true rfl, Nat.le_of_ble_eq_true rfl⟩) hK hP zkL_359 (by decide) rfl rfl hl.1 rfl (Nat.le_of_ble_eq_true rfl) dX9_script_79 ⟨Nat.zero_le _, Nat.zero_le _⟩) hS (fun H locs hP hS => ?_)
            refine lv_if_lt (tgt := 89) hx hb dX9_script_82 (by decide) (fun c11 => ?_) (fun c11 => ?_)
            · have hf := zif_t c11 hf
              refine lv_iconst (v := 0) hx hb dX9_script_89 (by decide) ?_
              refine lv_istore_n (lv' := [(2, .int 0), (0, .ref (G.2.1 359)), (1, .int y1)]) hx hb dX9_script_90 rfl hl (by decide) rfl (fun ls hl => ?_)
              refine lv_iinc (v := (y1 + 1)) (lv' := [(1, .int (y1 + 1)), (2, .int 0), (0, .ref (G.2.1 359))]) hx hb dX9_script_91 hl (k := 2) rfl rfl (by decide) rfl (fun ls hl => ?_)
              refine lv_goto (tgt := 41) hx hb dX9_script_94 (by decide) ?_
              exact ih q10.2 (y1 + 1) 0 H locs ls hf hP hS (lv_sub hl [2, 0, 1] rfl)
            · have hf := zif_f c11 hf
              refine lv_iconst (v := 1) hx hb dX9_script_85 (by decide) ?_
              refine lv_goto (tgt := 90) hx hb dX9_script_86 (by decide) ?_
              refine lv_istore_n (lv' := [(2, .int 1), (0, .ref (G.2.1 359)), (1, .int y1)]) hx hb dX9_script_90 rfl hl (by decide) rfl (fun ls hl => ?_)
              refine lv_iinc (v := (y1 + 1)) (lv' := [(1, .int (y1 + 1)), (2, .int 1), (0, .ref (G.2.1 359))]) hx hb dX9_script_91 hl (k := 2) rfl rfl (by decide) rfl (fun ls hl => ?_)
              refine lv_goto (tgt := 41) hx hb dX9_script_94 (by decide) ?_
              exact ih q10.2 (y1 + 1) 1 H locs ls hf hP hS (lv_sub hl [2, 0, 1] rfl)
          · have hf := zif_f c7 hf
            refine lv_iconst (v := 1) hx hb dX9_script_65 (by decide) ?_
            refine lv_goto (tgt := 70) hx hb dX9_script_66 (by decide) ?_
            refine lv_iadd hx hb dX9_script_70 ?_
            obtain ⟨M12, eM12, hf⟩ := zlet_e hf
            refine x_put (j := 13) (I2 := I) (J2 := M12) (ty0 := tyX9) (ty := .int) hx hb hts hi9 hown hG hK hP hS zkL_359 rfl tyX9_ok nmX9 (by decide) (hts (.fieldLink RX9 214 "LeaseOfficeModel" "spot" "I") (by decide +kernel)) rfl (by decide +kernel) rfl rfl (Nat.le_of_ble_eq_true rfl) (by rw [eM12]; exact zs_9_13 _) (by rw [eM12]; exact zo_M (k := 0)) (by decide) dX9_script_71 (fun H locs hP hS => ?_)
            refine lv_aload_n hx hb dX9_script_74 rfl (lv_at hl 0 rfl) ?_
            refine lv_aload_n hx hb dX9_script_75 rfl (lv_at hl 0 rfl) ?_
            obtain ⟨q13, hq13, hf⟩ := zb_e hf
            refine x_calli (x_runV (As := []) (rest := [.ref (G.2.1 359)]) ⟨hx, hb, hml, hown, hts⟩ (c_X9_line l G hG I M12 hq13) (cwV 0 hts gX9_script_X9_line rfl rfl rfl (by decide +kernel) ⟨Nat.le_of_ble_eq_true rfl, Nat.le_of_ble_eq_true rfl⟩) hK hP zkL_359 (by decide) rfl rfl hl.1 rfl (Nat.le_of_ble_eq_true rfl) dX9_script_76 ⟨Nat.zero_le _, Nat.zero_le _⟩) hS (fun H locs hP hS => ?_)
            obtain ⟨q14, hq14, hf⟩ := zb_e hf
            refine x_calli (x_runV (As := [.int q13.1]) (rest := []) ⟨hx, hb, hml, hown, hts⟩ (c_X9_does l G hG I q13.2 q13.1 hq14) (cwV 1 hts gX9_script_X9_does rfl rfl rfl (by decide +kernel) ⟨Nat.le_of_ble_eq_true rfl, Nat.le_of_ble_eq_true rfl⟩) hK hP zkL_359 (by decide) rfl rfl hl.1 rfl (Nat.le_of_ble_eq_true rfl) dX9_script_79 ⟨Nat.zero_le _, Nat.zero_le _⟩) hS (fun H locs hP hS => ?_)
            refine lv_if_lt (tgt := 89) hx hb dX9_script_82 (by decide) (fun c15 => ?_) (fun c15 => ?_)
            · have hf := zif_t c15 hf
              refine lv_iconst (v := 0) hx hb dX9_script_89 (by decide) ?_
              refine lv_istore_n (lv' := [(2, .int 0), (0, .ref (G.2.1 359)), (1, .int y1)]) hx hb dX9_script_90 rfl hl (by decide) rfl (fun ls hl => ?_)
              refine lv_iinc (v := (y1 + 1)) (lv' := [(1, .int (y1 + 1)), (2, .int 0), (0, .ref (G.2.1 359))]) hx hb dX9_script_91 hl (k := 2) rfl rfl (by decide) rfl (fun ls hl => ?_)
              refine lv_goto (tgt := 41) hx hb dX9_script_94 (by decide) ?_
              exact ih q14.2 (y1 + 1) 0 H locs ls hf hP hS (lv_sub hl [2, 0, 1] rfl)
            · have hf := zif_f c15 hf
              refine lv_iconst (v := 1) hx hb dX9_script_85 (by decide) ?_
              refine lv_goto (tgt := 90) hx hb dX9_script_86 (by decide) ?_
              refine lv_istore_n (lv' := [(2, .int 1), (0, .ref (G.2.1 359)), (1, .int y1)]) hx hb dX9_script_90 rfl hl (by decide) rfl (fun ls hl => ?_)
              refine lv_iinc (v := (y1 + 1)) (lv' := [(1, .int (y1 + 1)), (2, .int 1), (0, .ref (G.2.1 359))]) hx hb dX9_script_91 hl (k := 2) rfl rfl (by decide) rfl (fun ls hl => ?_)
              refine lv_goto (tgt := 41) hx hb dX9_script_94 (by decide) ?_
              exact ih q14.2 (y1 + 1) 1 H locs ls hf hP hS (lv_sub hl [2, 0, 1] rfl)
  have J97 : ∀ (M : zM) (y1 : Int32) (y2 : Int32) (H : Heap) (locs : List Loc) (ls : Array Slot), f_X9_script_j97 M y1 y2 = some r → va_P G.1 vwCl (zW G I M) H → va_S (zA G) s.heap H locs → lv_has ls 3 [(0, .ref (G.2.1 359)), (1, .int y1), (2, .int y2)] → W p l e (zrm 9 209) s m args below meth c H locs 0 0 (MQ below (zQi G r.1 I r.2) args s 0 0 (zA G)) (F0 m 97 ls []) := by
    intro M y1 y2 H locs ls hf hP hS hl
    unfold f_X9_script_j97 at hf
    refine lv_aload_n hx hb dX9_script_97 rfl (lv_at hl 0 rfl) ?_
    refine lv_iconst (v := 0) hx hb dX9_script_98 (by decide) ?_
    obtain ⟨M19, eM19, hf⟩ := zlet_e hf
    refine x_put (j := 8) (I2 := I) (J2 := M19) (ty0 := tyX9) (ty := .int) hx hb hts hi9 hown hG hK hP hS zkL_359 rfl tyX9_ok nmX9 (by decide) (hts (.fieldLink RX9 208 "LeaseOfficeModel" "tapeMany" "I") (by decide +kernel)) rfl (by decide +kernel) rfl rfl (Nat.le_of_ble_eq_true rfl) (by rw [eM19]; exact zs_9_8 _) (by rw [eM19]; exact zo_M (k := 0)) (by decide) dX9_script_99 (fun H locs hP hS => ?_)
    refine lv_iload_n hx hb dX9_script_102 rfl (lv_at hl 2 rfl) ?_
    refine lv_if_ne (tgt := 125) hx hb dX9_script_103 (by decide) (fun c20 => ?_) (fun c20 => ?_)
    · have hf := zif_f c20 hf
      refine lv_iload_n hx hb dX9_script_125 rfl (lv_at hl 1 rfl) ?_
      obtain rfl := Option.some.inj hf
      exact x_iret hx hb hr hlocks hK hP hS dX9_script_126
    · have hf := zif_t c20 hf
      refine lv_aload_n hx hb dX9_script_106 rfl (lv_at hl 0 rfl) ?_
      refine x_get (j := 2) (v := .ref (G.2.1 362)) hx hb hts hi9 hown hK hP zkL_359 rfl (by decide) (hts (.fieldLink RX9 16 "LeaseOfficeModel" "whole" "[I") (by decide +kernel)) rfl (by decide) dX9_script_107 ?_
      refine lv_aload_n hx hb dX9_script_110 rfl (lv_at hl 0 rfl) ?_
      refine x_get (j := 0) (v := .ref (G.2.1 360)) hx hb hts hi9 hown hK hP zkL_359 rfl (by decide) (hts (.fieldLink RX9 9 "LeaseOfficeModel" "g" "[I") (by decide +kernel)) rfl (by decide) dX9_script_111 ?_
      obtain ⟨q21, hq21, hf⟩ := zb_e hf
      refine x_callv (x_runS (As := [.ref (G.2.1 362), .ref (G.2.1 360)]) (rest := []) ⟨hx, hb, hml, hown, hts⟩ (c_X9_take l G hG I M19 3 1 (by decide) (by decide) hq21) (va_cwS 2 hts gX9_script_X9_take rfl rfl rfl (by decide +kernel) ⟨Nat.le_of_ble_eq_true rfl, Nat.le_of_ble_eq_true rfl⟩) hK hP rfl hl.1 rfl (Nat.le_of_ble_eq_true rfl) dX9_script_114 ⟨Nat.zero_le _, Nat.zero_le _⟩) hS (fun H locs hP hS => ?_)
      refine lv_sipush (v := (-2000)) hx hb dX9_script_117 (by decide) ?_
      refine lv_iload_n hx hb dX9_script_120 rfl (lv_at hl 1 rfl) ?_
      refine lv_iconst (v := 1) hx hb dX9_script_121 (by decide) ?_
      refine lv_isub hx hb dX9_script_122 ?_
      refine lv_isub hx hb dX9_script_123 ?_
      obtain rfl := Option.some.inj hf
      exact x_iret hx hb hr hlocks hK hP hS dX9_script_124
  unfold f_X9_script at hf
  refine lv_aload_n hx hb dX9_script_0 rfl (lv_at hl 0 rfl) ?_
  obtain ⟨q1, hq1, hf⟩ := zb_e hf
  refine x_calli (x_runV (As := []) (rest := []) ⟨hx, hb, hml, hown, hts⟩ (c_X9_isForm l G hG I J hq1) (cwV 0 hts gX9_script_X9_isForm rfl rfl rfl (by decide +kernel) ⟨Nat.le_of_ble_eq_true rfl, Nat.le_of_ble_eq_true rfl⟩) hK hP zkL_359 (by decide) rfl rfl hl.1 rfl (Nat.le_of_ble_eq_true rfl) dX9_script_1 ⟨Nat.zero_le _, Nat.zero_le _⟩) hS (fun H locs hP hS => ?_)
  refine lv_if_ne (tgt := 21) hx hb dX9_script_4 (by decide) (fun c2 => ?_) (fun c2 => ?_)
  · have hf := zif_f c2 hf
    refine lv_aload_n hx hb dX9_script_21 rfl (lv_at hl 0 rfl) ?_
    refine x_get (j := 0) (v := .ref (G.2.1 360)) hx hb hts hi9 hown hK hP zkL_359 rfl (by decide) (hts (.fieldLink RX9 9 "LeaseOfficeModel" "g" "[I") (by decide +kernel)) rfl (by decide) dX9_script_22 ?_
    refine lv_aload_n hx hb dX9_script_25 rfl (lv_at hl 0 rfl) ?_
    refine x_get (j := 2) (v := .ref (G.2.1 362)) hx hb hts hi9 hown hK hP zkL_359 rfl (by decide) (hts (.fieldLink RX9 16 "LeaseOfficeModel" "whole" "[I") (by decide +kernel)) rfl (by decide) dX9_script_26 ?_
    obtain ⟨q3, hq3, hf⟩ := zb_e hf
    refine x_callv (x_runS (As := [.ref (G.2.1 360), .ref (G.2.1 362)]) (rest := []) ⟨hx, hb, hml, hown, hts⟩ (c_X9_take l G hG I q1.2 1 3 (by decide) (by decide) hq3) (va_cwS 2 hts gX9_script_X9_take rfl rfl rfl (by decide +kernel) ⟨Nat.le_of_ble_eq_true rfl, Nat.le_of_ble_eq_true rfl⟩) hK hP rfl hl.1 rfl (Nat.le_of_ble_eq_true rfl) dX9_script_29 ⟨Nat.zero_le _, Nat.zero_le _⟩) hS (fun H locs hP hS => ?_)
    refine lv_aload_n hx hb dX9_script_32 rfl (lv_at hl 0 rfl) ?_
    refine lv_iconst (v := 0) hx hb dX9_script_33 (by decide) ?_
    obtain ⟨M4, eM4, hf⟩ := zlet_e hf
    refine x_put (j := 13) (I2 := I) (J2 := M4) (ty0 := tyX9) (ty := .int) hx hb hts hi9 hown hG hK hP hS zkL_359 rfl tyX9_ok nmX9 (by decide) (hts (.fieldLink RX9 214 "LeaseOfficeModel" "spot" "I") (by decide +kernel)) rfl (by decide +kernel) rfl rfl (Nat.le_of_ble_eq_true rfl) (by rw [eM4]; exact zs_9_13 _) (by rw [eM4]; exact zo_M (k := 0)) (by decide) dX9_script_34 (fun H locs hP hS => ?_)
    refine lv_iconst (v := 0) hx hb dX9_script_37 (by decide) ?_
    refine lv_istore_n (lv' := [(1, .int 0), (0, .ref (G.2.1 359))]) hx hb dX9_script_38 rfl hl (by decide) rfl (fun ls hl => ?_)
    refine lv_iconst (v := 1) hx hb dX9_script_39 (by decide) ?_
    refine lv_istore_n (lv' := [(2, .int 1), (1, .int 0), (0, .ref (G.2.1 359))]) hx hb dX9_script_40 rfl hl (by decide) rfl (fun ls hl => ?_)
    refine L41 _ (fun M16 z17 z18 H locs ls hf hP hS hl => ?_) zFu M4 0 1 H locs ls hf hP hS (lv_sub hl [2, 1, 0] rfl)
    exact J97 M16 z17 z18 H locs ls hf hP hS (lv_sub hl [0, 1, 2] rfl)
  · have hf := zif_t c2 hf
    refine lv_aload_n hx hb dX9_script_7 rfl (lv_at hl 0 rfl) ?_
    refine lv_iconst (v := 0) hx hb dX9_script_8 (by decide) ?_
    obtain ⟨M22, eM22, hf⟩ := zlet_e hf
    refine x_put (j := 8) (I2 := I) (J2 := M22) (ty0 := tyX9) (ty := .int) hx hb hts hi9 hown hG hK hP hS zkL_359 rfl tyX9_ok nmX9 (by decide) (hts (.fieldLink RX9 208 "LeaseOfficeModel" "tapeMany" "I") (by decide +kernel)) rfl (by decide +kernel) rfl rfl (Nat.le_of_ble_eq_true rfl) (by rw [eM22]; exact zs_9_8 _) (by rw [eM22]; exact zo_M (k := 0)) (by decide) dX9_script_9 (fun H locs hP hS => ?_)
    refine lv_sipush (v := (-1000)) hx hb dX9_script_12 (by decide) ?_
    refine lv_aload_n hx hb dX9_script_15 rfl (lv_at hl 0 rfl) ?_
    refine x_get (j := 14) (v := .int (M22 0 14)) hx hb hts hi9 hown hK hP zkL_359 rfl (by decide) (hts (.fieldLink RX9 211 "LeaseOfficeModel" "fault" "I") (by decide +kernel)) rfl (by decide) dX9_script_16 ?_
    refine lv_isub hx hb dX9_script_19 ?_
    obtain rfl := Option.some.inj hf
    exact x_iret hx hb hr hlocks hK hP hS dX9_script_20
set_option maxRecDepth 100000 in
set_option maxHeartbeats 4000000 in
theorem c_X9_seen (l : Launch) (G : zGT) (hG : zOK G) (I J : zM) (x1 : Int32) (x2 : Int32) (x3 : Int32) {r : Int32} (hf : f_X9_seen J x1 x2 x3 = some r) : Met l yX9_seen wsX9_seen (zrm 2 43) (va_Pc [.ref (G.2.1 359), .int x1, .int x2, .int x3] (zS G I J)) (zQi G r I J) 0 0 (zA G) := by
  refine zMet (cc := cX9_seen) (n := 4) (ret := (some .int)) (by decide) rfl (Nat.le_of_ble_eq_true rfl) ?_
  intro p e s m args below meth c H locs ls F hK hP hS hl
  obtain ⟨hx, hb, hr, hml, hts, hown, hlocks⟩ := F
  have hown : s.vm.findClass RX9 = some m.cls := hown
  have hl : lv_has ls 4 [(0, .ref (G.2.1 359)), (1, .int x1), (2, .int x2), (3, .int x3)] := hl
  unfold f_X9_seen at hf
  refine lv_aload_n hx hb dX9_seen_0 rfl (lv_at hl 0 rfl) ?_
  refine lv_iload_n hx hb dX9_seen_1 rfl (lv_at hl 1 rfl) ?_
  obtain ⟨q1, hq1, hf⟩ := zb_e hf
  refine x_calli (x_runV (As := [.int x1]) (rest := []) ⟨hx, hb, hml, hown, hts⟩ (c_X9_isTool l G hG I J x1 hq1) (cwV 1 hts gX9_seen_X9_isTool rfl rfl rfl (by decide +kernel) ⟨Nat.le_of_ble_eq_true rfl, Nat.le_of_ble_eq_true rfl⟩) hK hP zkL_359 (by decide) rfl rfl hl.1 rfl (Nat.le_of_ble_eq_true rfl) dX9_seen_2 ⟨Nat.zero_le _, Nat.zero_le _⟩) hS (fun H locs hP hS => ?_)
  refine lv_if_eq (tgt := 21) hx hb dX9_seen_5 (by decide) (fun c2 => ?_) (fun c2 => ?_)
  · have hf := zif_t c2 hf
    refine lv_iconst (v := (-1)) hx hb dX9_seen_21 (by decide) ?_
    obtain rfl := Option.some.inj hf
    exact x_iret hx hb hr hlocks hK hP hS dX9_seen_22
  · have hf := zif_f c2 hf
    refine lv_iload_n hx hb dX9_seen_8 rfl (lv_at hl 2 rfl) ?_
    refine lv_if_lt (tgt := 21) hx hb dX9_seen_9 (by decide) (fun c3 => ?_) (fun c3 => ?_)
    · have hf := zif_t c3 hf
      refine lv_iconst (v := (-1)) hx hb dX9_seen_21 (by decide) ?_
      obtain rfl := Option.some.inj hf
      exact x_iret hx hb hr hlocks hK hP hS dX9_seen_22
    · have hf := zif_f c3 hf
      refine lv_iload_n hx hb dX9_seen_12 rfl (lv_at hl 3 rfl) ?_
      refine lv_iconst (v := 0) hx hb dX9_seen_13 (by decide) ?_
      refine lv_iconst (v := 1) hx hb dX9_seen_14 (by decide) ?_
      obtain ⟨q4, hq4, hf⟩ := zb_e hf
      refine x_calli (x_runS (As := [.int x3, .int 0, .int 1]) (rest := []) ⟨hx, hb, hml, hown, hts⟩ (c_X9_in l G hG I J x3 0 1 hq4) (va_cwS 3 hts gX9_seen_X9_in rfl rfl rfl (by decide +kernel) ⟨Nat.le_of_ble_eq_true rfl, Nat.le_of_ble_eq_true rfl⟩) hK hP rfl hl.1 rfl (Nat.le_of_ble_eq_true rfl) dX9_seen_15 ⟨Nat.zero_le _, Nat.zero_le _⟩) hS (fun H locs hP hS => ?_)
      refine lv_if_ne (tgt := 23) hx hb dX9_seen_18 (by decide) (fun c5 => ?_) (fun c5 => ?_)
      · have hf := zif_f c5 hf
        refine lv_iload_n hx hb dX9_seen_23 rfl (lv_at hl 2 rfl) ?_
        refine lv_aload_n hx hb dX9_seen_24 rfl (lv_at hl 0 rfl) ?_
        refine lv_iload_n hx hb dX9_seen_25 rfl (lv_at hl 1 rfl) ?_
        refine lv_bipush (v := 32) hx hb dX9_seen_26 (by decide) ?_
        obtain ⟨q6, hq6, hf⟩ := zb_e hf
        refine x_calli (x_runV (As := [.int x1, .int 32]) (rest := [.int x2]) ⟨hx, hb, hml, hown, hts⟩ (c_X9_t l G hG I J x1 32 hq6) (cwV 2 hts gX9_seen_X9_t rfl rfl rfl (by decide +kernel) ⟨Nat.le_of_ble_eq_true rfl, Nat.le_of_ble_eq_true rfl⟩) hK hP zkL_359 (by decide) rfl rfl hl.1 rfl (Nat.le_of_ble_eq_true rfl) dX9_seen_28 ⟨Nat.zero_le _, Nat.zero_le _⟩) hS (fun H locs hP hS => ?_)
        refine lv_icmp_ge (tgt := 50) hx hb dX9_seen_31 (by decide) (fun c7 => ?_) (fun c7 => ?_)
        · have hf := zif_t c7 hf
          refine lv_bipush (v := (-2)) hx hb dX9_seen_50 (by decide) ?_
          obtain rfl := Option.some.inj hf
          exact x_iret hx hb hr hlocks hK hP hS dX9_seen_52
        · have hf := zif_f c7 hf
          refine lv_aload_n hx hb dX9_seen_34 rfl (lv_at hl 0 rfl) ?_
          refine lv_iload_n hx hb dX9_seen_35 rfl (lv_at hl 1 rfl) ?_
          refine lv_bipush (v := 33) hx hb dX9_seen_36 (by decide) ?_
          refine lv_iconst (v := 4) hx hb dX9_seen_38 (by decide) ?_
          refine lv_iload_n hx hb dX9_seen_39 rfl (lv_at hl 2 rfl) ?_
          refine lv_imul hx hb dX9_seen_40 ?_
          refine lv_iadd hx hb dX9_seen_41 ?_
          refine lv_iload_n hx hb dX9_seen_42 rfl (lv_at hl 3 rfl) ?_
          refine lv_iadd hx hb dX9_seen_43 ?_
          obtain ⟨q8, hq8, hf⟩ := zb_e hf
          refine x_calli (x_runV (As := [.int x1, .int ((33 + (4 * x2)) + x3)]) (rest := []) ⟨hx, hb, hml, hown, hts⟩ (c_X9_t l G hG I J x1 ((33 + (4 * x2)) + x3) hq8) (cwV 2 hts gX9_seen_X9_t rfl rfl rfl (by decide +kernel) ⟨Nat.le_of_ble_eq_true rfl, Nat.le_of_ble_eq_true rfl⟩) hK hP zkL_359 (by decide) rfl rfl hl.1 rfl (Nat.le_of_ble_eq_true rfl) dX9_seen_44 ⟨Nat.zero_le _, Nat.zero_le _⟩) hS (fun H locs hP hS => ?_)
          refine lv_goto (tgt := 52) hx hb dX9_seen_47 (by decide) ?_
          obtain rfl := Option.some.inj hf
          exact x_iret hx hb hr hlocks hK hP hS dX9_seen_52
      · have hf := zif_t c5 hf
        refine lv_iconst (v := (-1)) hx hb dX9_seen_21 (by decide) ?_
        obtain rfl := Option.some.inj hf
        exact x_iret hx hb hr hlocks hK hP hS dX9_seen_22
set_option maxRecDepth 100000 in
set_option maxHeartbeats 4000000 in
theorem c_X9_share (l : Launch) (G : zGT) (hG : zOK G) (I J : zM) (x1 : Int32) (x2 : Int32) {r : Int32 × zM} (hf : f_X9_share J x1 x2 = some r) : Met l yX9_share wsX9_share (zrm 3 65) (va_Pc [.ref (G.2.1 359), .int x1, .int x2] (zS G I J)) (zQi G r.1 I r.2) 0 0 (zA G) := by
  refine zMet (cc := cX9_share) (n := 4) (ret := (some .int)) (by decide) rfl (Nat.le_of_ble_eq_true rfl) ?_
  intro p e s m args below meth c H locs ls F hK hP hS hl
  obtain ⟨hx, hb, hr, hml, hts, hown, hlocks⟩ := F
  have hown : s.vm.findClass RX9 = some m.cls := hown
  have hl : lv_has ls 4 [(0, .ref (G.2.1 359)), (1, .int x1), (2, .int x2)] := hl
  have hi9 : ∀ w ∈ wsX90, w ∈ wsX9_share := fun _ h => List.mem_cons_of_mem _ (List.mem_append_right _ h)
  have L25 : ∀ (M : zM) (K : Int32 → Option (Int32 × zM)) (hKK : ∀ (z3 : Int32) (H : Heap) (locs : List Loc) (ls : Array Slot), K z3 = some r → va_P G.1 vwCl (zW G I M) H → va_S (zA G) s.heap H locs → lv_has ls 4 [(0, .ref (G.2.1 359)), (1, .int x1), (3, .int z3)] → W p l e (zrm 3 65) s m args below meth c H locs 0 0 (MQ below (zQi G r.1 I r.2) args s 0 0 (zA G)) (F0 m 43 ls [])) (n : Nat) (y3 : Int32) (H : Heap) (locs : List Loc) (ls : Array Slot), f_X9_share_l25 M x1 x2 K n y3 = some r → va_P G.1 vwCl (zW G I M) H → va_S (zA G) s.heap H locs → lv_has ls 4 [(0, .ref (G.2.1 359)), (1, .int x1), (2, .int x2), (3, .int y3)] → W p l e (zrm 3 65) s m args below meth c H locs 0 0 (MQ below (zQi G r.1 I r.2) args s 0 0 (zA G)) (F0 m 25 ls []) := by
    intro M K hKK n
    induction n with
    | zero =>
      intro y3 H locs ls hf
      rw [f_X9_share_l25] at hf
      cases hf
    | succ n ih =>
      intro y3 H locs ls hf hP hS hl
      rw [f_X9_share_l25] at hf
      refine lv_iload_n hx hb dX9_share_25 rfl (lv_at hl 3 rfl) ?_
      refine lv_aload_n hx hb dX9_share_26 rfl (lv_at hl 0 rfl) ?_
      refine x_get (j := 6) (v := .int (M 0 6)) hx hb hts hi9 hown hK hP zkL_359 rfl (by decide) (hts (.fieldLink RX9 139 "LeaseOfficeModel" "blamedMany" "I") (by decide +kernel)) rfl (by decide) dX9_share_27 ?_
      refine lv_icmp_ge (tgt := 60) hx hb dX9_share_30 (by decide) (fun c6 => ?_) (fun c6 => ?_)
      · have hf := zif_t c6 hf
        refine lv_iconst (v := 0) hx hb dX9_share_60 (by decide) ?_
        obtain rfl := Option.some.inj hf
        exact x_iret hx hb hr hlocks hK hP hS dX9_share_61
      · have hf := zif_f c6 hf
        refine lv_aload_n hx hb dX9_share_33 rfl (lv_at hl 0 rfl) ?_
        refine x_get (j := 5) (v := .ref (G.2.1 364)) hx hb hts hi9 hown hK hP zkL_359 rfl (by decide) (hts (.fieldLink RX9 22 "LeaseOfficeModel" "blamed" "[I") (by decide +kernel)) rfl (by decide) dX9_share_34 ?_
        refine lv_iload_n hx hb dX9_share_37 rfl (lv_at hl 3 rfl) ?_
        obtain ⟨h7, hf⟩ := zck_e hf
        refine x_iald hx hb hK hP (zK_lt zkL_364 (by decide)) (zE_15 (j := 5) zkL_364 zlL_364 rfl) (zin_e h7) dX9_share_38 ?_
        refine lv_iload_n hx hb dX9_share_39 rfl (lv_at hl 2 rfl) ?_
        refine lv_icmp_ne (tgt := 54) hx hb dX9_share_40 (by decide) (fun c8 => ?_) (fun c8 => ?_)
        · have hf := zif_f c8 hf
          refine lv_iinc (v := (y3 + 1)) (lv' := [(3, .int (y3 + 1)), (0, .ref (G.2.1 359)), (1, .int x1), (2, .int x2)]) hx hb dX9_share_54 hl (k := 3) rfl rfl (by decide) rfl (fun ls hl => ?_)
          refine lv_goto (tgt := 25) hx hb dX9_share_57 (by decide) ?_
          exact ih (y3 + 1) H locs ls hf hP hS (lv_sub hl [1, 2, 3, 0] rfl)
        · have hf := zif_t c8 hf
          exact hKK y3 H locs ls hf hP hS (lv_sub hl [0, 1, 3] rfl)
  unfold f_X9_share at hf
  refine lv_aload_n hx hb dX9_share_0 rfl (lv_at hl 0 rfl) ?_
  refine lv_iload_n hx hb dX9_share_1 rfl (lv_at hl 1 rfl) ?_
  obtain ⟨q1, hq1, hf⟩ := zb_e hf
  refine x_calli (x_runV (As := [.int x1]) (rest := []) ⟨hx, hb, hml, hown, hts⟩ (c_X9_isTool l G hG I J x1 hq1) (cwV 1 hts gX9_share_X9_isTool rfl rfl rfl (by decide +kernel) ⟨Nat.le_of_ble_eq_true rfl, Nat.le_of_ble_eq_true rfl⟩) hK hP zkL_359 (by decide) rfl rfl hl.1 rfl (Nat.le_of_ble_eq_true rfl) dX9_share_2 ⟨Nat.zero_le _, Nat.zero_le _⟩) hS (fun H locs hP hS => ?_)
  refine lv_if_eq (tgt := 16) hx hb dX9_share_5 (by decide) (fun c2 => ?_) (fun c2 => ?_)
  · have hf := zif_t c2 hf
    refine lv_iconst (v := (-1)) hx hb dX9_share_16 (by decide) ?_
    obtain rfl := Option.some.inj hf
    exact x_iret hx hb hr hlocks hK hP hS dX9_share_17
  · have hf := zif_f c2 hf
    refine lv_aload_n hx hb dX9_share_8 rfl (lv_at hl 0 rfl) ?_
    refine lv_iload_n hx hb dX9_share_9 rfl (lv_at hl 2 rfl) ?_
    obtain ⟨q3, hq3, hf⟩ := zb_e hf
    refine x_calli (x_runV (As := [.int x2]) (rest := []) ⟨hx, hb, hml, hown, hts⟩ (c_X9_isPerson l G hG I J x2 hq3) (cwV 1 hts gX9_share_X9_isPerson rfl rfl rfl (by decide +kernel) ⟨Nat.le_of_ble_eq_true rfl, Nat.le_of_ble_eq_true rfl⟩) hK hP zkL_359 (by decide) rfl rfl hl.1 rfl (Nat.le_of_ble_eq_true rfl) dX9_share_10 ⟨Nat.zero_le _, Nat.zero_le _⟩) hS (fun H locs hP hS => ?_)
    refine lv_if_ne (tgt := 18) hx hb dX9_share_13 (by decide) (fun c4 => ?_) (fun c4 => ?_)
    · have hf := zif_f c4 hf
      refine lv_aload_n hx hb dX9_share_18 rfl (lv_at hl 0 rfl) ?_
      refine lv_iload_n hx hb dX9_share_19 rfl (lv_at hl 1 rfl) ?_
      obtain ⟨q5, hq5, hf⟩ := zb_e hf
      refine x_callv (x_runV (As := [.int x1]) (rest := []) ⟨hx, hb, hml, hown, hts⟩ (c_X9_blames l G hG I J x1 hq5) (cwV 1 hts gX9_share_X9_blames rfl rfl rfl (by decide +kernel) ⟨Nat.le_of_ble_eq_true rfl, Nat.le_of_ble_eq_true rfl⟩) hK hP zkL_359 (by decide) rfl rfl hl.1 rfl (Nat.le_of_ble_eq_true rfl) dX9_share_20 ⟨Nat.zero_le _, Nat.zero_le _⟩) hS (fun H locs hP hS => ?_)
      refine lv_iconst (v := 0) hx hb dX9_share_23 (by decide) ?_
      refine lv_istore_n (lv' := [(3, .int 0), (0, .ref (G.2.1 359)), (1, .int x1), (2, .int x2)]) hx hb dX9_share_24 rfl hl (by decide) rfl (fun ls hl => ?_)
      refine L25 q5 _ (fun z9 H locs ls hf hP hS hl => ?_) zFu 0 H locs ls hf hP hS (lv_sub hl [1, 2, 3, 0] rfl)
      refine lv_aload_n hx hb dX9_share_43 rfl (lv_at hl 0 rfl) ?_
      refine lv_aload_n hx hb dX9_share_44 rfl (lv_at hl 0 rfl) ?_
      refine lv_iload_n hx hb dX9_share_45 rfl (lv_at hl 1 rfl) ?_
      obtain ⟨q10, hq10, hf⟩ := zb_e hf
      refine x_calli (x_runV (As := [.int x1]) (rest := [.ref (G.2.1 359)]) ⟨hx, hb, hml, hown, hts⟩ (c_X9_costOf l G hG I q5 x1 hq10) (cwV 1 hts gX9_share_X9_costOf rfl rfl rfl (by decide +kernel) ⟨Nat.le_of_ble_eq_true rfl, Nat.le_of_ble_eq_true rfl⟩) hK hP zkL_359 (by decide) rfl rfl hl.1 rfl (Nat.le_of_ble_eq_true rfl) dX9_share_46 ⟨Nat.zero_le _, Nat.zero_le _⟩) hS (fun H locs hP hS => ?_)
      refine lv_iload_n hx hb dX9_share_49 rfl (lv_at hl 2 rfl) ?_
      obtain ⟨q11, hq11, hf⟩ := zb_e hf
      refine x_calli (x_runV (As := [.int q10, .int z9]) (rest := []) ⟨hx, hb, hml, hown, hts⟩ (c_X9_shareOf l G hG I q5 q10 z9 hq11) (cwV 2 hts gX9_share_X9_shareOf rfl rfl rfl (by decide +kernel) ⟨Nat.le_of_ble_eq_true rfl, Nat.le_of_ble_eq_true rfl⟩) hK hP zkL_359 (by decide) rfl rfl hl.1 rfl (Nat.le_of_ble_eq_true rfl) dX9_share_50 ⟨Nat.zero_le _, Nat.zero_le _⟩) hS (fun H locs hP hS => ?_)
      obtain rfl := Option.some.inj hf
      exact x_iret hx hb hr hlocks hK hP hS dX9_share_53
    · have hf := zif_t c4 hf
      refine lv_iconst (v := (-1)) hx hb dX9_share_16 (by decide) ?_
      obtain rfl := Option.some.inj hf
      exact x_iret hx hb hr hlocks hK hP hS dX9_share_17
