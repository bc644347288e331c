set_option maxRecDepth 100000 in
set_option maxHeartbeats 4000000 in
theorem c_X5_readLine (l : Launch) (G : zGT) (hG : zOK G) (I J : zM) {r : Int32 × zM} (hf : f_X5_readLine I = some r) : Met l yX5_readLine wsX5_readLine (zrm 3 70) (va_Pc [.ref (G.2.1 334)] (zS G I J)) (zQi G r.1 r.2 J) 0 0 (zA G) := by
  refine zMet (cc := cX5_readLine) (n := 6) (ret := (some .boolean)) (by decide) rfl (Nat.le_of_ble_eq_true rfl) ?_
  intro p e s m args below meth c H locs ls F hK hP hS hl
  obtain ⟨hx, hb, hr, hml, hts, hown, hlocks⟩ := F
  have hown : s.vm.findClass RX5 = some m.cls := hown
  have hl : lv_has ls 6 [(0, .ref (G.2.1 334))] := hl
  have hi5 : ∀ w ∈ wsX50, w ∈ wsX5_readLine := fun _ h => List.mem_cons_of_mem _ (List.mem_append_left _ (List.mem_append_right _ h))
  have L47 : ∀ (y1 : Int32) (y2 : Int32) (y3 : Int32) (n : Nat) (M : zM) (y4 : Int32) (H : Heap) (locs : List Loc) (ls : Array Slot), f_X5_readLine_l47 y1 y2 y3 n M y4 = some r → va_P G.1 vwCl (zW G M J) H → va_S (zA G) s.heap H locs → lv_has ls 6 [(0, .ref (G.2.1 334)), (1, .int y1), (2, .int y2), (3, .int y3), (4, .int y4)] → W p l e (zrm 3 70) s m args below meth c H locs 0 0 (MQ below (zQi G r.1 r.2 J) args s 0 0 (zA G)) (F0 m 47 ls []) := by
    intro y1 y2 y3 n
    induction n with
    | zero =>
      intro M y4 H locs ls hf
      rw [f_X5_readLine_l47] at hf
      cases hf
    | succ n ih =>
      intro M y4 H locs ls hf hP hS hl
      rw [f_X5_readLine_l47] at hf
      refine lv_iload hx hb dX5_readLine_47 (lv_at hl 4 rfl) ?_
      refine lv_iload_n hx hb dX5_readLine_49 rfl (lv_at hl 2 rfl) ?_
      refine lv_icmp_ge (tgt := 102) hx hb dX5_readLine_50 (by decide) (fun c7 => ?_) (fun c7 => ?_)
      · have hf := zif_t c7 hf
        refine lv_iconst (v := 1) hx hb dX5_readLine_102 (by decide) ?_
        obtain rfl := Option.some.inj hf
        exact x_zret (v := 1) rfl hx hb hr hlocks hK hP hS dX5_readLine_103
      · have hf := zif_f c7 hf
        refine lv_iload_n hx hb dX5_readLine_53 rfl (lv_at hl 1 rfl) ?_
        refine lv_bipush (v := 112) hx hb dX5_readLine_54 (by decide) ?_
        refine lv_icmp_ne (tgt := 68) hx hb dX5_readLine_56 (by decide) (fun c8 => ?_) (fun c8 => ?_)
        · have hf := zif_f c8 hf
          refine lv_iconst (v := 0) hx hb dX5_readLine_68 (by decide) ?_
          refine lv_istore (lv' := [(5, .int 0), (0, .ref (G.2.1 334)), (1, .int y1), (2, .int y2), (3, .int y3), (4, .int y4)]) hx hb dX5_readLine_69 hl (by decide) rfl (fun ls hl => ?_)
          refine lv_aload_n hx hb dX5_readLine_71 rfl (lv_at hl 1 rfl) ?_
          refine lv_bipush (v := 32) hx hb dX5_readLine_72 (by decide) ?_
          obtain ⟨q9, hq9, hf⟩ := zb_e hf
          refine x_calli (x_runV (As := [.int 32]) (rest := []) ⟨hx, hb, hml, hown, hts⟩ (c_X5_readByte l G hG M J 32 hq9) (cwV 1 hts gX5_readLine_X5_readByte rfl rfl rfl (by decide +kernel) ⟨Nat.le_of_ble_eq_true rfl, Nat.le_of_ble_eq_true rfl⟩) hK hP zkL_334 (by decide) rfl rfl hl.1 rfl (Nat.le_of_ble_eq_true rfl) dX5_readLine_74 ⟨Nat.zero_le _, Nat.zero_le _⟩) hS (fun H locs hP hS => ?_)
          refine lv_if_eq (tgt := 94) hx hb dX5_readLine_77 (by decide) (fun c10 => ?_) (fun c10 => ?_)
          · have hf := zif_t c10 hf
            refine lv_iconst (v := 0) hx hb dX5_readLine_94 (by decide) ?_
            obtain rfl := Option.some.inj hf
            exact x_zret (v := 0) rfl hx hb hr hlocks hK hP hS dX5_readLine_95
          · have hf := zif_f c10 hf
            refine lv_aload_n hx hb dX5_readLine_80 rfl (lv_at hl 1 rfl) ?_
            refine lv_iload_n hx hb dX5_readLine_81 rfl (lv_at hl 4 rfl) ?_
            refine lv_iconst (v := 1) hx hb dX5_readLine_82 (by decide) ?_
            refine lv_iload hx hb dX5_readLine_83 (lv_at hl 5 rfl) ?_
            refine lv_iadd hx hb dX5_readLine_85 ?_
            refine lv_iload hx hb dX5_readLine_86 (lv_at hl 0 rfl) ?_
            obtain ⟨q11, hq11, hf⟩ := zb_e hf
            refine x_calli (x_runV (As := [.int y3, .int (1 + y4), .int 0]) (rest := []) ⟨hx, hb, hml, hown, hts⟩ (c_X5_readPart l G hG q9.2 J y3 (1 + y4) 0 hq11) (cwV 3 hts gX5_readLine_X5_readPart rfl rfl rfl (by decide +kernel) ⟨Nat.le_of_ble_eq_true rfl, Nat.le_of_ble_eq_true rfl⟩) hK hP zkL_334 (by decide) rfl rfl hl.1 rfl (Nat.le_of_ble_eq_true rfl) dX5_readLine_88 ⟨Nat.zero_le _, Nat.zero_le _⟩) hS (fun H locs hP hS => ?_)
            refine lv_if_ne (tgt := 96) hx hb dX5_readLine_91 (by decide) (fun c12 => ?_) (fun c12 => ?_)
            · have hf := zif_f c12 hf
              refine lv_iinc (v := (y4 + 1)) (lv' := [(4, .int (y4 + 1)), (5, .int 0), (0, .ref (G.2.1 334)), (1, .int y1), (2, .int y2), (3, .int y3)]) hx hb dX5_readLine_96 hl (k := 5) rfl rfl (by decide) rfl (fun ls hl => ?_)
              refine lv_goto (tgt := 47) hx hb dX5_readLine_99 (by decide) ?_
              exact ih q11.2 (y4 + 1) H locs ls hf hP hS (lv_sub hl [2, 3, 4, 5, 0] rfl)
            · have hf := zif_t c12 hf
              refine lv_iconst (v := 0) hx hb dX5_readLine_94 (by decide) ?_
              obtain rfl := Option.some.inj hf
              exact x_zret (v := 0) rfl hx hb hr hlocks hK hP hS dX5_readLine_95
        · have hf := zif_t c8 hf
          refine lv_iload hx hb dX5_readLine_59 (lv_at hl 4 rfl) ?_
          refine lv_if_ne (tgt := 68) hx hb dX5_readLine_61 (by decide) (fun c13 => ?_) (fun c13 => ?_)
          · have hf := zif_f c13 hf
            refine lv_iconst (v := 0) hx hb dX5_readLine_68 (by decide) ?_
            refine lv_istore (lv' := [(5, .int 0), (0, .ref (G.2.1 334)), (1, .int y1), (2, .int y2), (3, .int y3), (4, .int y4)]) hx hb dX5_readLine_69 hl (by decide) rfl (fun ls hl => ?_)
            refine lv_aload_n hx hb dX5_readLine_71 rfl (lv_at hl 1 rfl) ?_
            refine lv_bipush (v := 32) hx hb dX5_readLine_72 (by decide) ?_
            obtain ⟨q14, hq14, hf⟩ := zb_e hf
            refine x_calli (x_runV (As := [.int 32]) (rest := []) ⟨hx, hb, hml, hown, hts⟩ (c_X5_readByte l G hG M J 32 hq14) (cwV 1 hts gX5_readLine_X5_readByte rfl rfl rfl (by decide +kernel) ⟨Nat.le_of_ble_eq_true rfl, Nat.le_of_ble_eq_true rfl⟩) hK hP zkL_334 (by decide) rfl rfl hl.1 rfl (Nat.le_of_ble_eq_true rfl) dX5_readLine_74 ⟨Nat.zero_le _, Nat.zero_le _⟩) hS (fun H locs hP hS => ?_)
            refine lv_if_eq (tgt := 94) hx hb dX5_readLine_77 (by decide) (fun c15 => ?_) (fun c15 => ?_)
            · have hf := zif_t c15 hf
              refine lv_iconst (v := 0) hx hb dX5_readLine_94 (by decide) ?_
              obtain rfl := Option.some.inj hf
              exact x_zret (v := 0) rfl hx hb hr hlocks hK hP hS dX5_readLine_95
            · have hf := zif_f c15 hf
              refine lv_aload_n hx hb dX5_readLine_80 rfl (lv_at hl 1 rfl) ?_
              refine lv_iload_n hx hb dX5_readLine_81 rfl (lv_at hl 4 rfl) ?_
              refine lv_iconst (v := 1) hx hb dX5_readLine_82 (by decide) ?_
              refine lv_iload hx hb dX5_readLine_83 (lv_at hl 5 rfl) ?_
              refine lv_iadd hx hb dX5_readLine_85 ?_
              refine lv_iload hx hb dX5_readLine_86 (lv_at hl 0 rfl) ?_
              obtain ⟨q16, hq16, hf⟩ := zb_e hf
              refine x_calli (x_runV (As := [.int y3, .int (1 + y4), .int 0]) (rest := []) ⟨hx, hb, hml, hown, hts⟩ (c_X5_readPart l G hG q14.2 J y3 (1 + y4) 0 hq16) (cwV 3 hts gX5_readLine_X5_readPart rfl rfl rfl (by decide +kernel) ⟨Nat.le_of_ble_eq_true rfl, Nat.le_of_ble_eq_true rfl⟩) hK hP zkL_334 (by decide) rfl rfl hl.1 rfl (Nat.le_of_ble_eq_true rfl) dX5_readLine_88 ⟨Nat.zero_le _, Nat.zero_le _⟩) hS (fun H locs hP hS => ?_)
              refine lv_if_ne (tgt := 96) hx hb dX5_readLine_91 (by decide) (fun c17 => ?_) (fun c17 => ?_)
              · have hf := zif_f c17 hf
                refine lv_iinc (v := (y4 + 1)) (lv' := [(4, .int (y4 + 1)), (5, .int 0), (0, .ref (G.2.1 334)), (1, .int y1), (2, .int y2), (3, .int y3)]) hx hb dX5_readLine_96 hl (k := 5) rfl rfl (by decide) rfl (fun ls hl => ?_)
                refine lv_goto (tgt := 47) hx hb dX5_readLine_99 (by decide) ?_
                exact ih q16.2 (y4 + 1) H locs ls hf hP hS (lv_sub hl [2, 3, 4, 5, 0] rfl)
              · have hf := zif_t c17 hf
                refine lv_iconst (v := 0) hx hb dX5_readLine_94 (by decide) ?_
                obtain rfl := Option.some.inj hf
                exact x_zret (v := 0) rfl hx hb hr hlocks hK hP hS dX5_readLine_95
          · have hf := zif_t c13 hf
            refine lv_iconst (v := 1) hx hb dX5_readLine_64 (by decide) ?_
            refine lv_goto (tgt := 69) hx hb dX5_readLine_65 (by decide) ?_
            refine lv_istore (lv' := [(5, .int 1), (0, .ref (G.2.1 334)), (1, .int y1), (2, .int y2), (3, .int y3), (4, .int y4)]) hx hb dX5_readLine_69 hl (by decide) rfl (fun ls hl => ?_)
            refine lv_aload_n hx hb dX5_readLine_71 rfl (lv_at hl 1 rfl) ?_
            refine lv_bipush (v := 32) hx hb dX5_readLine_72 (by decide) ?_
            obtain ⟨q18, hq18, hf⟩ := zb_e hf
            refine x_calli (x_runV (As := [.int 32]) (rest := []) ⟨hx, hb, hml, hown, hts⟩ (c_X5_readByte l G hG M J 32 hq18) (cwV 1 hts gX5_readLine_X5_readByte rfl rfl rfl (by decide +kernel) ⟨Nat.le_of_ble_eq_true rfl, Nat.le_of_ble_eq_true rfl⟩) hK hP zkL_334 (by decide) rfl rfl hl.1 rfl (Nat.le_of_ble_eq_true rfl) dX5_readLine_74 ⟨Nat.zero_le _, Nat.zero_le _⟩) hS (fun H locs hP hS => ?_)
            refine lv_if_eq (tgt := 94) hx hb dX5_readLine_77 (by decide) (fun c19 => ?_) (fun c19 => ?_)
            · have hf := zif_t c19 hf
              refine lv_iconst (v := 0) hx hb dX5_readLine_94 (by decide) ?_
              obtain rfl := Option.some.inj hf
              exact x_zret (v := 0) rfl hx hb hr hlocks hK hP hS dX5_readLine_95
            · have hf := zif_f c19 hf
              refine lv_aload_n hx hb dX5_readLine_80 rfl (lv_at hl 1 rfl) ?_
              refine lv_iload_n hx hb dX5_readLine_81 rfl (lv_at hl 4 rfl) ?_
              refine lv_iconst (v := 1) hx hb dX5_readLine_82 (by decide) ?_
              refine lv_iload hx hb dX5_readLine_83 (lv_at hl 5 rfl) ?_
              refine lv_iadd hx hb dX5_readLine_85 ?_
              refine lv_iload hx hb dX5_readLine_86 (lv_at hl 0 rfl) ?_
              obtain ⟨q20, hq20, hf⟩ := zb_e hf
              refine x_calli (x_runV (As := [.int y3, .int (1 + y4), .int 1]) (rest := []) ⟨hx, hb, hml, hown, hts⟩ (c_X5_readPart l G hG q18.2 J y3 (1 + y4) 1 hq20) (cwV 3 hts gX5_readLine_X5_readPart rfl rfl rfl (by decide +kernel) ⟨Nat.le_of_ble_eq_true rfl, Nat.le_of_ble_eq_true rfl⟩) hK hP zkL_334 (by decide) rfl rfl hl.1 rfl (Nat.le_of_ble_eq_true rfl) dX5_readLine_88 ⟨Nat.zero_le _, Nat.zero_le _⟩) hS (fun H locs hP hS => ?_)
              refine lv_if_ne (tgt := 96) hx hb dX5_readLine_91 (by decide) (fun c21 => ?_) (fun c21 => ?_)
              · have hf := zif_f c21 hf
                refine lv_iinc (v := (y4 + 1)) (lv' := [(4, .int (y4 + 1)), (5, .int 1), (0, .ref (G.2.1 334)), (1, .int y1), (2, .int y2), (3, .int y3)]) hx hb dX5_readLine_96 hl (k := 5) rfl rfl (by decide) rfl (fun ls hl => ?_)
                refine lv_goto (tgt := 47) hx hb dX5_readLine_99 (by decide) ?_
                exact ih q20.2 (y4 + 1) H locs ls hf hP hS (lv_sub hl [2, 3, 4, 5, 0] rfl)
              · have hf := zif_t c21 hf
                refine lv_iconst (v := 0) hx hb dX5_readLine_94 (by decide) ?_
                obtain rfl := Option.some.inj hf
                exact x_zret (v := 0) rfl hx hb hr hlocks hK hP hS dX5_readLine_95
  unfold f_X5_readLine at hf
  refine lv_aload_n hx hb dX5_readLine_0 rfl (lv_at hl 0 rfl) ?_
  obtain ⟨q1, hq1, hf⟩ := zb_e hf
  refine x_calli (x_runV (As := []) (rest := []) ⟨hx, hb, hml, hown, hts⟩ (c_X5_nextByte l G hG I J hq1) (cwV 0 hts gX5_readLine_X5_nextByte rfl rfl rfl (by decide +kernel) ⟨Nat.le_of_ble_eq_true rfl, Nat.le_of_ble_eq_true rfl⟩) hK hP zkL_334 (by decide) rfl rfl hl.1 rfl (Nat.le_of_ble_eq_true rfl) dX5_readLine_1 ⟨Nat.zero_le _, Nat.zero_le _⟩) hS (fun H locs hP hS => ?_)
  refine lv_istore_n (lv' := [(1, .int q1), (0, .ref (G.2.1 334))]) hx hb dX5_readLine_4 rfl hl (by decide) rfl (fun ls hl => ?_)
  refine lv_iload_n hx hb dX5_readLine_5 rfl (lv_at hl 0 rfl) ?_
  obtain ⟨q2, hq2, hf⟩ := zb_e hf
  refine x_calli (x_runS (As := [.int q1]) (rest := []) ⟨hx, hb, hml, hown, hts⟩ (c_X5_partsOf l G hG I J q1 hq2) (va_cwS 1 hts gX5_readLine_X5_partsOf rfl rfl rfl (by decide +kernel) ⟨Nat.le_of_ble_eq_true rfl, Nat.le_of_ble_eq_true rfl⟩) hK hP rfl hl.1 rfl (Nat.le_of_ble_eq_true rfl) dX5_readLine_6 ⟨Nat.zero_le _, Nat.zero_le _⟩) hS (fun H locs hP hS => ?_)
  refine lv_istore_n (lv' := [(2, .int q2), (1, .int q1), (0, .ref (G.2.1 334))]) hx hb dX5_readLine_9 rfl hl (by decide) rfl (fun ls hl => ?_)
  refine lv_iload_n hx hb dX5_readLine_10 rfl (lv_at hl 0 rfl) ?_
  refine lv_if_ne (tgt := 16) hx hb dX5_readLine_11 (by decide) (fun c3 => ?_) (fun c3 => ?_)
  · have hf := zif_f c3 hf
    refine lv_aload_n hx hb dX5_readLine_16 rfl (lv_at hl 2 rfl) ?_
    refine lv_dup hx hb dX5_readLine_17 rfl ?_
    refine x_get (j := 2) (v := .int (I 334 2)) hx hb hts hi5 hown hK hP zkL_334 rfl (by decide) (hts (.fieldLink RX5 26 "LeaseOffice$TextReader" "place" "I") (by decide +kernel)) rfl (by decide) dX5_readLine_18 ?_
    refine lv_iconst (v := 1) hx hb dX5_readLine_21 (by decide) ?_
    refine lv_iadd hx hb dX5_readLine_22 ?_
    obtain ⟨M4, eM4, hf⟩ := zlet_e hf
    refine x_put (j := 2) (I2 := M4) (J2 := J) (ty0 := tyX5) (ty := .int) hx hb hts hi5 hown hG hK hP hS zkL_334 rfl tyX5_ok nmX5 (by decide) (hts (.fieldLink RX5 26 "LeaseOffice$TextReader" "place" "I") (by decide +kernel)) rfl (by decide +kernel) rfl rfl (Nat.le_of_ble_eq_true rfl) (by rw [eM4]; exact zs_5_2 _) (by rw [eM4]; exact zo_C) (by decide) dX5_readLine_23 (fun H locs hP hS => ?_)
    refine lv_aload_n hx hb dX5_readLine_26 rfl (lv_at hl 2 rfl) ?_
    refine x_get (j := 1) (v := .ref (G.2.1 335)) hx hb hts hi5 hown hK hP zkL_334 rfl (by decide) (hts (.fieldLink RX5 20 "LeaseOffice$TextReader" "lines" "LLeaseOffice$Table;") (by decide +kernel)) rfl (by decide) dX5_readLine_27 ?_
    obtain ⟨q5, hq5, hf⟩ := zb_e hf
    refine x_calli (x_runV (As := []) (rest := []) ⟨hx, hb, hml, hown, hts⟩ (c_X4_append l G hG M4 J 335 zkL_335 hq5) (cwV 0 hts gX5_readLine_X4_append rfl rfl rfl (by decide +kernel) ⟨Nat.le_of_ble_eq_true rfl, Nat.le_of_ble_eq_true rfl⟩) hK hP zkL_335 (by decide) rfl rfl hl.1 rfl (Nat.le_of_ble_eq_true rfl) dX5_readLine_30 ⟨Nat.zero_le _, Nat.zero_le _⟩) hS (fun H locs hP hS => ?_)
    refine lv_istore_n (lv' := [(3, .int q5.1), (2, .int q2), (1, .int q1), (0, .ref (G.2.1 334))]) hx hb dX5_readLine_33 rfl hl (by decide) rfl (fun ls hl => ?_)
    refine lv_aload_n hx hb dX5_readLine_34 rfl (lv_at hl 3 rfl) ?_
    refine x_get (j := 1) (v := .ref (G.2.1 335)) hx hb hts hi5 hown hK hP zkL_334 rfl (by decide) (hts (.fieldLink RX5 20 "LeaseOffice$TextReader" "lines" "LLeaseOffice$Table;") (by decide +kernel)) rfl (by decide) dX5_readLine_35 ?_
    refine lv_iload_n hx hb dX5_readLine_38 rfl (lv_at hl 0 rfl) ?_
    refine lv_iconst (v := 0) hx hb dX5_readLine_39 (by decide) ?_
    refine lv_iload_n hx hb dX5_readLine_40 rfl (lv_at hl 2 rfl) ?_
    obtain ⟨q6, hq6, hf⟩ := zb_e hf
    refine x_callv (x_runV (As := [.int q5.1, .int 0, .int q1]) (rest := []) ⟨hx, hb, hml, hown, hts⟩ (c_X4_setCell l G hG q5.2 J 335 q5.1 0 q1 zkL_335 hq6) (cwV 3 hts gX5_readLine_X4_setCell rfl rfl rfl (by decide +kernel) ⟨Nat.le_of_ble_eq_true rfl, Nat.le_of_ble_eq_true rfl⟩) hK hP zkL_335 (by decide) rfl rfl hl.1 rfl (Nat.le_of_ble_eq_true rfl) dX5_readLine_41 ⟨Nat.zero_le _, Nat.zero_le _⟩) hS (fun H locs hP hS => ?_)
    refine lv_iconst (v := 0) hx hb dX5_readLine_44 (by decide) ?_
    refine lv_istore (lv' := [(4, .int 0), (3, .int q5.1), (2, .int q2), (1, .int q1), (0, .ref (G.2.1 334))]) hx hb dX5_readLine_45 hl (by decide) rfl (fun ls hl => ?_)
    exact L47 q1 q2 q5.1 zFu q6 0 H locs ls hf hP hS (lv_sub hl [4, 3, 2, 1, 0] rfl)
  · have hf := zif_t c3 hf
    refine lv_iconst (v := 0) hx hb dX5_readLine_14 (by decide) ?_
    obtain rfl := Option.some.inj hf
    exact x_zret (v := 0) rfl hx hb hr hlocks hK hP hS dX5_readLine_15
set_option maxRecDepth 100000 in
set_option maxHeartbeats 4000000 in
theorem c_X5_readText (l : Launch) (G : zGT) (hG : zOK G) (I J : zM) {r : Int32 × zM} (hf : f_X5_readText I = some r) : Met l yX5_readText wsX5_readText (zrm 4 95) (va_Pc [.ref (G.2.1 334)] (zS G I J)) (zQi G r.1 r.2 J) 0 0 (zA G) := by
  refine zMet (cc := cX5_readText) (n := 3) (ret := (some .boolean)) (by decide) rfl (Nat.le_of_ble_eq_true rfl) ?_
  intro p e s m args below meth c H locs ls F hK hP hS hl
  obtain ⟨hx, hb, hr, hml, hts, hown, hlocks⟩ := F
  have hown : s.vm.findClass RX5 = some m.cls := hown
  have hl : lv_has ls 3 [(0, .ref (G.2.1 334))] := hl
  have hi5 : ∀ w ∈ wsX50, w ∈ wsX5_readText := fun _ h => List.mem_cons_of_mem _ (List.mem_append_left _ (List.mem_append_right _ h))
  have L19 : ∀ (n : Nat) (M : zM) (y1 : Int32) (y2 : Int32) (H : Heap) (locs : List Loc) (ls : Array Slot), f_X5_readText_l19 n M y1 y2 = some r → va_P G.1 vwCl (zW G M J) H → va_S (zA G) s.heap H locs → lv_has ls 3 [(0, .ref (G.2.1 334)), (1, .int y1), (2, .int y2)] → W p l e (zrm 4 95) s m args below meth c H locs 0 0 (MQ below (zQi G r.1 r.2 J) args s 0 0 (zA G)) (F0 m 19 ls []) := by
    intro n
    induction n with
    | zero =>
      intro M y1 y2 H locs ls hf
      rw [f_X5_readText_l19] at hf
      cases hf
    | succ n ih =>
      intro M y1 y2 H locs ls hf hP hS hl
      rw [f_X5_readText_l19] at hf
      refine lv_iload_n hx hb dX5_readText_19 rfl (lv_at hl 2 rfl) ?_
      refine lv_bipush (v := 120) hx hb dX5_readText_20 (by decide) ?_
      refine lv_icmp_ge (tgt := 71) hx hb dX5_readText_22 (by decide) (fun c4 => ?_) (fun c4 => ?_)
      · have hf := zif_t c4 hf
        refine lv_iload_n hx hb dX5_readText_71 rfl (lv_at hl 1 rfl) ?_
        obtain ⟨h5, hf⟩ := zck_e hf
        obtain rfl := Option.some.inj hf
        exact x_zret (v := y1) (zbo_e h5) hx hb hr hlocks hK hP hS dX5_readText_72
      · have hf := zif_f c4 hf
        refine lv_iload_n hx hb dX5_readText_25 rfl (lv_at hl 1 rfl) ?_
        refine lv_if_eq (tgt := 71) hx hb dX5_readText_26 (by decide) (fun c6 => ?_) (fun c6 => ?_)
        · have hf := zif_t c6 hf
          refine lv_iload_n hx hb dX5_readText_71 rfl (lv_at hl 1 rfl) ?_
          obtain ⟨h7, hf⟩ := zck_e hf
          obtain rfl := Option.some.inj hf
          exact x_zret (v := y1) (zbo_e h7) hx hb hr hlocks hK hP hS dX5_readText_72
        · have hf := zif_f c6 hf
          refine lv_aload_n hx hb dX5_readText_29 rfl (lv_at hl 0 rfl) ?_
          refine x_get (j := 2) (v := .int (M 334 2)) hx hb hts hi5 hown hK hP zkL_334 rfl (by decide) (hts (.fieldLink RX5 26 "LeaseOffice$TextReader" "place" "I") (by decide +kernel)) rfl (by decide) dX5_readText_30 ?_
          refine lv_aload_n hx hb dX5_readText_33 rfl (lv_at hl 0 rfl) ?_
          refine x_get (j := 0) (v := .ref (G.2.1 332)) hx hb hts hi5 hown hK hP zkL_334 rfl (by decide) (hts (.fieldLink RX5 14 "LeaseOffice$TextReader" "tape" "LLeaseOffice$Table;") (by decide +kernel)) rfl (by decide) dX5_readText_34 ?_
          obtain ⟨q8, hq8, hf⟩ := zb_e hf
          refine x_calli (x_runV (As := []) (rest := [.int (M 334 2)]) ⟨hx, hb, hml, hown, hts⟩ (c_X4_size l G hG M J 332 zkL_332 hq8) (cwV 0 hts gX5_readText_X4_size rfl rfl rfl (by decide +kernel) ⟨Nat.le_of_ble_eq_true rfl, Nat.le_of_ble_eq_true rfl⟩) hK hP zkL_332 (by decide) rfl rfl hl.1 rfl (Nat.le_of_ble_eq_true rfl) dX5_readText_37 ⟨Nat.zero_le _, Nat.zero_le _⟩) hS (fun H locs hP hS => ?_)
          refine lv_icmp_ge (tgt := 71) hx hb dX5_readText_40 (by decide) (fun c9 => ?_) (fun c9 => ?_)
          · have hf := zif_t c9 hf
            refine lv_iload_n hx hb dX5_readText_71 rfl (lv_at hl 1 rfl) ?_
            obtain ⟨h10, hf⟩ := zck_e hf
            obtain rfl := Option.some.inj hf
            exact x_zret (v := y1) (zbo_e h10) hx hb hr hlocks hK hP hS dX5_readText_72
          · have hf := zif_f c9 hf
            refine lv_aload_n hx hb dX5_readText_43 rfl (lv_at hl 0 rfl) ?_
            refine lv_bipush (v := 59) hx hb dX5_readText_44 (by decide) ?_
            obtain ⟨q11, hq11, hf⟩ := zb_e hf
            refine x_calli (x_runV (As := [.int 59]) (rest := []) ⟨hx, hb, hml, hown, hts⟩ (c_X5_readByte l G hG M J 59 hq11) (cwV 1 hts gX5_readText_X5_readByte rfl rfl rfl (by decide +kernel) ⟨Nat.le_of_ble_eq_true rfl, Nat.le_of_ble_eq_true rfl⟩) hK hP zkL_334 (by decide) rfl rfl hl.1 rfl (Nat.le_of_ble_eq_true rfl) dX5_readText_46 ⟨Nat.zero_le _, Nat.zero_le _⟩) hS (fun H locs hP hS => ?_)
            refine lv_if_eq (tgt := 63) hx hb dX5_readText_49 (by decide) (fun c12 => ?_) (fun c12 => ?_)
            · have hf := zif_t c12 hf
              refine lv_iconst (v := 0) hx hb dX5_readText_63 (by decide) ?_
              refine lv_istore_n (lv' := [(1, .int 0), (0, .ref (G.2.1 334)), (2, .int y2)]) hx hb dX5_readText_64 rfl hl (by decide) rfl (fun ls hl => ?_)
              refine lv_iinc (v := (y2 + 1)) (lv' := [(2, .int (y2 + 1)), (1, .int 0), (0, .ref (G.2.1 334))]) hx hb dX5_readText_65 hl (k := 2) rfl rfl (by decide) rfl (fun ls hl => ?_)
              refine lv_goto (tgt := 19) hx hb dX5_readText_68 (by decide) ?_
              exact ih q11.2 0 (y2 + 1) H locs ls hf hP hS (lv_sub hl [2, 1, 0] rfl)
            · have hf := zif_f c12 hf
              refine lv_aload_n hx hb dX5_readText_52 rfl (lv_at hl 0 rfl) ?_
              obtain ⟨q13, hq13, hf⟩ := zb_e hf
              refine x_calli (x_runV (As := []) (rest := []) ⟨hx, hb, hml, hown, hts⟩ (c_X5_readLine l G hG q11.2 J hq13) (cwV 0 hts gX5_readText_X5_readLine rfl rfl rfl (by decide +kernel) ⟨Nat.le_of_ble_eq_true rfl, Nat.le_of_ble_eq_true rfl⟩) hK hP zkL_334 (by decide) rfl rfl hl.1 rfl (Nat.le_of_ble_eq_true rfl) dX5_readText_53 ⟨Nat.zero_le _, Nat.zero_le _⟩) hS (fun H locs hP hS => ?_)
              refine lv_if_eq (tgt := 63) hx hb dX5_readText_56 (by decide) (fun c14 => ?_) (fun c14 => ?_)
              · have hf := zif_t c14 hf
                refine lv_iconst (v := 0) hx hb dX5_readText_63 (by decide) ?_
                refine lv_istore_n (lv' := [(1, .int 0), (0, .ref (G.2.1 334)), (2, .int y2)]) hx hb dX5_readText_64 rfl hl (by decide) rfl (fun ls hl => ?_)
                refine lv_iinc (v := (y2 + 1)) (lv' := [(2, .int (y2 + 1)), (1, .int 0), (0, .ref (G.2.1 334))]) hx hb dX5_readText_65 hl (k := 2) rfl rfl (by decide) rfl (fun ls hl => ?_)
                refine lv_goto (tgt := 19) hx hb dX5_readText_68 (by decide) ?_
                exact ih q13.2 0 (y2 + 1) H locs ls hf hP hS (lv_sub hl [2, 1, 0] rfl)
              · have hf := zif_f c14 hf
                refine lv_iconst (v := 1) hx hb dX5_readText_59 (by decide) ?_
                refine lv_goto (tgt := 64) hx hb dX5_readText_60 (by decide) ?_
                refine lv_istore_n (lv' := [(1, .int 1), (0, .ref (G.2.1 334)), (2, .int y2)]) hx hb dX5_readText_64 rfl hl (by decide) rfl (fun ls hl => ?_)
                refine lv_iinc (v := (y2 + 1)) (lv' := [(2, .int (y2 + 1)), (1, .int 1), (0, .ref (G.2.1 334))]) hx hb dX5_readText_65 hl (k := 2) rfl rfl (by decide) rfl (fun ls hl => ?_)
                refine lv_goto (tgt := 19) hx hb dX5_readText_68 (by decide) ?_
                exact ih q13.2 1 (y2 + 1) H locs ls hf hP hS (lv_sub hl [2, 1, 0] rfl)
  unfold f_X5_readText at hf
  refine lv_aload_n hx hb dX5_readText_0 rfl (lv_at hl 0 rfl) ?_
  refine x_get (j := 1) (v := .ref (G.2.1 335)) hx hb hts hi5 hown hK hP zkL_334 rfl (by decide) (hts (.fieldLink RX5 20 "LeaseOffice$TextReader" "lines" "LLeaseOffice$Table;") (by decide +kernel)) rfl (by decide) dX5_readText_1 ?_
  obtain ⟨q1, hq1, hf⟩ := zb_e hf
  refine x_callv (x_runV (As := []) (rest := []) ⟨hx, hb, hml, hown, hts⟩ (c_X4_clear l G hG I J 335 zkL_335 hq1) (cwV 0 hts gX5_readText_X4_clear rfl rfl rfl (by decide +kernel) ⟨Nat.le_of_ble_eq_true rfl, Nat.le_of_ble_eq_true rfl⟩) hK hP zkL_335 (by decide) rfl rfl hl.1 rfl (Nat.le_of_ble_eq_true rfl) dX5_readText_4 ⟨Nat.zero_le _, Nat.zero_le _⟩) hS (fun H locs hP hS => ?_)
  refine lv_aload_n hx hb dX5_readText_7 rfl (lv_at hl 0 rfl) ?_
  refine lv_iconst (v := 0) hx hb dX5_readText_8 (by decide) ?_
  obtain ⟨M2, eM2, hf⟩ := zlet_e hf
  refine x_put (j := 2) (I2 := M2) (J2 := J) (ty0 := tyX5) (ty := .int) hx hb hts hi5 hown hG hK hP hS zkL_334 rfl tyX5_ok nmX5 (by decide) (hts (.fieldLink RX5 26 "LeaseOffice$TextReader" "place" "I") (by decide +kernel)) rfl (by decide +kernel) rfl rfl (Nat.le_of_ble_eq_true rfl) (by rw [eM2]; exact zs_5_2 _) (by rw [eM2]; exact zo_C) (by decide) dX5_readText_9 (fun H locs hP hS => ?_)
  refine lv_aload_n hx hb dX5_readText_12 rfl (lv_at hl 0 rfl) ?_
  obtain ⟨q3, hq3, hf⟩ := zb_e hf
  refine x_calli (x_runV (As := []) (rest := []) ⟨hx, hb, hml, hown, hts⟩ (c_X5_readLine l G hG M2 J hq3) (cwV 0 hts gX5_readText_X5_readLine rfl rfl rfl (by decide +kernel) ⟨Nat.le_of_ble_eq_true rfl, Nat.le_of_ble_eq_true rfl⟩) hK hP zkL_334 (by decide) rfl rfl hl.1 rfl (Nat.le_of_ble_eq_true rfl) dX5_readText_13 ⟨Nat.zero_le _, Nat.zero_le _⟩) hS (fun H locs hP hS => ?_)
  refine lv_istore_n (lv' := [(1, .int q3.1), (0, .ref (G.2.1 334))]) hx hb dX5_readText_16 rfl hl (by decide) rfl (fun ls hl => ?_)
  refine lv_iconst (v := 0) hx hb dX5_readText_17 (by decide) ?_
  refine lv_istore_n (lv' := [(2, .int 0), (1, .int q3.1), (0, .ref (G.2.1 334))]) hx hb dX5_readText_18 rfl hl (by decide) rfl (fun ls hl => ?_)
  exact L19 zFu q3.2 q3.1 0 H locs ls hf hP hS (lv_sub hl [2, 1, 0] rfl)
set_option maxRecDepth 100000 in
set_option maxHeartbeats 4000000 in
theorem c_X6_allCoins (l : Launch) (G : zGT) (hG : zOK G) (I J : zM) {r : Int32} (hf : f_X6_allCoins I = some r) : Met l yX6_allCoins wsX6_allCoins (zrm 1 21) (va_Pc [.ref (G.2.1 328)] (zS G I J)) (zQi G r I J) 0 0 (zA G) := by
  refine zMet (cc := cX6_allCoins) (n := 3) (ret := (some .int)) (by decide) rfl (Nat.le_of_ble_eq_true rfl) ?_
  intro p e s m args below meth c H locs ls F hK hP hS hl
  obtain ⟨hx, hb, hr, hml, hts, hown, hlocks⟩ := F
  have hown : s.vm.findClass RX6 = some m.cls := hown
  have hl : lv_has ls 3 [(0, .ref (G.2.1 328))] := hl
  have hi2 : ∀ w ∈ wsX20, w ∈ wsX6_allCoins := fun _ h => List.mem_cons_of_mem _ (List.mem_append_left _ (List.mem_append_left _ (List.mem_append_right _ h)))
  have hi3 : ∀ w ∈ wsX30, w ∈ wsX6_allCoins := fun _ h => List.mem_cons_of_mem _ (List.mem_append_left _ (List.mem_append_right _ h))
  have hi6 : ∀ w ∈ wsX60, w ∈ wsX6_allCoins := fun _ h => List.mem_cons_of_mem _ (List.mem_append_left _ (List.mem_append_left _ (List.mem_append_left _ (List.mem_append_right _ h))))
  have hi7 : ∀ w ∈ wsX70, w ∈ wsX6_allCoins := fun _ h => List.mem_cons_of_mem _ (List.mem_append_right _ h)
  have L10 : ∀ (K : Int32 → Option (Int32)) (hKK : ∀ (z1 : Int32) (H : Heap) (locs : List Loc) (ls : Array Slot), K z1 = some r → va_P G.1 vwCl (zW G I J) H → va_S (zA G) s.heap H locs → lv_has ls 3 [(0, .ref (G.2.1 328)), (1, .int z1)] → W p l e (zrm 1 21) s m args below meth c H locs 0 0 (MQ below (zQi G r I J) args s 0 0 (zA G)) (F0 m 41 ls [])) (n : Nat) (y1 : Int32) (y2 : Int32) (H : Heap) (locs : List Loc) (ls : Array Slot), f_X6_allCoins_l10 I K n y1 y2 = some r → va_P G.1 vwCl (zW G I J) H → va_S (zA G) s.heap H locs → lv_has ls 3 [(0, .ref (G.2.1 328)), (1, .int y1), (2, .int y2)] → W p l e (zrm 1 21) s m args below meth c H locs 0 0 (MQ below (zQi G r I J) args s 0 0 (zA G)) (F0 m 10 ls []) := by
    intro K hKK n
    induction n with
    | zero =>
      intro y1 y2 H locs ls hf
      rw [f_X6_allCoins_l10] at hf
      cases hf
    | succ n ih =>
      intro y1 y2 H locs ls hf hP hS hl
      rw [f_X6_allCoins_l10] at hf
      refine lv_iload_n hx hb dX6_allCoins_10 rfl (lv_at hl 2 rfl) ?_
      refine lv_aload_n hx hb dX6_allCoins_11 rfl (lv_at hl 0 rfl) ?_
      refine x_get (j := 0) (v := .ref (G.2.1 1)) hx hb hts hi6 hown hK hP zkL_328 rfl (by decide) (hts (.fieldLink RX6 12 "LeaseOffice$Thought" "office" "LLeaseOffice$Office;") (by decide +kernel)) rfl (by decide) dX6_allCoins_12 ?_
      refine x_get (j := 5) (v := .int (I 1 5)) hx hb hts hi2 hown hK hP zkL_1 rfl (by decide) (hts (.fieldLink RX6 88 "LeaseOffice$Office" "personCount" "I") (by decide +kernel)) rfl (by decide) dX6_allCoins_15 ?_
      refine lv_icmp_ge (tgt := 41) hx hb dX6_allCoins_18 (by decide) (fun c1 => ?_) (fun c1 => ?_)
      · have hf := zif_t c1 hf
        exact hKK y1 H locs ls hf hP hS (lv_sub hl [0, 1] rfl)
      · have hf := zif_f c1 hf
        refine lv_iload_n hx hb dX6_allCoins_21 rfl (lv_at hl 1 rfl) ?_
        refine lv_aload_n hx hb dX6_allCoins_22 rfl (lv_at hl 0 rfl) ?_
        refine x_get (j := 0) (v := .ref (G.2.1 1)) hx hb hts hi6 hown hK hP zkL_328 rfl (by decide) (hts (.fieldLink RX6 12 "LeaseOffice$Thought" "office" "LLeaseOffice$Office;") (by decide +kernel)) rfl (by decide) dX6_allCoins_23 ?_
        refine lv_iload_n hx hb dX6_allCoins_26 rfl (lv_at hl 2 rfl) ?_
        obtain ⟨q2, hq2, hf⟩ := zb_e hf
        refine x_callr (x_runV (As := [.int y2]) (rest := [.int y1]) ⟨hx, hb, hml, hown, hts⟩ (c_X2_personAt l G hG I J 1 y2 zkL_1 hq2) (cwV 1 hts gX6_allCoins_X2_personAt rfl rfl rfl (by decide +kernel) ⟨Nat.le_of_ble_eq_true rfl, Nat.le_of_ble_eq_true rfl⟩) hK hP zkL_1 (by decide) rfl rfl hl.1 rfl (Nat.le_of_ble_eq_true rfl) dX6_allCoins_27 ⟨Nat.zero_le _, Nat.zero_le _⟩) hS (fun H locs hP hS => ?_)
        refine x_get (j := 1) (v := .int (I q2 1)) hx hb hts hi3 hown hK hP (kd_X2_personAt zkL_1 hq2) rfl (by decide) (hts (.fieldLink RX6 95 "LeaseOffice$Person" "purse" "I") (by decide +kernel)) rfl (by decide) dX6_allCoins_30 ?_
        refine lv_iadd hx hb dX6_allCoins_33 ?_
        obtain ⟨w3, ew3, hf⟩ := zlet_e hf
        refine z_topi ew3 ?_
        refine lv_istore_n (lv' := [(1, .int w3), (0, .ref (G.2.1 328)), (2, .int y2)]) hx hb dX6_allCoins_34 rfl hl (by decide) rfl (fun ls hl => ?_)
        refine lv_iinc (v := (y2 + 1)) (lv' := [(2, .int (y2 + 1)), (1, .int w3), (0, .ref (G.2.1 328))]) hx hb dX6_allCoins_35 hl (k := 2) rfl rfl (by decide) rfl (fun ls hl => ?_)
        refine lv_goto (tgt := 10) hx hb dX6_allCoins_38 (by decide) ?_
        exact ih w3 (y2 + 1) H locs ls hf hP hS (lv_sub hl [2, 1, 0] rfl)
  have L43 : ∀ (n : Nat) (y1 : Int32) (y2 : Int32) (H : Heap) (locs : List Loc) (ls : Array Slot), f_X6_allCoins_l43 I n y1 y2 = some r → va_P G.1 vwCl (zW G I J) H → va_S (zA G) s.heap H locs → lv_has ls 3 [(0, .ref (G.2.1 328)), (1, .int y1), (2, .int y2)] → W p l e (zrm 1 21) s m args below meth c H locs 0 0 (MQ below (zQi G r I J) args s 0 0 (zA G)) (F0 m 43 ls []) := by
    intro n
    induction n with
    | zero =>
      intro y1 y2 H locs ls hf
      rw [f_X6_allCoins_l43] at hf
      cases hf
    | succ n ih =>
      intro y1 y2 H locs ls hf hP hS hl
      rw [f_X6_allCoins_l43] at hf
      refine lv_iload_n hx hb dX6_allCoins_43 rfl (lv_at hl 2 rfl) ?_
      refine lv_aload_n hx hb dX6_allCoins_44 rfl (lv_at hl 0 rfl) ?_
      refine x_get (j := 0) (v := .ref (G.2.1 1)) hx hb hts hi6 hown hK hP zkL_328 rfl (by decide) (hts (.fieldLink RX6 12 "LeaseOffice$Thought" "office" "LLeaseOffice$Office;") (by decide +kernel)) rfl (by decide) dX6_allCoins_45 ?_
      refine x_get (j := 6) (v := .int (I 1 6)) hx hb hts hi2 hown hK hP zkL_1 rfl (by decide) (hts (.fieldLink RX6 69 "LeaseOffice$Office" "toolCount" "I") (by decide +kernel)) rfl (by decide) dX6_allCoins_48 ?_
      refine lv_icmp_ge (tgt := 74) hx hb dX6_allCoins_51 (by decide) (fun c5 => ?_) (fun c5 => ?_)
      · have hf := zif_t c5 hf
        refine lv_iload_n hx hb dX6_allCoins_74 rfl (lv_at hl 1 rfl) ?_
        obtain rfl := Option.some.inj hf
        exact x_iret hx hb hr hlocks hK hP hS dX6_allCoins_75
      · have hf := zif_f c5 hf
        refine lv_iload_n hx hb dX6_allCoins_54 rfl (lv_at hl 1 rfl) ?_
        refine lv_aload_n hx hb dX6_allCoins_55 rfl (lv_at hl 0 rfl) ?_
        refine x_get (j := 0) (v := .ref (G.2.1 1)) hx hb hts hi6 hown hK hP zkL_328 rfl (by decide) (hts (.fieldLink RX6 12 "LeaseOffice$Thought" "office" "LLeaseOffice$Office;") (by decide +kernel)) rfl (by decide) dX6_allCoins_56 ?_
        refine lv_iload_n hx hb dX6_allCoins_59 rfl (lv_at hl 2 rfl) ?_
        obtain ⟨q6, hq6, hf⟩ := zb_e hf
        refine x_callr (x_runV (As := [.int y2]) (rest := [.int y1]) ⟨hx, hb, hml, hown, hts⟩ (c_X2_toolAt l G hG I J 1 y2 zkL_1 hq6) (cwV 1 hts gX6_allCoins_X2_toolAt rfl rfl rfl (by decide +kernel) ⟨Nat.le_of_ble_eq_true rfl, Nat.le_of_ble_eq_true rfl⟩) hK hP zkL_1 (by decide) rfl rfl hl.1 rfl (Nat.le_of_ble_eq_true rfl) dX6_allCoins_60 ⟨Nat.zero_le _, Nat.zero_le _⟩) hS (fun H locs hP hS => ?_)
        refine x_get (j := 5) (v := .int (I q6 5)) hx hb hts hi7 hown hK hP (kd_X2_toolAt zkL_1 hq6) rfl (by decide) (hts (.fieldLink RX6 100 "LeaseOffice$Tool" "deposit" "I") (by decide +kernel)) rfl (by decide) dX6_allCoins_63 ?_
        refine lv_iadd hx hb dX6_allCoins_66 ?_
        obtain ⟨w7, ew7, hf⟩ := zlet_e hf
        refine z_topi ew7 ?_
        refine lv_istore_n (lv' := [(1, .int w7), (0, .ref (G.2.1 328)), (2, .int y2)]) hx hb dX6_allCoins_67 rfl hl (by decide) rfl (fun ls hl => ?_)
        refine lv_iinc (v := (y2 + 1)) (lv' := [(2, .int (y2 + 1)), (1, .int w7), (0, .ref (G.2.1 328))]) hx hb dX6_allCoins_68 hl (k := 2) rfl rfl (by decide) rfl (fun ls hl => ?_)
        refine lv_goto (tgt := 43) hx hb dX6_allCoins_71 (by decide) ?_
        exact ih w7 (y2 + 1) H locs ls hf hP hS (lv_sub hl [2, 1, 0] rfl)
  unfold f_X6_allCoins at hf
  refine lv_aload_n hx hb dX6_allCoins_0 rfl (lv_at hl 0 rfl) ?_
  refine x_get (j := 0) (v := .ref (G.2.1 1)) hx hb hts hi6 hown hK hP zkL_328 rfl (by decide) (hts (.fieldLink RX6 12 "LeaseOffice$Thought" "office" "LLeaseOffice$Office;") (by decide +kernel)) rfl (by decide) dX6_allCoins_1 ?_
  refine x_get (j := 8) (v := .int (I 1 8)) hx hb hts hi2 hown hK hP zkL_1 rfl (by decide) (hts (.fieldLink RX6 85 "LeaseOffice$Office" "till" "I") (by decide +kernel)) rfl (by decide) dX6_allCoins_4 ?_
  refine lv_istore_n (lv' := [(1, .int (I 1 8)), (0, .ref (G.2.1 328))]) hx hb dX6_allCoins_7 rfl hl (by decide) rfl (fun ls hl => ?_)
  refine lv_iconst (v := 0) hx hb dX6_allCoins_8 (by decide) ?_
  refine lv_istore_n (lv' := [(2, .int 0), (1, .int (I 1 8)), (0, .ref (G.2.1 328))]) hx hb dX6_allCoins_9 rfl hl (by decide) rfl (fun ls hl => ?_)
  refine L10 _ (fun z4 H locs ls hf hP hS hl => ?_) zFu (I 1 8) 0 H locs ls hf hP hS (lv_sub hl [2, 1, 0] rfl)
  refine lv_iconst (v := 0) hx hb dX6_allCoins_41 (by decide) ?_
  refine lv_istore_n (lv' := [(2, .int 0), (0, .ref (G.2.1 328)), (1, .int z4)]) hx hb dX6_allCoins_42 rfl hl (by decide) rfl (fun ls hl => ?_)
  exact L43 zFu z4 0 H locs ls hf hP hS (lv_sub hl [1, 2, 0] rfl)
set_option maxRecDepth 100000 in
set_option maxHeartbeats 4000000 in
theorem c_X6_allDebts (l : Launch) (G : zGT) (hG : zOK G) (I J : zM) {r : Int32} (hf : f_X6_allDebts I = some r) : Met l yX6_allDebts wsX6_allDebts (zrm 1 21) (va_Pc [.ref (G.2.1 328)] (zS G I J)) (zQi G r I J) 0 0 (zA G) := by
  refine zMet (cc := cX6_allDebts) (n := 3) (ret := (some .int)) (by decide) rfl (Nat.le_of_ble_eq_true rfl) ?_
  intro p e s m args below meth c H locs ls F hK hP hS hl
  obtain ⟨hx, hb, hr, hml, hts, hown, hlocks⟩ := F
  have hown : s.vm.findClass RX6 = some m.cls := hown
  have hl : lv_has ls 3 [(0, .ref (G.2.1 328))] := hl
  have hi2 : ∀ w ∈ wsX20, w ∈ wsX6_allDebts := fun _ h => List.mem_cons_of_mem _ (List.mem_append_left _ (List.mem_append_right _ h))
  have hi3 : ∀ w ∈ wsX30, w ∈ wsX6_allDebts := fun _ h => List.mem_cons_of_mem _ (List.mem_append_right _ h)
  have hi6 : ∀ w ∈ wsX60, w ∈ wsX6_allDebts := fun _ h => List.mem_cons_of_mem _ (List.mem_append_left _ (List.mem_append_left _ (List.mem_append_right _ h)))
  have L4 : ∀ (n : Nat) (y1 : Int32) (y2 : Int32) (H : Heap) (locs : List Loc) (ls : Array Slot), f_X6_allDebts_l4 I n y1 y2 = some r → va_P G.1 vwCl (zW G I J) H → va_S (zA G) s.heap H locs → lv_has ls 3 [(0, .ref (G.2.1 328)), (1, .int y1), (2, .int y2)] → W p l e (zrm 1 21) s m args below meth c H locs 0 0 (MQ below (zQi G r I J) args s 0 0 (zA G)) (F0 m 4 ls []) := by
    intro n
    induction n with
    | zero =>
      intro y1 y2 H locs ls hf
      rw [f_X6_allDebts_l4] at hf
      cases hf
    | succ n ih =>
      intro y1 y2 H locs ls hf hP hS hl
      rw [f_X6_allDebts_l4] at hf
      refine lv_iload_n hx hb dX6_allDebts_4 rfl (lv_at hl 2 rfl) ?_
      refine lv_aload_n hx hb dX6_allDebts_5 rfl (lv_at hl 0 rfl) ?_
      refine x_get (j := 0) (v := .ref (G.2.1 1)) hx hb hts hi6 hown hK hP zkL_328 rfl (by decide) (hts (.fieldLink RX6 12 "LeaseOffice$Thought" "office" "LLeaseOffice$Office;") (by decide +kernel)) rfl (by decide) dX6_allDebts_6 ?_
      refine x_get (j := 5) (v := .int (I 1 5)) hx hb hts hi2 hown hK hP zkL_1 rfl (by decide) (hts (.fieldLink RX6 88 "LeaseOffice$Office" "personCount" "I") (by decide +kernel)) rfl (by decide) dX6_allDebts_9 ?_
      refine lv_icmp_ge (tgt := 35) hx hb dX6_allDebts_12 (by decide) (fun c1 => ?_) (fun c1 => ?_)
      · have hf := zif_t c1 hf
        refine lv_iload_n hx hb dX6_allDebts_35 rfl (lv_at hl 1 rfl) ?_
        obtain rfl := Option.some.inj hf
        exact x_iret hx hb hr hlocks hK hP hS dX6_allDebts_36
      · have hf := zif_f c1 hf
        refine lv_iload_n hx hb dX6_allDebts_15 rfl (lv_at hl 1 rfl) ?_
        refine lv_aload_n hx hb dX6_allDebts_16 rfl (lv_at hl 0 rfl) ?_
        refine x_get (j := 0) (v := .ref (G.2.1 1)) hx hb hts hi6 hown hK hP zkL_328 rfl (by decide) (hts (.fieldLink RX6 12 "LeaseOffice$Thought" "office" "LLeaseOffice$Office;") (by decide +kernel)) rfl (by decide) dX6_allDebts_17 ?_
        refine lv_iload_n hx hb dX6_allDebts_20 rfl (lv_at hl 2 rfl) ?_
        obtain ⟨q2, hq2, hf⟩ := zb_e hf
        refine x_callr (x_runV (As := [.int y2]) (rest := [.int y1]) ⟨hx, hb, hml, hown, hts⟩ (c_X2_personAt l G hG I J 1 y2 zkL_1 hq2) (cwV 1 hts gX6_allDebts_X2_personAt rfl rfl rfl (by decide +kernel) ⟨Nat.le_of_ble_eq_true rfl, Nat.le_of_ble_eq_true rfl⟩) hK hP zkL_1 (by decide) rfl rfl hl.1 rfl (Nat.le_of_ble_eq_true rfl) dX6_allDebts_21 ⟨Nat.zero_le _, Nat.zero_le _⟩) hS (fun H locs hP hS => ?_)
        refine x_get (j := 4) (v := .int (I q2 4)) hx hb hts hi3 hown hK hP (kd_X2_personAt zkL_1 hq2) rfl (by decide) (hts (.fieldLink RX6 103 "LeaseOffice$Person" "debt" "I") (by decide +kernel)) rfl (by decide) dX6_allDebts_24 ?_
        refine lv_iadd hx hb dX6_allDebts_27 ?_
        obtain ⟨w3, ew3, hf⟩ := zlet_e hf
        refine z_topi ew3 ?_
        refine lv_istore_n (lv' := [(1, .int w3), (0, .ref (G.2.1 328)), (2, .int y2)]) hx hb dX6_allDebts_28 rfl hl (by decide) rfl (fun ls hl => ?_)
        refine lv_iinc (v := (y2 + 1)) (lv' := [(2, .int (y2 + 1)), (1, .int w3), (0, .ref (G.2.1 328))]) hx hb dX6_allDebts_29 hl (k := 2) rfl rfl (by decide) rfl (fun ls hl => ?_)
        refine lv_goto (tgt := 4) hx hb dX6_allDebts_32 (by decide) ?_
        exact ih w3 (y2 + 1) H locs ls hf hP hS (lv_sub hl [2, 1, 0] rfl)
  unfold f_X6_allDebts at hf
  refine lv_iconst (v := 0) hx hb dX6_allDebts_0 (by decide) ?_
  refine lv_istore_n (lv' := [(1, .int 0), (0, .ref (G.2.1 328))]) hx hb dX6_allDebts_1 rfl hl (by decide) rfl (fun ls hl => ?_)
  refine lv_iconst (v := 0) hx hb dX6_allDebts_2 (by decide) ?_
  refine lv_istore_n (lv' := [(2, .int 0), (1, .int 0), (0, .ref (G.2.1 328))]) hx hb dX6_allDebts_3 rfl hl (by decide) rfl (fun ls hl => ?_)
  exact L4 zFu 0 0 H locs ls hf hP hS (lv_sub hl [2, 1, 0] rfl)
set_option maxRecDepth 100000 in
set_option maxHeartbeats 4000000 in
theorem c_X6_canBeSwapped (l : Launch) (G : zGT) (hG : zOK G) (I J : zM) (x1 : Int32) (x2 : Int32) {r : Int32} (hf : f_X6_canBeSwapped I x1 x2 = some r) : Met l yX6_canBeSwapped wsX6_canBeSwapped (zrm 3 68) (va_Pc [.ref (G.2.1 328), .int x1, .int x2] (zS G I J)) (zQi G r I J) 0 0 (zA G) := by
  refine zMet (cc := cX6_canBeSwapped) (n := 3) (ret := (some .boolean)) (by decide) rfl (Nat.le_of_ble_eq_true rfl) ?_
  intro p e s m args below meth c H locs ls F hK hP hS hl
  obtain ⟨hx, hb, hr, hml, hts, hown, hlocks⟩ := F
  have hown : s.vm.findClass RX6 = some m.cls := hown
  have hl : lv_has ls 3 [(0, .ref (G.2.1 328)), (1, .int x1), (2, .int x2)] := hl
  have hi6 : ∀ w ∈ wsX60, w ∈ wsX6_canBeSwapped := fun _ h => List.mem_cons_of_mem _ (List.mem_append_left _ (List.mem_append_left _ (List.mem_append_left _ (List.mem_append_right _ h))))
  unfold f_X6_canBeSwapped at hf
  refine lv_aload_n hx hb dX6_canBeSwapped_0 rfl (lv_at hl 0 rfl) ?_
  refine x_get (j := 0) (v := .ref (G.2.1 1)) hx hb hts hi6 hown hK hP zkL_328 rfl (by decide) (hts (.fieldLink RX6 12 "LeaseOffice$Thought" "office" "LLeaseOffice$Office;") (by decide +kernel)) rfl (by decide) dX6_canBeSwapped_1 ?_
  refine lv_iload_n hx hb dX6_canBeSwapped_4 rfl (lv_at hl 1 rfl) ?_
  refine lv_iload_n hx hb dX6_canBeSwapped_5 rfl (lv_at hl 2 rfl) ?_
  obtain ⟨q1, hq1, hf⟩ := zb_e hf
  refine x_calli (x_runV (As := [.int x1, .int x2]) (rest := []) ⟨hx, hb, hml, hown, hts⟩ (c_X2_haveTwoHolders l G hG I J 1 x1 x2 zkL_1 hq1) (cwV 2 hts gX6_canBeSwapped_X2_haveTwoHolders rfl rfl rfl (by decide +kernel) ⟨Nat.le_of_ble_eq_true rfl, Nat.le_of_ble_eq_true rfl⟩) hK hP zkL_1 (by decide) rfl rfl hl.1 rfl (Nat.le_of_ble_eq_true rfl) dX6_canBeSwapped_6 ⟨Nat.zero_le _, Nat.zero_le _⟩) hS (fun H locs hP hS => ?_)
  refine lv_if_eq (tgt := 40) hx hb dX6_canBeSwapped_9 (by decide) (fun c2 => ?_) (fun c2 => ?_)
  · have hf := zif_t c2 hf
    refine lv_iconst (v := 0) hx hb dX6_canBeSwapped_40 (by decide) ?_
    obtain rfl := Option.some.inj hf
    exact x_zret (v := 0) rfl hx hb hr hlocks hK hP hS dX6_canBeSwapped_41
  · have hf := zif_f c2 hf
    refine lv_aload_n hx hb dX6_canBeSwapped_12 rfl (lv_at hl 0 rfl) ?_
    refine x_get (j := 0) (v := .ref (G.2.1 1)) hx hb hts hi6 hown hK hP zkL_328 rfl (by decide) (hts (.fieldLink RX6 12 "LeaseOffice$Thought" "office" "LLeaseOffice$Office;") (by decide +kernel)) rfl (by decide) dX6_canBeSwapped_13 ?_
    refine lv_iload_n hx hb dX6_canBeSwapped_16 rfl (lv_at hl 1 rfl) ?_
    refine lv_iload_n hx hb dX6_canBeSwapped_17 rfl (lv_at hl 2 rfl) ?_
    obtain ⟨q3, hq3, hf⟩ := zb_e hf
    refine x_calli (x_runV (As := [.int x1, .int x2]) (rest := []) ⟨hx, hb, hml, hown, hts⟩ (c_X2_gainOf l G hG I J 1 x1 x2 zkL_1 hq3) (cwV 2 hts gX6_canBeSwapped_X2_gainOf rfl rfl rfl (by decide +kernel) ⟨Nat.le_of_ble_eq_true rfl, Nat.le_of_ble_eq_true rfl⟩) hK hP zkL_1 (by decide) rfl rfl hl.1 rfl (Nat.le_of_ble_eq_true rfl) dX6_canBeSwapped_18 ⟨Nat.zero_le _, Nat.zero_le _⟩) hS (fun H locs hP hS => ?_)
    refine lv_if_le (tgt := 40) hx hb dX6_canBeSwapped_21 (by decide) (fun c4 => ?_) (fun c4 => ?_)
    · have hf := zif_t c4 hf
      refine lv_iconst (v := 0) hx hb dX6_canBeSwapped_40 (by decide) ?_
      obtain rfl := Option.some.inj hf
      exact x_zret (v := 0) rfl hx hb hr hlocks hK hP hS dX6_canBeSwapped_41
    · have hf := zif_f c4 hf
      refine lv_aload_n hx hb dX6_canBeSwapped_24 rfl (lv_at hl 0 rfl) ?_
      refine x_get (j := 0) (v := .ref (G.2.1 1)) hx hb hts hi6 hown hK hP zkL_328 rfl (by decide) (hts (.fieldLink RX6 12 "LeaseOffice$Thought" "office" "LLeaseOffice$Office;") (by decide +kernel)) rfl (by decide) dX6_canBeSwapped_25 ?_
      refine lv_iload_n hx hb dX6_canBeSwapped_28 rfl (lv_at hl 1 rfl) ?_
      refine lv_iload_n hx hb dX6_canBeSwapped_29 rfl (lv_at hl 2 rfl) ?_
      obtain ⟨q5, hq5, hf⟩ := zb_e hf
      refine x_calli (x_runV (As := [.int x1, .int x2]) (rest := []) ⟨hx, hb, hml, hown, hts⟩ (c_X2_whyNotBothPassed l G hG I J 1 x1 x2 zkL_1 hq5) (cwV 2 hts gX6_canBeSwapped_X2_whyNotBothPassed rfl rfl rfl (by decide +kernel) ⟨Nat.le_of_ble_eq_true rfl, Nat.le_of_ble_eq_true rfl⟩) hK hP zkL_1 (by decide) rfl rfl hl.1 rfl (Nat.le_of_ble_eq_true rfl) dX6_canBeSwapped_30 ⟨Nat.zero_le _, Nat.zero_le _⟩) hS (fun H locs hP hS => ?_)
      refine lv_if_ne (tgt := 40) hx hb dX6_canBeSwapped_33 (by decide) (fun c6 => ?_) (fun c6 => ?_)
      · have hf := zif_f c6 hf
        refine lv_iconst (v := 0) hx hb dX6_canBeSwapped_40 (by decide) ?_
        obtain rfl := Option.some.inj hf
        exact x_zret (v := 0) rfl hx hb hr hlocks hK hP hS dX6_canBeSwapped_41
      · have hf := zif_t c6 hf
        refine lv_iconst (v := 1) hx hb dX6_canBeSwapped_36 (by decide) ?_
        refine lv_goto (tgt := 41) hx hb dX6_canBeSwapped_37 (by decide) ?_
        obtain rfl := Option.some.inj hf
        exact x_zret (v := 1) rfl hx hb hr hlocks hK hP hS dX6_canBeSwapped_41
set_option maxRecDepth 100000 in
set_option maxHeartbeats 4000000 in
theorem c_X6_bestSwap (l : Launch) (G : zGT) (hG : zOK G) (I J : zM) {r : Int32} (hf : f_X6_bestSwap I = some r) : Met l yX6_bestSwap wsX6_bestSwap (zrm 4 90) (va_Pc [.ref (G.2.1 328)] (zS G I J)) (zQi G r I J) 0 0 (zA G) := by
  refine zMet (cc := cX6_bestSwap) (n := 5) (ret := (some .int)) (by decide) rfl (Nat.le_of_ble_eq_true rfl) ?_
  intro p e s m args below meth c H locs ls F hK hP hS hl
  obtain ⟨hx, hb, hr, hml, hts, hown, hlocks⟩ := F
  have hown : s.vm.findClass RX6 = some m.cls := hown
  have hl : lv_has ls 5 [(0, .ref (G.2.1 328))] := hl
  have hi2 : ∀ w ∈ wsX20, w ∈ wsX6_bestSwap := fun _ h => List.mem_cons_of_mem _ (List.mem_append_left _ (List.mem_append_left _ (List.mem_append_right _ h)))
  have hi6 : ∀ w ∈ wsX60, w ∈ wsX6_bestSwap := fun _ h => List.mem_cons_of_mem _ (List.mem_append_left _ (List.mem_append_left _ (List.mem_append_left _ (List.mem_append_right _ h))))
  have L23 : ∀ (y3 : Int32) (K : Int32 → Int32 → Option (Int32)) (hKK : ∀ (z1 : Int32) (z2 : Int32) (H : Heap) (locs : List Loc) (ls : Array Slot), K z1 z2 = some r → va_P G.1 vwCl (zW G I J) H → va_S (zA G) s.heap H locs → lv_has ls 5 [(0, .ref (G.2.1 328)), (1, .int z1), (2, .int z2), (3, .int y3)] → W p l e (zrm 4 90) s m args below meth c H locs 0 0 (MQ below (zQi G r I J) args s 0 0 (zA G)) (F0 m 84 ls [])) (n : Nat) (y1 : Int32) (y2 : Int32) (y4 : Int32) (H : Heap) (locs : List Loc) (ls : Array Slot), f_X6_bestSwap_l23 I y3 K n y1 y2 y4 = some r → va_P G.1 vwCl (zW G I J) H → va_S (zA G) s.heap H locs → lv_has ls 5 [(0, .ref (G.2.1 328)), (1, .int y1), (2, .int y2), (3, .int y3), (4, .int y4)] → W p l e (zrm 4 90) s m args below meth c H locs 0 0 (MQ below (zQi G r I J) args s 0 0 (zA G)) (F0 m 23 ls []) := by
    intro y3 K hKK n
    induction n with
    | zero =>
      intro y1 y2 y4 H locs ls hf
      rw [f_X6_bestSwap_l23] at hf
      cases hf
    | succ n ih =>
      intro y1 y2 y4 H locs ls hf hP hS hl
      rw [f_X6_bestSwap_l23] at hf
      refine lv_iload hx hb dX6_bestSwap_23 (lv_at hl 4 rfl) ?_
      refine lv_aload_n hx hb dX6_bestSwap_25 rfl (lv_at hl 0 rfl) ?_
      refine x_get (j := 0) (v := .ref (G.2.1 1)) hx hb hts hi6 hown hK hP zkL_328 rfl (by decide) (hts (.fieldLink RX6 12 "LeaseOffice$Thought" "office" "LLeaseOffice$Office;") (by decide +kernel)) rfl (by decide) dX6_bestSwap_26 ?_
      refine x_get (j := 6) (v := .int (I 1 6)) hx hb hts hi2 hown hK hP zkL_1 rfl (by decide) (hts (.fieldLink RX6 69 "LeaseOffice$Office" "toolCount" "I") (by decide +kernel)) rfl (by decide) dX6_bestSwap_29 ?_
      refine lv_icmp_ge (tgt := 84) hx hb dX6_bestSwap_32 (by decide) (fun c3 => ?_) (fun c3 => ?_)
      · have hf := zif_t c3 hf
        exact hKK y1 y2 H locs ls hf hP hS (lv_sub hl [0, 1, 2, 3] rfl)
      · have hf := zif_f c3 hf
        refine lv_aload_n hx hb dX6_bestSwap_35 rfl (lv_at hl 0 rfl) ?_
        refine x_get (j := 0) (v := .ref (G.2.1 1)) hx hb hts hi6 hown hK hP zkL_328 rfl (by decide) (hts (.fieldLink RX6 12 "LeaseOffice$Thought" "office" "LLeaseOffice$Office;") (by decide +kernel)) rfl (by decide) dX6_bestSwap_36 ?_
        refine lv_iload_n hx hb dX6_bestSwap_39 rfl (lv_at hl 3 rfl) ?_
        refine lv_iload hx hb dX6_bestSwap_40 (lv_at hl 4 rfl) ?_
        obtain ⟨q4, hq4, hf⟩ := zb_e hf
        refine x_calli (x_runV (As := [.int y3, .int y4]) (rest := []) ⟨hx, hb, hml, hown, hts⟩ (c_X2_gainOf l G hG I J 1 y3 y4 zkL_1 hq4) (cwV 2 hts gX6_bestSwap_X2_gainOf rfl rfl rfl (by decide +kernel) ⟨Nat.le_of_ble_eq_true rfl, Nat.le_of_ble_eq_true rfl⟩) hK hP zkL_1 (by decide) rfl rfl hl.1 rfl (Nat.le_of_ble_eq_true rfl) dX6_bestSwap_42 ⟨Nat.zero_le _, Nat.zero_le _⟩) hS (fun H locs hP hS => ?_)
        refine lv_iload_n hx hb dX6_bestSwap_45 rfl (lv_at hl 2 rfl) ?_
        refine lv_icmp_le (tgt := 78) hx hb dX6_bestSwap_46 (by decide) (fun c5 => ?_) (fun c5 => ?_)
        · have hf := zif_t c5 hf
          refine lv_iinc (v := (y4 + 1)) (lv' := [(4, .int (y4 + 1)), (0, .ref (G.2.1 328)), (1, .int y1), (2, .int y2), (3, .int y3)]) hx hb dX6_bestSwap_78 hl (k := 4) rfl rfl (by decide) rfl (fun ls hl => ?_)
          refine lv_goto (tgt := 23) hx hb dX6_bestSwap_81 (by decide) ?_
          exact ih y1 y2 (y4 + 1) H locs ls hf hP hS (lv_sub hl [1, 2, 3, 4, 0] rfl)
        · have hf := zif_f c5 hf
          refine lv_aload_n hx hb dX6_bestSwap_49 rfl (lv_at hl 0 rfl) ?_
          refine lv_iload_n hx hb dX6_bestSwap_50 rfl (lv_at hl 3 rfl) ?_
          refine lv_iload hx hb dX6_bestSwap_51 (lv_at hl 4 rfl) ?_
          obtain ⟨q6, hq6, hf⟩ := zb_e hf
          refine x_calli (x_runV (As := [.int y3, .int y4]) (rest := []) ⟨hx, hb, hml, hown, hts⟩ (c_X6_canBeSwapped l G hG I J y3 y4 hq6) (cwV 2 hts gX6_bestSwap_X6_canBeSwapped rfl rfl rfl (by decide +kernel) ⟨Nat.le_of_ble_eq_true rfl, Nat.le_of_ble_eq_true rfl⟩) hK hP zkL_328 (by decide) rfl rfl hl.1 rfl (Nat.le_of_ble_eq_true rfl) dX6_bestSwap_53 ⟨Nat.zero_le _, Nat.zero_le _⟩) hS (fun H locs hP hS => ?_)
          refine lv_if_eq (tgt := 78) hx hb dX6_bestSwap_56 (by decide) (fun c7 => ?_) (fun c7 => ?_)
          · have hf := zif_t c7 hf
            refine lv_iinc (v := (y4 + 1)) (lv' := [(4, .int (y4 + 1)), (0, .ref (G.2.1 328)), (1, .int y1), (2, .int y2), (3, .int y3)]) hx hb dX6_bestSwap_78 hl (k := 4) rfl rfl (by decide) rfl (fun ls hl => ?_)
            refine lv_goto (tgt := 23) hx hb dX6_bestSwap_81 (by decide) ?_
            exact ih y1 y2 (y4 + 1) H locs ls hf hP hS (lv_sub hl [1, 2, 3, 4, 0] rfl)
          · have hf := zif_f c7 hf
            refine lv_aload_n hx hb dX6_bestSwap_59 rfl (lv_at hl 0 rfl) ?_
            refine x_get (j := 0) (v := .ref (G.2.1 1)) hx hb hts hi6 hown hK hP zkL_328 rfl (by decide) (hts (.fieldLink RX6 12 "LeaseOffice$Thought" "office" "LLeaseOffice$Office;") (by decide +kernel)) rfl (by decide) dX6_bestSwap_60 ?_
            refine lv_iload_n hx hb dX6_bestSwap_63 rfl (lv_at hl 3 rfl) ?_
            refine lv_iload hx hb dX6_bestSwap_64 (lv_at hl 4 rfl) ?_
            obtain ⟨q8, hq8, hf⟩ := zb_e hf
            refine x_calli (x_runV (As := [.int y3, .int y4]) (rest := []) ⟨hx, hb, hml, hown, hts⟩ (c_X2_gainOf l G hG I J 1 y3 y4 zkL_1 hq8) (cwV 2 hts gX6_bestSwap_X2_gainOf rfl rfl rfl (by decide +kernel) ⟨Nat.le_of_ble_eq_true rfl, Nat.le_of_ble_eq_true rfl⟩) hK hP zkL_1 (by decide) rfl rfl hl.1 rfl (Nat.le_of_ble_eq_true rfl) dX6_bestSwap_66 ⟨Nat.zero_le _, Nat.zero_le _⟩) hS (fun H locs hP hS => ?_)
            refine lv_istore_n (lv' := [(2, .int q8), (0, .ref (G.2.1 328)), (1, .int y1), (3, .int y3), (4, .int y4)]) hx hb dX6_bestSwap_69 rfl hl (by decide) rfl (fun ls hl => ?_)
            refine lv_bipush (v := 10) hx hb dX6_bestSwap_70 (by decide) ?_
            refine lv_iload_n hx hb dX6_bestSwap_72 rfl (lv_at hl 3 rfl) ?_
            refine lv_imul hx hb dX6_bestSwap_73 ?_
            refine lv_iload hx hb dX6_bestSwap_74 (lv_at hl 4 rfl) ?_
            refine lv_iadd hx hb dX6_bestSwap_76 ?_
            obtain ⟨w9, ew9, hf⟩ := zlet_e hf
            refine z_topi ew9 ?_
            refine lv_istore_n (lv' := [(1, .int w9), (2, .int q8), (0, .ref (G.2.1 328)), (3, .int y3), (4, .int y4)]) hx hb dX6_bestSwap_77 rfl hl (by decide) rfl (fun ls hl => ?_)
            refine lv_iinc (v := (y4 + 1)) (lv' := [(4, .int (y4 + 1)), (1, .int w9), (2, .int q8), (0, .ref (G.2.1 328)), (3, .int y3)]) hx hb dX6_bestSwap_78 hl (k := 4) rfl rfl (by decide) rfl (fun ls hl => ?_)
            refine lv_goto (tgt := 23) hx hb dX6_bestSwap_81 (by decide) ?_
            exact ih w9 q8 (y4 + 1) H locs ls hf hP hS (lv_sub hl [3, 1, 2, 4, 0] rfl)
  have L7 : ∀ (n : Nat) (y1 : Int32) (y2 : Int32) (y3 : Int32) (H : Heap) (locs : List Loc) (ls : Array Slot), f_X6_bestSwap_l7 I n y1 y2 y3 = some r → va_P G.1 vwCl (zW G I J) H → va_S (zA G) s.heap H locs → lv_has ls 5 [(0, .ref (G.2.1 328)), (1, .int y1), (2, .int y2), (3, .int y3)] → W p l e (zrm 4 90) s m args below meth c H locs 0 0 (MQ below (zQi G r I J) args s 0 0 (zA G)) (F0 m 7 ls []) := by
    intro n
    induction n with
    | zero =>
      intro y1 y2 y3 H locs ls hf
      rw [f_X6_bestSwap_l7] at hf
      cases hf
    | succ n ih =>
      intro y1 y2 y3 H locs ls hf hP hS hl
      rw [f_X6_bestSwap_l7] at hf
      refine lv_iload_n hx hb dX6_bestSwap_7 rfl (lv_at hl 3 rfl) ?_
      refine lv_aload_n hx hb dX6_bestSwap_8 rfl (lv_at hl 0 rfl) ?_
      refine x_get (j := 0) (v := .ref (G.2.1 1)) hx hb hts hi6 hown hK hP zkL_328 rfl (by decide) (hts (.fieldLink RX6 12 "LeaseOffice$Thought" "office" "LLeaseOffice$Office;") (by decide +kernel)) rfl (by decide) dX6_bestSwap_9 ?_
      refine x_get (j := 6) (v := .int (I 1 6)) hx hb hts hi2 hown hK hP zkL_1 rfl (by decide) (hts (.fieldLink RX6 69 "LeaseOffice$Office" "toolCount" "I") (by decide +kernel)) rfl (by decide) dX6_bestSwap_12 ?_
      refine lv_icmp_ge (tgt := 90) hx hb dX6_bestSwap_15 (by decide) (fun c1 => ?_) (fun c1 => ?_)
      · have hf := zif_t c1 hf
        refine lv_iload_n hx hb dX6_bestSwap_90 rfl (lv_at hl 1 rfl) ?_
        obtain rfl := Option.some.inj hf
        exact x_iret hx hb hr hlocks hK hP hS dX6_bestSwap_91
      · have hf := zif_f c1 hf
        refine lv_iload_n hx hb dX6_bestSwap_18 rfl (lv_at hl 3 rfl) ?_
        refine lv_iconst (v := 1) hx hb dX6_bestSwap_19 (by decide) ?_
        refine lv_iadd hx hb dX6_bestSwap_20 ?_
        obtain ⟨w2, ew2, hf⟩ := zlet_e hf
        refine z_topi ew2 ?_
        refine lv_istore (lv' := [(4, .int w2), (0, .ref (G.2.1 328)), (1, .int y1), (2, .int y2), (3, .int y3)]) hx hb dX6_bestSwap_21 hl (by decide) rfl (fun ls hl => ?_)
        refine L23 y3 _ (fun z10 z11 H locs ls hf hP hS hl => ?_) zFu y1 y2 w2 H locs ls hf hP hS (lv_sub hl [1, 2, 3, 4, 0] rfl)
        refine lv_iinc (v := (y3 + 1)) (lv' := [(3, .int (y3 + 1)), (0, .ref (G.2.1 328)), (1, .int z10), (2, .int z11)]) hx hb dX6_bestSwap_84 hl (k := 3) rfl rfl (by decide) rfl (fun ls hl => ?_)
        refine lv_goto (tgt := 7) hx hb dX6_bestSwap_87 (by decide) ?_
        exact ih z10 z11 (y3 + 1) H locs ls hf hP hS (lv_sub hl [1, 2, 3, 0] rfl)
  unfold f_X6_bestSwap at hf
  refine lv_bipush (v := (-2)) hx hb dX6_bestSwap_0 (by decide) ?_
  refine lv_istore_n (lv' := [(1, .int (-2)), (0, .ref (G.2.1 328))]) hx hb dX6_bestSwap_2 rfl hl (by decide) rfl (fun ls hl => ?_)
  refine lv_iconst (v := 0) hx hb dX6_bestSwap_3 (by decide) ?_
  refine lv_istore_n (lv' := [(2, .int 0), (1, .int (-2)), (0, .ref (G.2.1 328))]) hx hb dX6_bestSwap_4 rfl hl (by decide) rfl (fun ls hl => ?_)
  refine lv_iconst (v := 0) hx hb dX6_bestSwap_5 (by decide) ?_
  refine lv_istore_n (lv' := [(3, .int 0), (2, .int 0), (1, .int (-2)), (0, .ref (G.2.1 328))]) hx hb dX6_bestSwap_6 rfl hl (by decide) rfl (fun ls hl => ?_)
  exact L7 zFu (-2) 0 0 H locs ls hf hP hS (lv_sub hl [3, 2, 1, 0] rfl)
set_option maxRecDepth 100000 in
set_option maxHeartbeats 4000000 in
theorem c_X6_claimCount (l : Launch) (G : zGT) (hG : zOK G) (I J : zM) {r : Int32} (hf : f_X6_claimCount I = some r) : Met l yX6_claimCount wsX6_claimCount (zrm 1 21) (va_Pc [.ref (G.2.1 328)] (zS G I J)) (zQi G r I J) 0 0 (zA G) := by
  refine zMet (cc := cX6_claimCount) (n := 3) (ret := (some .int)) (by decide) rfl (Nat.le_of_ble_eq_true rfl) ?_
  intro p e s m args below meth c H locs ls F hK hP hS hl
  obtain ⟨hx, hb, hr, hml, hts, hown, hlocks⟩ := F
  have hown : s.vm.findClass RX6 = some m.cls := hown
  have hl : lv_has ls 3 [(0, .ref (G.2.1 328))] := hl
  have hi2 : ∀ w ∈ wsX20, w ∈ wsX6_claimCount := fun _ h => List.mem_cons_of_mem _ (List.mem_append_left _ (List.mem_append_left _ (List.mem_append_right _ h)))
  have hi6 : ∀ w ∈ wsX60, w ∈ wsX6_claimCount := fun _ h => List.mem_cons_of_mem _ (List.mem_append_left _ (List.mem_append_left _ (List.mem_append_left _ (List.mem_append_right _ h))))
  have hi7 : ∀ w ∈ wsX70, w ∈ wsX6_claimCount := fun _ h => List.mem_cons_of_mem _ (List.mem_append_left _ (List.mem_append_right _ h))
  have L4 : ∀ (n : Nat) (y1 : Int32) (y2 : Int32) (H : Heap) (locs : List Loc) (ls : Array Slot), f_X6_claimCount_l4 I n y1 y2 = some r → va_P G.1 vwCl (zW G I J) H → va_S (zA G) s.heap H locs → lv_has ls 3 [(0, .ref (G.2.1 328)), (1, .int y1), (2, .int y2)] → W p l e (zrm 1 21) s m args below meth c H locs 0 0 (MQ below (zQi G r I J) args s 0 0 (zA G)) (F0 m 4 ls []) := by
    intro n
    induction n with
    | zero =>
      intro y1 y2 H locs ls hf
      rw [f_X6_claimCount_l4] at hf
      cases hf
    | succ n ih =>
      intro y1 y2 H locs ls hf hP hS hl
      rw [f_X6_claimCount_l4] at hf
      refine lv_iload_n hx hb dX6_claimCount_4 rfl (lv_at hl 2 rfl) ?_
      refine lv_aload_n hx hb dX6_claimCount_5 rfl (lv_at hl 0 rfl) ?_
      refine x_get (j := 0) (v := .ref (G.2.1 1)) hx hb hts hi6 hown hK hP zkL_328 rfl (by decide) (hts (.fieldLink RX6 12 "LeaseOffice$Thought" "office" "LLeaseOffice$Office;") (by decide +kernel)) rfl (by decide) dX6_claimCount_6 ?_
      refine x_get (j := 6) (v := .int (I 1 6)) hx hb hts hi2 hown hK hP zkL_1 rfl (by decide) (hts (.fieldLink RX6 69 "LeaseOffice$Office" "toolCount" "I") (by decide +kernel)) rfl (by decide) dX6_claimCount_9 ?_
      refine lv_icmp_ge (tgt := 38) hx hb dX6_claimCount_12 (by decide) (fun c1 => ?_) (fun c1 => ?_)
      · have hf := zif_t c1 hf
        refine lv_iload_n hx hb dX6_claimCount_38 rfl (lv_at hl 1 rfl) ?_
        obtain rfl := Option.some.inj hf
        exact x_iret hx hb hr hlocks hK hP hS dX6_claimCount_39
      · have hf := zif_f c1 hf
        refine lv_iload_n hx hb dX6_claimCount_15 rfl (lv_at hl 1 rfl) ?_
        refine lv_aload_n hx hb dX6_claimCount_16 rfl (lv_at hl 0 rfl) ?_
        refine x_get (j := 0) (v := .ref (G.2.1 1)) hx hb hts hi6 hown hK hP zkL_328 rfl (by decide) (hts (.fieldLink RX6 12 "LeaseOffice$Thought" "office" "LLeaseOffice$Office;") (by decide +kernel)) rfl (by decide) dX6_claimCount_17 ?_
        refine lv_iload_n hx hb dX6_claimCount_20 rfl (lv_at hl 2 rfl) ?_
        obtain ⟨q2, hq2, hf⟩ := zb_e hf
        refine x_callr (x_runV (As := [.int y2]) (rest := [.int y1]) ⟨hx, hb, hml, hown, hts⟩ (c_X2_toolAt l G hG I J 1 y2 zkL_1 hq2) (cwV 1 hts gX6_claimCount_X2_toolAt rfl rfl rfl (by decide +kernel) ⟨Nat.le_of_ble_eq_true rfl, Nat.le_of_ble_eq_true rfl⟩) hK hP zkL_1 (by decide) rfl rfl hl.1 rfl (Nat.le_of_ble_eq_true rfl) dX6_claimCount_21 ⟨Nat.zero_le _, Nat.zero_le _⟩) hS (fun H locs hP hS => ?_)
        refine x_get (j := 9) (v := .ref (G.2.1 (q2 + 5))) hx hb hts hi7 hown hK hP (kd_X2_toolAt zkL_1 hq2) rfl (by decide) (hts (.fieldLink RX6 33 "LeaseOffice$Tool" "claims" "LLeaseOffice$Table;") (by decide +kernel)) rfl (by decide) dX6_claimCount_24 ?_
        obtain ⟨q3, hq3, hf⟩ := zb_e hf
        refine x_calli (x_runV (As := []) (rest := [.int y1]) ⟨hx, hb, hml, hown, hts⟩ (c_X4_size l G hG I J (q2 + 5) (zk_7_9 (kd_X2_toolAt zkL_1 hq2)) hq3) (cwV 0 hts gX6_claimCount_X4_size rfl rfl rfl (by decide +kernel) ⟨Nat.le_of_ble_eq_true rfl, Nat.le_of_ble_eq_true rfl⟩) hK hP (zk_7_9 (kd_X2_toolAt zkL_1 hq2)) (by decide) rfl rfl hl.1 rfl (Nat.le_of_ble_eq_true rfl) dX6_claimCount_27 ⟨Nat.zero_le _, Nat.zero_le _⟩) hS (fun H locs hP hS => ?_)
        refine lv_iadd hx hb dX6_claimCount_30 ?_
        obtain ⟨w4, ew4, hf⟩ := zlet_e hf
        refine z_topi ew4 ?_
        refine lv_istore_n (lv' := [(1, .int w4), (0, .ref (G.2.1 328)), (2, .int y2)]) hx hb dX6_claimCount_31 rfl hl (by decide) rfl (fun ls hl => ?_)
        refine lv_iinc (v := (y2 + 1)) (lv' := [(2, .int (y2 + 1)), (1, .int w4), (0, .ref (G.2.1 328))]) hx hb dX6_claimCount_32 hl (k := 2) rfl rfl (by decide) rfl (fun ls hl => ?_)
        refine lv_goto (tgt := 4) hx hb dX6_claimCount_35 (by decide) ?_
        exact ih w4 (y2 + 1) H locs ls hf hP hS (lv_sub hl [2, 1, 0] rfl)
  unfold f_X6_claimCount at hf
  refine lv_iconst (v := 0) hx hb dX6_claimCount_0 (by decide) ?_
  refine lv_istore_n (lv' := [(1, .int 0), (0, .ref (G.2.1 328))]) hx hb dX6_claimCount_1 rfl hl (by decide) rfl (fun ls hl => ?_)
  refine lv_iconst (v := 0) hx hb dX6_claimCount_2 (by decide) ?_
  refine lv_istore_n (lv' := [(2, .int 0), (1, .int 0), (0, .ref (G.2.1 328))]) hx hb dX6_claimCount_3 rfl hl (by decide) rfl (fun ls hl => ?_)
  exact L4 zFu 0 0 H locs ls hf hP hS (lv_sub hl [2, 1, 0] rfl)
set_option maxRecDepth 100000 in
set_option maxHeartbeats 4000000 in
theorem c_X6_feesOn (l : Launch) (G : zGT) (hG : zOK G) (I J : zM) (x1 : Int32) {r : Int32} (hf : f_X6_feesOn I x1 = some r) : Met l yX6_feesOn wsX6_feesOn (zrm 3 63) (va_Pc [.ref (G.2.1 328), .int x1] (zS G I J)) (zQi G r I J) 0 0 (zA G) := by
  refine zMet (cc := cX6_feesOn) (n := 4) (ret := (some .int)) (by decide) rfl (Nat.le_of_ble_eq_true rfl) ?_
  intro p e s m args below meth c H locs ls F hK hP hS hl
  obtain ⟨hx, hb, hr, hml, hts, hown, hlocks⟩ := F
  have hown : s.vm.findClass RX6 = some m.cls := hown
  have hl : lv_has ls 4 [(0, .ref (G.2.1 328)), (1, .int x1)] := hl
  have hi2 : ∀ w ∈ wsX20, w ∈ wsX6_feesOn := fun _ h => List.mem_cons_of_mem _ (List.mem_append_left _ (List.mem_append_right _ h))
  have hi6 : ∀ w ∈ wsX60, w ∈ wsX6_feesOn := fun _ h => List.mem_cons_of_mem _ (List.mem_append_left _ (List.mem_append_left _ (List.mem_append_right _ h)))
  have L4 : ∀ (n : Nat) (y2 : Int32) (y3 : Int32) (H : Heap) (locs : List Loc) (ls : Array Slot), f_X6_feesOn_l4 I x1 n y2 y3 = some r → va_P G.1 vwCl (zW G I J) H → va_S (zA G) s.heap H locs → lv_has ls 4 [(0, .ref (G.2.1 328)), (1, .int x1), (2, .int y2), (3, .int y3)] → W p l e (zrm 3 63) s m args below meth c H locs 0 0 (MQ below (zQi G r I J) args s 0 0 (zA G)) (F0 m 4 ls []) := by
    intro n
    induction n with
    | zero =>
      intro y2 y3 H locs ls hf
      rw [f_X6_feesOn_l4] at hf
      cases hf
    | succ n ih =>
      intro y2 y3 H locs ls hf hP hS hl
      rw [f_X6_feesOn_l4] at hf
      refine lv_iload_n hx hb dX6_feesOn_4 rfl (lv_at hl 3 rfl) ?_
      refine lv_aload_n hx hb dX6_feesOn_5 rfl (lv_at hl 0 rfl) ?_
      refine x_get (j := 0) (v := .ref (G.2.1 1)) hx hb hts hi6 hown hK hP zkL_328 rfl (by decide) (hts (.fieldLink RX6 12 "LeaseOffice$Thought" "office" "LLeaseOffice$Office;") (by decide +kernel)) rfl (by decide) dX6_feesOn_6 ?_
      refine x_get (j := 6) (v := .int (I 1 6)) hx hb hts hi2 hown hK hP zkL_1 rfl (by decide) (hts (.fieldLink RX6 69 "LeaseOffice$Office" "toolCount" "I") (by decide +kernel)) rfl (by decide) dX6_feesOn_9 ?_
      refine lv_icmp_ge (tgt := 36) hx hb dX6_feesOn_12 (by decide) (fun c1 => ?_) (fun c1 => ?_)
      · have hf := zif_t c1 hf
        refine lv_iload_n hx hb dX6_feesOn_36 rfl (lv_at hl 2 rfl) ?_
        obtain rfl := Option.some.inj hf
        exact x_iret hx hb hr hlocks hK hP hS dX6_feesOn_37
      · have hf := zif_f c1 hf
        refine lv_iload_n hx hb dX6_feesOn_15 rfl (lv_at hl 2 rfl) ?_
        refine lv_aload_n hx hb dX6_feesOn_16 rfl (lv_at hl 0 rfl) ?_
        refine x_get (j := 0) (v := .ref (G.2.1 1)) hx hb hts hi6 hown hK hP zkL_328 rfl (by decide) (hts (.fieldLink RX6 12 "LeaseOffice$Thought" "office" "LLeaseOffice$Office;") (by decide +kernel)) rfl (by decide) dX6_feesOn_17 ?_
        refine lv_iload_n hx hb dX6_feesOn_20 rfl (lv_at hl 3 rfl) ?_
        obtain ⟨q2, hq2, hf⟩ := zb_e hf
        refine x_callr (x_runV (As := [.int y3]) (rest := [.int y2]) ⟨hx, hb, hml, hown, hts⟩ (c_X2_toolAt l G hG I J 1 y3 zkL_1 hq2) (cwV 1 hts gX6_feesOn_X2_toolAt rfl rfl rfl (by decide +kernel) ⟨Nat.le_of_ble_eq_true rfl, Nat.le_of_ble_eq_true rfl⟩) hK hP zkL_1 (by decide) rfl rfl hl.1 rfl (Nat.le_of_ble_eq_true rfl) dX6_feesOn_21 ⟨Nat.zero_le _, Nat.zero_le _⟩) hS (fun H locs hP hS => ?_)
        refine lv_iload_n hx hb dX6_feesOn_24 rfl (lv_at hl 1 rfl) ?_
        obtain ⟨q3, hq3, hf⟩ := zb_e hf
        refine x_calli (x_runV (As := [.int x1]) (rest := [.int y2]) ⟨hx, hb, hml, hown, hts⟩ (c_X7_feeOn l G hG I J q2 x1 (kd_X2_toolAt zkL_1 hq2) hq3) (cwV 1 hts gX6_feesOn_X7_feeOn rfl rfl rfl (by decide +kernel) ⟨Nat.le_of_ble_eq_true rfl, Nat.le_of_ble_eq_true rfl⟩) hK hP (kd_X2_toolAt zkL_1 hq2) (by decide) rfl rfl hl.1 rfl (Nat.le_of_ble_eq_true rfl) dX6_feesOn_25 ⟨Nat.zero_le _, Nat.zero_le _⟩) hS (fun H locs hP hS => ?_)
        refine lv_iadd hx hb dX6_feesOn_28 ?_
        obtain ⟨w4, ew4, hf⟩ := zlet_e hf
        refine z_topi ew4 ?_
        refine lv_istore_n (lv' := [(2, .int w4), (0, .ref (G.2.1 328)), (1, .int x1), (3, .int y3)]) hx hb dX6_feesOn_29 rfl hl (by decide) rfl (fun ls hl => ?_)
        refine lv_iinc (v := (y3 + 1)) (lv' := [(3, .int (y3 + 1)), (2, .int w4), (0, .ref (G.2.1 328)), (1, .int x1)]) hx hb dX6_feesOn_30 hl (k := 3) rfl rfl (by decide) rfl (fun ls hl => ?_)
        refine lv_goto (tgt := 4) hx hb dX6_feesOn_33 (by decide) ?_
        exact ih w4 (y3 + 1) H locs ls hf hP hS (lv_sub hl [2, 3, 1, 0] rfl)
  unfold f_X6_feesOn at hf
  refine lv_iconst (v := 0) hx hb dX6_feesOn_0 (by decide) ?_
  refine lv_istore_n (lv' := [(2, .int 0), (0, .ref (G.2.1 328)), (1, .int x1)]) hx hb dX6_feesOn_1 rfl hl (by decide) rfl (fun ls hl => ?_)
  refine lv_iconst (v := 0) hx hb dX6_feesOn_2 (by decide) ?_
  refine lv_istore_n (lv' := [(3, .int 0), (2, .int 0), (0, .ref (G.2.1 328)), (1, .int x1)]) hx hb dX6_feesOn_3 rfl hl (by decide) rfl (fun ls hl => ?_)
  exact L4 zFu 0 0 H locs ls hf hP hS (lv_sub hl [2, 3, 1, 0] rfl)
set_option maxRecDepth 100000 in
set_option maxHeartbeats 4000000 in
theorem c_X6_leasedCount (l : Launch) (G : zGT) (hG : zOK G) (I J : zM) {r : Int32} (hf : f_X6_leasedCount I = some r) : Met l yX6_leasedCount wsX6_leasedCount (zrm 1 21) (va_Pc [.ref (G.2.1 328)] (zS G I J)) (zQi G r I J) 0 0 (zA G) := by
  refine zMet (cc := cX6_leasedCount) (n := 3) (ret := (some .int)) (by decide) rfl (Nat.le_of_ble_eq_true rfl) ?_
  intro p e s m args below meth c H locs ls F hK hP hS hl
  obtain ⟨hx, hb, hr, hml, hts, hown, hlocks⟩ := F
  have hown : s.vm.findClass RX6 = some m.cls := hown
  have hl : lv_has ls 3 [(0, .ref (G.2.1 328))] := hl
  have hi2 : ∀ w ∈ wsX20, w ∈ wsX6_leasedCount := fun _ h => List.mem_cons_of_mem _ (List.mem_append_left _ (List.mem_append_right _ h))
  have hi6 : ∀ w ∈ wsX60, w ∈ wsX6_leasedCount := fun _ h => List.mem_cons_of_mem _ (List.mem_append_left _ (List.mem_append_left _ (List.mem_append_right _ h)))
  have L4 : ∀ (n : Nat) (y1 : Int32) (y2 : Int32) (H : Heap) (locs : List Loc) (ls : Array Slot), f_X6_leasedCount_l4 I n y1 y2 = some r → va_P G.1 vwCl (zW G I J) H → va_S (zA G) s.heap H locs → lv_has ls 3 [(0, .ref (G.2.1 328)), (1, .int y1), (2, .int y2)] → W p l e (zrm 1 21) s m args below meth c H locs 0 0 (MQ below (zQi G r I J) args s 0 0 (zA G)) (F0 m 4 ls []) := by
    intro n
    induction n with
    | zero =>
      intro y1 y2 H locs ls hf
      rw [f_X6_leasedCount_l4] at hf
      cases hf
    | succ n ih =>
      intro y1 y2 H locs ls hf hP hS hl
      rw [f_X6_leasedCount_l4] at hf
      refine lv_iload_n hx hb dX6_leasedCount_4 rfl (lv_at hl 2 rfl) ?_
      refine lv_aload_n hx hb dX6_leasedCount_5 rfl (lv_at hl 0 rfl) ?_
      refine x_get (j := 0) (v := .ref (G.2.1 1)) hx hb hts hi6 hown hK hP zkL_328 rfl (by decide) (hts (.fieldLink RX6 12 "LeaseOffice$Thought" "office" "LLeaseOffice$Office;") (by decide +kernel)) rfl (by decide) dX6_leasedCount_6 ?_
      refine x_get (j := 6) (v := .int (I 1 6)) hx hb hts hi2 hown hK hP zkL_1 rfl (by decide) (hts (.fieldLink RX6 69 "LeaseOffice$Office" "toolCount" "I") (by decide +kernel)) rfl (by decide) dX6_leasedCount_9 ?_
      refine lv_icmp_ge (tgt := 38) hx hb dX6_leasedCount_12 (by decide) (fun c1 => ?_) (fun c1 => ?_)
      · have hf := zif_t c1 hf
        refine lv_iload_n hx hb dX6_leasedCount_38 rfl (lv_at hl 1 rfl) ?_
        obtain rfl := Option.some.inj hf
        exact x_iret hx hb hr hlocks hK hP hS dX6_leasedCount_39
      · have hf := zif_f c1 hf
        refine lv_aload_n hx hb dX6_leasedCount_15 rfl (lv_at hl 0 rfl) ?_
        refine x_get (j := 0) (v := .ref (G.2.1 1)) hx hb hts hi6 hown hK hP zkL_328 rfl (by decide) (hts (.fieldLink RX6 12 "LeaseOffice$Thought" "office" "LLeaseOffice$Office;") (by decide +kernel)) rfl (by decide) dX6_leasedCount_16 ?_
        refine lv_iload_n hx hb dX6_leasedCount_19 rfl (lv_at hl 2 rfl) ?_
        obtain ⟨q2, hq2, hf⟩ := zb_e hf
        refine x_callr (x_runV (As := [.int y2]) (rest := []) ⟨hx, hb, hml, hown, hts⟩ (c_X2_toolAt l G hG I J 1 y2 zkL_1 hq2) (cwV 1 hts gX6_leasedCount_X2_toolAt rfl rfl rfl (by decide +kernel) ⟨Nat.le_of_ble_eq_true rfl, Nat.le_of_ble_eq_true rfl⟩) hK hP zkL_1 (by decide) rfl rfl hl.1 rfl (Nat.le_of_ble_eq_true rfl) dX6_leasedCount_20 ⟨Nat.zero_le _, Nat.zero_le _⟩) hS (fun H locs hP hS => ?_)
        obtain ⟨q3, hq3, hf⟩ := zb_e hf
        refine x_calli (x_runV (As := []) (rest := []) ⟨hx, hb, hml, hown, hts⟩ (c_X7_isLeased l G hG I J q2 (kd_X2_toolAt zkL_1 hq2) hq3) (cwV 0 hts gX6_leasedCount_X7_isLeased rfl rfl rfl (by decide +kernel) ⟨Nat.le_of_ble_eq_true rfl, Nat.le_of_ble_eq_true rfl⟩) hK hP (kd_X2_toolAt zkL_1 hq2) (by decide) rfl rfl hl.1 rfl (Nat.le_of_ble_eq_true rfl) dX6_leasedCount_23 ⟨Nat.zero_le _, Nat.zero_le _⟩) hS (fun H locs hP hS => ?_)
        refine lv_if_eq (tgt := 32) hx hb dX6_leasedCount_26 (by decide) (fun c4 => ?_) (fun c4 => ?_)
        · have hf := zif_t c4 hf
          refine lv_iinc (v := (y2 + 1)) (lv' := [(2, .int (y2 + 1)), (0, .ref (G.2.1 328)), (1, .int y1)]) hx hb dX6_leasedCount_32 hl (k := 2) rfl rfl (by decide) rfl (fun ls hl => ?_)
          refine lv_goto (tgt := 4) hx hb dX6_leasedCount_35 (by decide) ?_
          exact ih y1 (y2 + 1) H locs ls hf hP hS (lv_sub hl [1, 2, 0] rfl)
        · have hf := zif_f c4 hf
          refine lv_iinc (v := (y1 + 1)) (lv' := [(1, .int (y1 + 1)), (0, .ref (G.2.1 328)), (2, .int y2)]) hx hb dX6_leasedCount_29 hl (k := 1) rfl rfl (by decide) rfl (fun ls hl => ?_)
          refine lv_iinc (v := (y2 + 1)) (lv' := [(2, .int (y2 + 1)), (1, .int (y1 + 1)), (0, .ref (G.2.1 328))]) hx hb dX6_leasedCount_32 hl (k := 2) rfl rfl (by decide) rfl (fun ls hl => ?_)
          refine lv_goto (tgt := 4) hx hb dX6_leasedCount_35 (by decide) ?_
          exact ih (y1 + 1) (y2 + 1) H locs ls hf hP hS (lv_sub hl [2, 1, 0] rfl)
  unfold f_X6_leasedCount at hf
  refine lv_iconst (v := 0) hx hb dX6_leasedCount_0 (by decide) ?_
  refine lv_istore_n (lv' := [(1, .int 0), (0, .ref (G.2.1 328))]) hx hb dX6_leasedCount_1 rfl hl (by decide) rfl (fun ls hl => ?_)
  refine lv_iconst (v := 0) hx hb dX6_leasedCount_2 (by decide) ?_
  refine lv_istore_n (lv' := [(2, .int 0), (1, .int 0), (0, .ref (G.2.1 328))]) hx hb dX6_leasedCount_3 rfl hl (by decide) rfl (fun ls hl => ?_)
  exact L4 zFu 0 0 H locs ls hf hP hS (lv_sub hl [2, 1, 0] rfl)
set_option maxRecDepth 100000 in
set_option maxHeartbeats 4000000 in
theorem c_X6_nextOf (l : Launch) (G : zGT) (hG : zOK G) (I J : zM) (x1 : Int32) {r : Int32} (hf : f_X6_nextOf I x1 = some r) : Met l yX6_nextOf wsX6_nextOf (zrm 2 45) (va_Pc [.ref (G.2.1 328), .int x1] (zS G I J)) (zQi G r I J) 0 0 (zA G) := by
  refine zMet (cc := cX6_nextOf) (n := 4) (ret := (some .int)) (by decide) rfl (Nat.le_of_ble_eq_true rfl) ?_
  intro p e s m args below meth c H locs ls F hK hP hS hl
  obtain ⟨hx, hb, hr, hml, hts, hown, hlocks⟩ := F
  have hown : s.vm.findClass RX6 = some m.cls := hown
  have hl : lv_has ls 4 [(0, .ref (G.2.1 328)), (1, .int x1)] := hl
  have hi6 : ∀ w ∈ wsX60, w ∈ wsX6_nextOf := fun _ h => List.mem_cons_of_mem _ (List.mem_append_left _ (List.mem_append_left _ (List.mem_append_left _ (List.mem_append_left _ (List.mem_append_right _ h)))))
  have hi7 : ∀ w ∈ wsX70, w ∈ wsX6_nextOf := fun _ h => List.mem_cons_of_mem _ (List.mem_append_left _ (List.mem_append_left _ (List.mem_append_left _ (List.mem_append_right _ h))))
  unfold f_X6_nextOf at hf
  refine lv_aload_n hx hb dX6_nextOf_0 rfl (lv_at hl 0 rfl) ?_
  refine x_get (j := 0) (v := .ref (G.2.1 1)) hx hb hts hi6 hown hK hP zkL_328 rfl (by decide) (hts (.fieldLink RX6 12 "LeaseOffice$Thought" "office" "LLeaseOffice$Office;") (by decide +kernel)) rfl (by decide) dX6_nextOf_1 ?_
  refine lv_iload_n hx hb dX6_nextOf_4 rfl (lv_at hl 1 rfl) ?_
  obtain ⟨q1, hq1, hf⟩ := zb_e hf
  refine x_callr (x_runV (As := [.int x1]) (rest := []) ⟨hx, hb, hml, hown, hts⟩ (c_X2_toolAt l G hG I J 1 x1 zkL_1 hq1) (cwV 1 hts gX6_nextOf_X2_toolAt rfl rfl rfl (by decide +kernel) ⟨Nat.le_of_ble_eq_true rfl, Nat.le_of_ble_eq_true rfl⟩) hK hP zkL_1 (by decide) rfl rfl hl.1 rfl (Nat.le_of_ble_eq_true rfl) dX6_nextOf_5 ⟨Nat.zero_le _, Nat.zero_le _⟩) hS (fun H locs hP hS => ?_)
  refine lv_astore_n (lv' := [(2, .ref (G.2.1 (q1))), (0, .ref (G.2.1 328)), (1, .int x1)]) hx hb dX6_nextOf_8 rfl hl (by decide) rfl (fun ls hl => ?_)
  refine lv_aload_n hx hb dX6_nextOf_9 rfl (lv_at hl 1 rfl) ?_
  refine x_get (j := 0) (v := .ref (G.2.1 1)) hx hb hts hi6 hown hK hP zkL_328 rfl (by decide) (hts (.fieldLink RX6 12 "LeaseOffice$Thought" "office" "LLeaseOffice$Office;") (by decide +kernel)) rfl (by decide) dX6_nextOf_10 ?_
  refine lv_aload_n hx hb dX6_nextOf_13 rfl (lv_at hl 0 rfl) ?_
  obtain ⟨q2, hq2, hf⟩ := zb_e hf
  refine x_calli (x_runV (As := [.ref (G.2.1 (q1))]) (rest := []) ⟨hx, hb, hml, hown, hts⟩ (c_X2_claimServed l G hG I J 1 q1 zkL_1 (kd_X2_toolAt zkL_1 hq1) hq2) (cwV 1 hts gX6_nextOf_X2_claimServed rfl rfl rfl (by decide +kernel) ⟨Nat.le_of_ble_eq_true rfl, Nat.le_of_ble_eq_true rfl⟩) hK hP zkL_1 (by decide) rfl rfl hl.1 rfl (Nat.le_of_ble_eq_true rfl) dX6_nextOf_14 ⟨Nat.zero_le _, Nat.zero_le _⟩) hS (fun H locs hP hS => ?_)
  refine lv_istore_n (lv' := [(3, .int q2), (2, .ref (G.2.1 (q1))), (0, .ref (G.2.1 328)), (1, .int x1)]) hx hb dX6_nextOf_17 rfl hl (by decide) rfl (fun ls hl => ?_)
  refine lv_iload_n hx hb dX6_nextOf_18 rfl (lv_at hl 0 rfl) ?_
  refine lv_if_ge (tgt := 27) hx hb dX6_nextOf_19 (by decide) (fun c3 => ?_) (fun c3 => ?_)
  · have hf := zif_t c3 hf
    refine lv_aload_n hx hb dX6_nextOf_27 rfl (lv_at hl 1 rfl) ?_
    refine x_get (j := 9) (v := .ref (G.2.1 (q1 + 5))) hx hb hts hi7 hown hK hP (kd_X2_toolAt zkL_1 hq1) rfl (by decide) (hts (.fieldLink RX6 33 "LeaseOffice$Tool" "claims" "LLeaseOffice$Table;") (by decide +kernel)) rfl (by decide) dX6_nextOf_28 ?_
    refine lv_iload_n hx hb dX6_nextOf_31 rfl (lv_at hl 0 rfl) ?_
    refine lv_iconst (v := 0) hx hb dX6_nextOf_32 (by decide) ?_
    obtain ⟨q4, hq4, hf⟩ := zb_e hf
    refine x_calli (x_runV (As := [.int q2, .int 0]) (rest := []) ⟨hx, hb, hml, hown, hts⟩ (c_X4_cell l G hG I J (q1 + 5) q2 0 (zk_7_9 (kd_X2_toolAt zkL_1 hq1)) hq4) (cwV 2 hts gX6_nextOf_X4_cell rfl rfl rfl (by decide +kernel) ⟨Nat.le_of_ble_eq_true rfl, Nat.le_of_ble_eq_true rfl⟩) hK hP (zk_7_9 (kd_X2_toolAt zkL_1 hq1)) (by decide) rfl rfl hl.1 rfl (Nat.le_of_ble_eq_true rfl) dX6_nextOf_33 ⟨Nat.zero_le _, Nat.zero_le _⟩) hS (fun H locs hP hS => ?_)
    obtain rfl := Option.some.inj hf
    exact x_iret hx hb hr hlocks hK hP hS dX6_nextOf_36
  · have hf := zif_f c3 hf
    refine lv_bipush (v := (-2)) hx hb dX6_nextOf_22 (by decide) ?_
    refine lv_goto (tgt := 36) hx hb dX6_nextOf_24 (by decide) ?_
    obtain rfl := Option.some.inj hf
    exact x_iret hx hb hr hlocks hK hP hS dX6_nextOf_36
set_option maxRecDepth 100000 in
set_option maxHeartbeats 4000000 in
theorem c_X6_wishesMore (l : Launch) (G : zGT) (hG : zOK G) (I J : zM) (x1 : Int32) (x2 : Int32) {r : Int32} (hf : f_X6_wishesMore I x1 x2 = some r) : Met l yX6_wishesMore wsX6_wishesMore (zrm 2 44) (va_Pc [.ref (G.2.1 328), .int x1, .int x2] (zS G I J)) (zQi G r I J) 0 0 (zA G) := by
  refine zMet (cc := cX6_wishesMore) (n := 3) (ret := (some .boolean)) (by decide) rfl (Nat.le_of_ble_eq_true rfl) ?_
  intro p e s m args below meth c H locs ls F hK hP hS hl
  obtain ⟨hx, hb, hr, hml, hts, hown, hlocks⟩ := F
  have hown : s.vm.findClass RX6 = some m.cls := hown
  have hl : lv_has ls 3 [(0, .ref (G.2.1 328)), (1, .int x1), (2, .int x2)] := hl
  have hi6 : ∀ w ∈ wsX60, w ∈ wsX6_wishesMore := fun _ h => List.mem_cons_of_mem _ (List.mem_append_left _ (List.mem_append_left _ (List.mem_append_left _ (List.mem_append_right _ h))))
  unfold f_X6_wishesMore at hf
  refine lv_aload_n hx hb dX6_wishesMore_0 rfl (lv_at hl 0 rfl) ?_
  refine x_get (j := 0) (v := .ref (G.2.1 1)) hx hb hts hi6 hown hK hP zkL_328 rfl (by decide) (hts (.fieldLink RX6 12 "LeaseOffice$Thought" "office" "LLeaseOffice$Office;") (by decide +kernel)) rfl (by decide) dX6_wishesMore_1 ?_
  refine lv_iload_n hx hb dX6_wishesMore_4 rfl (lv_at hl 1 rfl) ?_
  refine lv_iload_n hx hb dX6_wishesMore_5 rfl (lv_at hl 2 rfl) ?_
  obtain ⟨q1, hq1, hf⟩ := zb_e hf
  refine x_calli (x_runV (As := [.int x1, .int x2]) (rest := []) ⟨hx, hb, hml, hown, hts⟩ (c_X2_haveTwoHolders l G hG I J 1 x1 x2 zkL_1 hq1) (cwV 2 hts gX6_wishesMore_X2_haveTwoHolders rfl rfl rfl (by decide +kernel) ⟨Nat.le_of_ble_eq_true rfl, Nat.le_of_ble_eq_true rfl⟩) hK hP zkL_1 (by decide) rfl rfl hl.1 rfl (Nat.le_of_ble_eq_true rfl) dX6_wishesMore_6 ⟨Nat.zero_le _, Nat.zero_le _⟩) hS (fun H locs hP hS => ?_)
  refine lv_if_eq (tgt := 28) hx hb dX6_wishesMore_9 (by decide) (fun c2 => ?_) (fun c2 => ?_)
  · have hf := zif_t c2 hf
    refine lv_iconst (v := 0) hx hb dX6_wishesMore_28 (by decide) ?_
    obtain rfl := Option.some.inj hf
    exact x_zret (v := 0) rfl hx hb hr hlocks hK hP hS dX6_wishesMore_29
  · have hf := zif_f c2 hf
    refine lv_aload_n hx hb dX6_wishesMore_12 rfl (lv_at hl 0 rfl) ?_
    refine x_get (j := 0) (v := .ref (G.2.1 1)) hx hb hts hi6 hown hK hP zkL_328 rfl (by decide) (hts (.fieldLink RX6 12 "LeaseOffice$Thought" "office" "LLeaseOffice$Office;") (by decide +kernel)) rfl (by decide) dX6_wishesMore_13 ?_
    refine lv_iload_n hx hb dX6_wishesMore_16 rfl (lv_at hl 1 rfl) ?_
    refine lv_iload_n hx hb dX6_wishesMore_17 rfl (lv_at hl 2 rfl) ?_
    obtain ⟨q3, hq3, hf⟩ := zb_e hf
    refine x_calli (x_runV (As := [.int x1, .int x2]) (rest := []) ⟨hx, hb, hml, hown, hts⟩ (c_X2_riseOf l G hG I J 1 x1 x2 zkL_1 hq3) (cwV 2 hts gX6_wishesMore_X2_riseOf rfl rfl rfl (by decide +kernel) ⟨Nat.le_of_ble_eq_true rfl, Nat.le_of_ble_eq_true rfl⟩) hK hP zkL_1 (by decide) rfl rfl hl.1 rfl (Nat.le_of_ble_eq_true rfl) dX6_wishesMore_18 ⟨Nat.zero_le _, Nat.zero_le _⟩) hS (fun H locs hP hS => ?_)
    refine lv_if_le (tgt := 28) hx hb dX6_wishesMore_21 (by decide) (fun c4 => ?_) (fun c4 => ?_)
    · have hf := zif_t c4 hf
      refine lv_iconst (v := 0) hx hb dX6_wishesMore_28 (by decide) ?_
      obtain rfl := Option.some.inj hf
      exact x_zret (v := 0) rfl hx hb hr hlocks hK hP hS dX6_wishesMore_29
    · have hf := zif_f c4 hf
      refine lv_iconst (v := 1) hx hb dX6_wishesMore_24 (by decide) ?_
      refine lv_goto (tgt := 29) hx hb dX6_wishesMore_25 (by decide) ?_
      obtain rfl := Option.some.inj hf
      exact x_zret (v := 1) rfl hx hb hr hlocks hK hP hS dX6_wishesMore_29
set_option maxRecDepth 100000 in
set_option maxHeartbeats 4000000 in
theorem c_X6_ringsOver (l : Launch) (G : zGT) (hG : zOK G) (I J : zM) (x1 : Int32) (x2 : Int32) {r : Int32} (hf : f_X6_ringsOver I x1 x2 = some r) : Met l yX6_ringsOver wsX6_ringsOver (zrm 3 66) (va_Pc [.ref (G.2.1 328), .int x1, .int x2] (zS G I J)) (zQi G r I J) 0 0 (zA G) := by
  refine zMet (cc := cX6_ringsOver) (n := 5) (ret := (some .int)) (by decide) rfl (Nat.le_of_ble_eq_true rfl) ?_
  intro p e s m args below meth c H locs ls F hK hP hS hl
  obtain ⟨hx, hb, hr, hml, hts, hown, hlocks⟩ := F
  have hown : s.vm.findClass RX6 = some m.cls := hown
  have hl : lv_has ls 5 [(0, .ref (G.2.1 328)), (1, .int x1), (2, .int x2)] := hl
  have hi2 : ∀ w ∈ wsX20, w ∈ wsX6_ringsOver := fun _ h => List.mem_cons_of_mem _ (List.mem_append_left _ (List.mem_append_left _ (List.mem_append_right _ h)))
  have hi6 : ∀ w ∈ wsX60, w ∈ wsX6_ringsOver := fun _ h => List.mem_cons_of_mem _ (List.mem_append_left _ (List.mem_append_left _ (List.mem_append_left _ (List.mem_append_right _ h))))
  have L7 : ∀ (n : Nat) (y3 : Int32) (y4 : Int32) (H : Heap) (locs : List Loc) (ls : Array Slot), f_X6_ringsOver_l7 I x1 x2 n y3 y4 = some r → va_P G.1 vwCl (zW G I J) H → va_S (zA G) s.heap H locs → lv_has ls 5 [(0, .ref (G.2.1 328)), (1, .int x1), (2, .int x2), (3, .int y3), (4, .int y4)] → W p l e (zrm 3 66) s m args below meth c H locs 0 0 (MQ below (zQi G r I J) args s 0 0 (zA G)) (F0 m 7 ls []) := by
    intro n
    induction n with
    | zero =>
      intro y3 y4 H locs ls hf
      rw [f_X6_ringsOver_l7] at hf
      cases hf
    | succ n ih =>
      intro y3 y4 H locs ls hf hP hS hl
      rw [f_X6_ringsOver_l7] at hf
      refine lv_iload hx hb dX6_ringsOver_7 (lv_at hl 4 rfl) ?_
      refine lv_aload_n hx hb dX6_ringsOver_9 rfl (lv_at hl 0 rfl) ?_
      refine x_get (j := 0) (v := .ref (G.2.1 1)) hx hb hts hi6 hown hK hP zkL_328 rfl (by decide) (hts (.fieldLink RX6 12 "LeaseOffice$Thought" "office" "LLeaseOffice$Office;") (by decide +kernel)) rfl (by decide) dX6_ringsOver_10 ?_
      refine x_get (j := 6) (v := .int (I 1 6)) hx hb hts hi2 hown hK hP zkL_1 rfl (by decide) (hts (.fieldLink RX6 69 "LeaseOffice$Office" "toolCount" "I") (by decide +kernel)) rfl (by decide) dX6_ringsOver_13 ?_
      refine lv_icmp_ge (tgt := 48) hx hb dX6_ringsOver_16 (by decide) (fun c2 => ?_) (fun c2 => ?_)
      · have hf := zif_t c2 hf
        refine lv_iload_n hx hb dX6_ringsOver_48 rfl (lv_at hl 3 rfl) ?_
        obtain rfl := Option.some.inj hf
        exact x_iret hx hb hr hlocks hK hP hS dX6_ringsOver_49
      · have hf := zif_f c2 hf
        refine lv_aload_n hx hb dX6_ringsOver_19 rfl (lv_at hl 0 rfl) ?_
        refine lv_iload_n hx hb dX6_ringsOver_20 rfl (lv_at hl 2 rfl) ?_
        refine lv_iload hx hb dX6_ringsOver_21 (lv_at hl 4 rfl) ?_
        obtain ⟨q3, hq3, hf⟩ := zb_e hf
        refine x_calli (x_runV (As := [.int x2, .int y4]) (rest := []) ⟨hx, hb, hml, hown, hts⟩ (c_X6_wishesMore l G hG I J x2 y4 hq3) (cwV 2 hts gX6_ringsOver_X6_wishesMore rfl rfl rfl (by decide +kernel) ⟨Nat.le_of_ble_eq_true rfl, Nat.le_of_ble_eq_true rfl⟩) hK hP zkL_328 (by decide) rfl rfl hl.1 rfl (Nat.le_of_ble_eq_true rfl) dX6_ringsOver_23 ⟨Nat.zero_le _, Nat.zero_le _⟩) hS (fun H locs hP hS => ?_)
        refine lv_if_eq (tgt := 42) hx hb dX6_ringsOver_26 (by decide) (fun c4 => ?_) (fun c4 => ?_)
        · have hf := zif_t c4 hf
          refine lv_iinc (v := (y4 + 1)) (lv' := [(4, .int (y4 + 1)), (0, .ref (G.2.1 328)), (1, .int x1), (2, .int x2), (3, .int y3)]) hx hb dX6_ringsOver_42 hl (k := 4) rfl rfl (by decide) rfl (fun ls hl => ?_)
          refine lv_goto (tgt := 7) hx hb dX6_ringsOver_45 (by decide) ?_
          exact ih y3 (y4 + 1) H locs ls hf hP hS (lv_sub hl [1, 2, 3, 4, 0] rfl)
        · have hf := zif_f c4 hf
          refine lv_aload_n hx hb dX6_ringsOver_29 rfl (lv_at hl 0 rfl) ?_
          refine lv_iload hx hb dX6_ringsOver_30 (lv_at hl 4 rfl) ?_
          refine lv_iload_n hx hb dX6_ringsOver_32 rfl (lv_at hl 1 rfl) ?_
          obtain ⟨q5, hq5, hf⟩ := zb_e hf
          refine x_calli (x_runV (As := [.int y4, .int x1]) (rest := []) ⟨hx, hb, hml, hown, hts⟩ (c_X6_wishesMore l G hG I J y4 x1 hq5) (cwV 2 hts gX6_ringsOver_X6_wishesMore rfl rfl rfl (by decide +kernel) ⟨Nat.le_of_ble_eq_true rfl, Nat.le_of_ble_eq_true rfl⟩) hK hP zkL_328 (by decide) rfl rfl hl.1 rfl (Nat.le_of_ble_eq_true rfl) dX6_ringsOver_33 ⟨Nat.zero_le _, Nat.zero_le _⟩) hS (fun H locs hP hS => ?_)
          refine lv_if_eq (tgt := 42) hx hb dX6_ringsOver_36 (by decide) (fun c6 => ?_) (fun c6 => ?_)
          · have hf := zif_t c6 hf
            refine lv_iinc (v := (y4 + 1)) (lv' := [(4, .int (y4 + 1)), (0, .ref (G.2.1 328)), (1, .int x1), (2, .int x2), (3, .int y3)]) hx hb dX6_ringsOver_42 hl (k := 4) rfl rfl (by decide) rfl (fun ls hl => ?_)
            refine lv_goto (tgt := 7) hx hb dX6_ringsOver_45 (by decide) ?_
            exact ih y3 (y4 + 1) H locs ls hf hP hS (lv_sub hl [1, 2, 3, 4, 0] rfl)
          · have hf := zif_f c6 hf
            refine lv_iinc (v := (y3 + 1)) (lv' := [(3, .int (y3 + 1)), (0, .ref (G.2.1 328)), (1, .int x1), (2, .int x2), (4, .int y4)]) hx hb dX6_ringsOver_39 hl (k := 3) rfl rfl (by decide) rfl (fun ls hl => ?_)
            refine lv_iinc (v := (y4 + 1)) (lv' := [(4, .int (y4 + 1)), (3, .int (y3 + 1)), (0, .ref (G.2.1 328)), (1, .int x1), (2, .int x2)]) hx hb dX6_ringsOver_42 hl (k := 4) rfl rfl (by decide) rfl (fun ls hl => ?_)
            refine lv_goto (tgt := 7) hx hb dX6_ringsOver_45 (by decide) ?_
            exact ih (y3 + 1) (y4 + 1) H locs ls hf hP hS (lv_sub hl [2, 3, 4, 1, 0] rfl)
  unfold f_X6_ringsOver at hf
  refine lv_iconst (v := 0) hx hb dX6_ringsOver_0 (by decide) ?_
  refine lv_istore_n (lv' := [(3, .int 0), (0, .ref (G.2.1 328)), (1, .int x1), (2, .int x2)]) hx hb dX6_ringsOver_1 rfl hl (by decide) rfl (fun ls hl => ?_)
  refine lv_iload_n hx hb dX6_ringsOver_2 rfl (lv_at hl 2 rfl) ?_
  refine lv_iconst (v := 1) hx hb dX6_ringsOver_3 (by decide) ?_
  refine lv_iadd hx hb dX6_ringsOver_4 ?_
  obtain ⟨w1, ew1, hf⟩ := zlet_e hf
  refine z_topi ew1 ?_
  refine lv_istore (lv' := [(4, .int w1), (3, .int 0), (0, .ref (G.2.1 328)), (1, .int x1), (2, .int x2)]) hx hb dX6_ringsOver_5 hl (by decide) rfl (fun ls hl => ?_)
  exact L7 zFu 0 w1 H locs ls hf hP hS (lv_sub hl [2, 3, 4, 1, 0] rfl)
set_option maxRecDepth 100000 in
set_option maxHeartbeats 4000000 in
theorem c_X6_ringsNow (l : Launch) (G : zGT) (hG : zOK G) (I J : zM) {r : Int32} (hf : f_X6_ringsNow I = some r) : Met l yX6_ringsNow wsX6_ringsNow (zrm 4 90) (va_Pc [.ref (G.2.1 328)] (zS G I J)) (zQi G r I J) 0 0 (zA G) := by
  refine zMet (cc := cX6_ringsNow) (n := 4) (ret := (some .int)) (by decide) rfl (Nat.le_of_ble_eq_true rfl) ?_
  intro p e s m args below meth c H locs ls F hK hP hS hl
  obtain ⟨hx, hb, hr, hml, hts, hown, hlocks⟩ := F
  have hown : s.vm.findClass RX6 = some m.cls := hown
  have hl : lv_has ls 4 [(0, .ref (G.2.1 328))] := hl
  have hi2 : ∀ w ∈ wsX20, w ∈ wsX6_ringsNow := fun _ h => List.mem_cons_of_mem _ (List.mem_append_left _ (List.mem_append_left _ (List.mem_append_right _ h)))
  have hi6 : ∀ w ∈ wsX60, w ∈ wsX6_ringsNow := fun _ h => List.mem_cons_of_mem _ (List.mem_append_left _ (List.mem_append_left _ (List.mem_append_left _ (List.mem_append_right _ h))))
  have L19 : ∀ (y2 : Int32) (K : Int32 → Option (Int32)) (hKK : ∀ (z1 : Int32) (H : Heap) (locs : List Loc) (ls : Array Slot), K z1 = some r → va_P G.1 vwCl (zW G I J) H → va_S (zA G) s.heap H locs → lv_has ls 4 [(0, .ref (G.2.1 328)), (1, .int z1), (2, .int y2)] → W p l e (zrm 4 90) s m args below meth c H locs 0 0 (MQ below (zQi G r I J) args s 0 0 (zA G)) (F0 m 54 ls [])) (n : Nat) (y1 : Int32) (y3 : Int32) (H : Heap) (locs : List Loc) (ls : Array Slot), f_X6_ringsNow_l19 I y2 K n y1 y3 = some r → va_P G.1 vwCl (zW G I J) H → va_S (zA G) s.heap H locs → lv_has ls 4 [(0, .ref (G.2.1 328)), (1, .int y1), (2, .int y2), (3, .int y3)] → W p l e (zrm 4 90) s m args below meth c H locs 0 0 (MQ below (zQi G r I J) args s 0 0 (zA G)) (F0 m 19 ls []) := by
    intro y2 K hKK n
    induction n with
    | zero =>
      intro y1 y3 H locs ls hf
      rw [f_X6_ringsNow_l19] at hf
      cases hf
    | succ n ih =>
      intro y1 y3 H locs ls hf hP hS hl
      rw [f_X6_ringsNow_l19] at hf
      refine lv_iload_n hx hb dX6_ringsNow_19 rfl (lv_at hl 3 rfl) ?_
      refine lv_aload_n hx hb dX6_ringsNow_20 rfl (lv_at hl 0 rfl) ?_
      refine x_get (j := 0) (v := .ref (G.2.1 1)) hx hb hts hi6 hown hK hP zkL_328 rfl (by decide) (hts (.fieldLink RX6 12 "LeaseOffice$Thought" "office" "LLeaseOffice$Office;") (by decide +kernel)) rfl (by decide) dX6_ringsNow_21 ?_
      refine x_get (j := 6) (v := .int (I 1 6)) hx hb hts hi2 hown hK hP zkL_1 rfl (by decide) (hts (.fieldLink RX6 69 "LeaseOffice$Office" "toolCount" "I") (by decide +kernel)) rfl (by decide) dX6_ringsNow_24 ?_
      refine lv_icmp_ge (tgt := 54) hx hb dX6_ringsNow_27 (by decide) (fun c3 => ?_) (fun c3 => ?_)
      · have hf := zif_t c3 hf
        exact hKK y1 H locs ls hf hP hS (lv_sub hl [0, 1, 2] rfl)
      · have hf := zif_f c3 hf
        refine lv_aload_n hx hb dX6_ringsNow_30 rfl (lv_at hl 0 rfl) ?_
        refine lv_iload_n hx hb dX6_ringsNow_31 rfl (lv_at hl 2 rfl) ?_
        refine lv_iload_n hx hb dX6_ringsNow_32 rfl (lv_at hl 3 rfl) ?_
        obtain ⟨q4, hq4, hf⟩ := zb_e hf
        refine x_calli (x_runV (As := [.int y2, .int y3]) (rest := []) ⟨hx, hb, hml, hown, hts⟩ (c_X6_wishesMore l G hG I J y2 y3 hq4) (cwV 2 hts gX6_ringsNow_X6_wishesMore rfl rfl rfl (by decide +kernel) ⟨Nat.le_of_ble_eq_true rfl, Nat.le_of_ble_eq_true rfl⟩) hK hP zkL_328 (by decide) rfl rfl hl.1 rfl (Nat.le_of_ble_eq_true rfl) dX6_ringsNow_33 ⟨Nat.zero_le _, Nat.zero_le _⟩) hS (fun H locs hP hS => ?_)
        refine lv_if_eq (tgt := 48) hx hb dX6_ringsNow_36 (by decide) (fun c5 => ?_) (fun c5 => ?_)
        · have hf := zif_t c5 hf
          refine lv_iinc (v := (y3 + 1)) (lv' := [(3, .int (y3 + 1)), (0, .ref (G.2.1 328)), (1, .int y1), (2, .int y2)]) hx hb dX6_ringsNow_48 hl (k := 3) rfl rfl (by decide) rfl (fun ls hl => ?_)
          refine lv_goto (tgt := 19) hx hb dX6_ringsNow_51 (by decide) ?_
          exact ih y1 (y3 + 1) H locs ls hf hP hS (lv_sub hl [1, 2, 3, 0] rfl)
        · have hf := zif_f c5 hf
          refine lv_iload_n hx hb dX6_ringsNow_39 rfl (lv_at hl 1 rfl) ?_
          refine lv_aload_n hx hb dX6_ringsNow_40 rfl (lv_at hl 0 rfl) ?_
          refine lv_iload_n hx hb dX6_ringsNow_41 rfl (lv_at hl 2 rfl) ?_
          refine lv_iload_n hx hb dX6_ringsNow_42 rfl (lv_at hl 3 rfl) ?_
          obtain ⟨q6, hq6, hf⟩ := zb_e hf
          refine x_calli (x_runV (As := [.int y2, .int y3]) (rest := [.int y1]) ⟨hx, hb, hml, hown, hts⟩ (c_X6_ringsOver l G hG I J y2 y3 hq6) (cwV 2 hts gX6_ringsNow_X6_ringsOver rfl rfl rfl (by decide +kernel) ⟨Nat.le_of_ble_eq_true rfl, Nat.le_of_ble_eq_true rfl⟩) hK hP zkL_328 (by decide) rfl rfl hl.1 rfl (Nat.le_of_ble_eq_true rfl) dX6_ringsNow_43 ⟨Nat.zero_le _, Nat.zero_le _⟩) hS (fun H locs hP hS => ?_)
          refine lv_iadd hx hb dX6_ringsNow_46 ?_
          obtain ⟨w7, ew7, hf⟩ := zlet_e hf
          refine z_topi ew7 ?_
          refine lv_istore_n (lv' := [(1, .int w7), (0, .ref (G.2.1 328)), (2, .int y2), (3, .int y3)]) hx hb dX6_ringsNow_47 rfl hl (by decide) rfl (fun ls hl => ?_)
          refine lv_iinc (v := (y3 + 1)) (lv' := [(3, .int (y3 + 1)), (1, .int w7), (0, .ref (G.2.1 328)), (2, .int y2)]) hx hb dX6_ringsNow_48 hl (k := 3) rfl rfl (by decide) rfl (fun ls hl => ?_)
          refine lv_goto (tgt := 19) hx hb dX6_ringsNow_51 (by decide) ?_
          exact ih w7 (y3 + 1) H locs ls hf hP hS (lv_sub hl [2, 1, 3, 0] rfl)
  have L4 : ∀ (n : Nat) (y1 : Int32) (y2 : Int32) (H : Heap) (locs : List Loc) (ls : Array Slot), f_X6_ringsNow_l4 I n y1 y2 = some r → va_P G.1 vwCl (zW G I J) H → va_S (zA G) s.heap H locs → lv_has ls 4 [(0, .ref (G.2.1 328)), (1, .int y1), (2, .int y2)] → W p l e (zrm 4 90) s m args below meth c H locs 0 0 (MQ below (zQi G r I J) args s 0 0 (zA G)) (F0 m 4 ls []) := by
    intro n
    induction n with
    | zero =>
      intro y1 y2 H locs ls hf
      rw [f_X6_ringsNow_l4] at hf
      cases hf
    | succ n ih =>
      intro y1 y2 H locs ls hf hP hS hl
      rw [f_X6_ringsNow_l4] at hf
      refine lv_iload_n hx hb dX6_ringsNow_4 rfl (lv_at hl 2 rfl) ?_
      refine lv_aload_n hx hb dX6_ringsNow_5 rfl (lv_at hl 0 rfl) ?_
      refine x_get (j := 0) (v := .ref (G.2.1 1)) hx hb hts hi6 hown hK hP zkL_328 rfl (by decide) (hts (.fieldLink RX6 12 "LeaseOffice$Thought" "office" "LLeaseOffice$Office;") (by decide +kernel)) rfl (by decide) dX6_ringsNow_6 ?_
      refine x_get (j := 6) (v := .int (I 1 6)) hx hb hts hi2 hown hK hP zkL_1 rfl (by decide) (hts (.fieldLink RX6 69 "LeaseOffice$Office" "toolCount" "I") (by decide +kernel)) rfl (by decide) dX6_ringsNow_9 ?_
      refine lv_icmp_ge (tgt := 60) hx hb dX6_ringsNow_12 (by decide) (fun c1 => ?_) (fun c1 => ?_)
      · have hf := zif_t c1 hf
        refine lv_iload_n hx hb dX6_ringsNow_60 rfl (lv_at hl 1 rfl) ?_
        obtain rfl := Option.some.inj hf
        exact x_iret hx hb hr hlocks hK hP hS dX6_ringsNow_61
      · have hf := zif_f c1 hf
        refine lv_iload_n hx hb dX6_ringsNow_15 rfl (lv_at hl 2 rfl) ?_
        refine lv_iconst (v := 1) hx hb dX6_ringsNow_16 (by decide) ?_
        refine lv_iadd hx hb dX6_ringsNow_17 ?_
        obtain ⟨w2, ew2, hf⟩ := zlet_e hf
        refine z_topi ew2 ?_
        refine lv_istore_n (lv' := [(3, .int w2), (0, .ref (G.2.1 328)), (1, .int y1), (2, .int y2)]) hx hb dX6_ringsNow_18 rfl hl (by decide) rfl (fun ls hl => ?_)
        refine L19 y2 _ (fun z8 H locs ls hf hP hS hl => ?_) zFu y1 w2 H locs ls hf hP hS (lv_sub hl [1, 2, 3, 0] rfl)
        refine lv_iinc (v := (y2 + 1)) (lv' := [(2, .int (y2 + 1)), (0, .ref (G.2.1 328)), (1, .int z8)]) hx hb dX6_ringsNow_54 hl (k := 2) rfl rfl (by decide) rfl (fun ls hl => ?_)
        refine lv_goto (tgt := 4) hx hb dX6_ringsNow_57 (by decide) ?_
        exact ih z8 (y2 + 1) H locs ls hf hP hS (lv_sub hl [1, 2, 0] rfl)
  unfold f_X6_ringsNow at hf
  refine lv_iconst (v := 0) hx hb dX6_ringsNow_0 (by decide) ?_
  refine lv_istore_n (lv' := [(1, .int 0), (0, .ref (G.2.1 328))]) hx hb dX6_ringsNow_1 rfl hl (by decide) rfl (fun ls hl => ?_)
  refine lv_iconst (v := 0) hx hb dX6_ringsNow_2 (by decide) ?_
  refine lv_istore_n (lv' := [(2, .int 0), (1, .int 0), (0, .ref (G.2.1 328))]) hx hb dX6_ringsNow_3 rfl hl (by decide) rfl (fun ls hl => ?_)
  exact L4 zFu 0 0 H locs ls hf hP hS (lv_sub hl [2, 1, 0] rfl)
set_option maxRecDepth 100000 in
set_option maxHeartbeats 4000000 in
theorem c_X6_shareOf (l : Launch) (G : zGT) (hG : zOK G) (I J : zM) (x1 : Int32) (x2 : Int32) {r : Int32 × zM} (hf : f_X6_shareOf I x1 x2 = some r) : Met l yX6_shareOf wsX6_shareOf (zrm 3 70) (va_Pc [.ref (G.2.1 328), .int x1, .int x2] (zS G I J)) (zQi G r.1 r.2 J) 0 0 (zA G) := by
  refine zMet (cc := cX6_shareOf) (n := 4) (ret := (some .int)) (by decide) rfl (Nat.le_of_ble_eq_true rfl) ?_
  intro p e s m args below meth c H locs ls F hK hP hS hl
  obtain ⟨hx, hb, hr, hml, hts, hown, hlocks⟩ := F
  have hown : s.vm.findClass RX6 = some m.cls := hown
  have hl : lv_has ls 4 [(0, .ref (G.2.1 328)), (1, .int x1), (2, .int x2)] := hl
  have hi6 : ∀ w ∈ wsX60, w ∈ wsX6_shareOf := fun _ h => List.mem_cons_of_mem _ (List.mem_append_left _ (List.mem_append_left _ (List.mem_append_left _ (List.mem_append_left _ (List.mem_append_right _ h)))))
  unfold f_X6_shareOf at hf
  refine lv_aload_n hx hb dX6_shareOf_0 rfl (lv_at hl 0 rfl) ?_
  refine x_get (j := 0) (v := .ref (G.2.1 1)) hx hb hts hi6 hown hK hP zkL_328 rfl (by decide) (hts (.fieldLink RX6 12 "LeaseOffice$Thought" "office" "LLeaseOffice$Office;") (by decide +kernel)) rfl (by decide) dX6_shareOf_1 ?_
  refine lv_iload_n hx hb dX6_shareOf_4 rfl (lv_at hl 1 rfl) ?_
  obtain ⟨q1, hq1, hf⟩ := zb_e hf
  refine x_callr (x_runV (As := [.int x1]) (rest := []) ⟨hx, hb, hml, hown, hts⟩ (c_X2_toolAt l G hG I J 1 x1 zkL_1 hq1) (cwV 1 hts gX6_shareOf_X2_toolAt rfl rfl rfl (by decide +kernel) ⟨Nat.le_of_ble_eq_true rfl, Nat.le_of_ble_eq_true rfl⟩) hK hP zkL_1 (by decide) rfl rfl hl.1 rfl (Nat.le_of_ble_eq_true rfl) dX6_shareOf_5 ⟨Nat.zero_le _, Nat.zero_le _⟩) hS (fun H locs hP hS => ?_)
  refine lv_astore_n (lv' := [(3, .ref (G.2.1 (q1))), (0, .ref (G.2.1 328)), (1, .int x1), (2, .int x2)]) hx hb dX6_shareOf_8 rfl hl (by decide) rfl (fun ls hl => ?_)
  refine lv_aload_n hx hb dX6_shareOf_9 rfl (lv_at hl 1 rfl) ?_
  refine x_get (j := 1) (v := .ref (G.2.1 329)) hx hb hts hi6 hown hK hP zkL_328 rfl (by decide) (hts (.fieldLink RX6 21 "LeaseOffice$Thought" "blame" "LLeaseOffice$Blame;") (by decide +kernel)) rfl (by decide) dX6_shareOf_10 ?_
  refine lv_aload_n hx hb dX6_shareOf_13 rfl (lv_at hl 0 rfl) ?_
  obtain ⟨q2, hq2, hf⟩ := zb_e hf
  refine x_callv (x_runV (As := [.ref (G.2.1 (q1))]) (rest := []) ⟨hx, hb, hml, hown, hts⟩ (c_X0_findFor l G hG I J 329 q1 zkL_329 (kd_X2_toolAt zkL_1 hq1) hq2) (cwV 1 hts gX6_shareOf_X0_findFor rfl rfl rfl (by decide +kernel) ⟨Nat.le_of_ble_eq_true rfl, Nat.le_of_ble_eq_true rfl⟩) hK hP zkL_329 (by decide) rfl rfl hl.1 rfl (Nat.le_of_ble_eq_true rfl) dX6_shareOf_14 ⟨Nat.zero_le _, Nat.zero_le _⟩) hS (fun H locs hP hS => ?_)
  refine lv_aload_n hx hb dX6_shareOf_17 rfl (lv_at hl 1 rfl) ?_
  refine x_get (j := 1) (v := .ref (G.2.1 329)) hx hb hts hi6 hown hK hP zkL_328 rfl (by decide) (hts (.fieldLink RX6 21 "LeaseOffice$Thought" "blame" "LLeaseOffice$Blame;") (by decide +kernel)) rfl (by decide) dX6_shareOf_18 ?_
  refine lv_iload_n hx hb dX6_shareOf_21 rfl (lv_at hl 3 rfl) ?_
  refine lv_aload_n hx hb dX6_shareOf_22 rfl (lv_at hl 0 rfl) ?_
  obtain ⟨q3, hq3, hf⟩ := zb_e hf
  refine x_calli (x_runV (As := []) (rest := [.int x2, .ref (G.2.1 329)]) ⟨hx, hb, hml, hown, hts⟩ (c_X7_cost l G hG q2 J q1 (kd_X2_toolAt zkL_1 hq1) hq3) (cwV 0 hts gX6_shareOf_X7_cost rfl rfl rfl (by decide +kernel) ⟨Nat.le_of_ble_eq_true rfl, Nat.le_of_ble_eq_true rfl⟩) hK hP (kd_X2_toolAt zkL_1 hq1) (by decide) rfl rfl hl.1 rfl (Nat.le_of_ble_eq_true rfl) dX6_shareOf_23 ⟨Nat.zero_le _, Nat.zero_le _⟩) hS (fun H locs hP hS => ?_)
  obtain ⟨q4, hq4, hf⟩ := zb_e hf
  refine x_calli (x_runV (As := [.int x2, .int q3]) (rest := []) ⟨hx, hb, hml, hown, hts⟩ (c_X0_shareOf l G hG q2 J 329 x2 q3 zkL_329 hq4) (cwV 2 hts gX6_shareOf_X0_shareOf rfl rfl rfl (by decide +kernel) ⟨Nat.le_of_ble_eq_true rfl, Nat.le_of_ble_eq_true rfl⟩) hK hP zkL_329 (by decide) rfl rfl hl.1 rfl (Nat.le_of_ble_eq_true rfl) dX6_shareOf_26 ⟨Nat.zero_le _, Nat.zero_le _⟩) hS (fun H locs hP hS => ?_)
  obtain rfl := Option.some.inj hf
  exact x_iret hx hb hr hlocks hK hP hS dX6_shareOf_29
set_option maxRecDepth 100000 in
set_option maxHeartbeats 4000000 in
theorem c_X6_suspectsOf (l : Launch) (G : zGT) (hG : zOK G) (I J : zM) (x1 : Int32) {r : Int32 × zM} (hf : f_X6_suspectsOf I x1 = some r) : Met l yX6_suspectsOf wsX6_suspectsOf (zrm 3 70) (va_Pc [.ref (G.2.1 328), .int x1] (zS G I J)) (zQi G r.1 r.2 J) 0 0 (zA G) := by
  refine zMet (cc := cX6_suspectsOf) (n := 2) (ret := (some .int)) (by decide) rfl (Nat.le_of_ble_eq_true rfl) ?_
  intro p e s m args below meth c H locs ls F hK hP hS hl
  obtain ⟨hx, hb, hr, hml, hts, hown, hlocks⟩ := F
  have hown : s.vm.findClass RX6 = some m.cls := hown
  have hl : lv_has ls 2 [(0, .ref (G.2.1 328)), (1, .int x1)] := hl
  have hi6 : ∀ w ∈ wsX60, w ∈ wsX6_suspectsOf := fun _ h => List.mem_cons_of_mem _ (List.mem_append_left _ (List.mem_append_left _ (List.mem_append_left _ (List.mem_append_left _ (List.mem_append_right _ h)))))
  unfold f_X6_suspectsOf at hf
  refine lv_aload_n hx hb dX6_suspectsOf_0 rfl (lv_at hl 0 rfl) ?_
  refine x_get (j := 1) (v := .ref (G.2.1 329)) hx hb hts hi6 hown hK hP zkL_328 rfl (by decide) (hts (.fieldLink RX6 21 "LeaseOffice$Thought" "blame" "LLeaseOffice$Blame;") (by decide +kernel)) rfl (by decide) dX6_suspectsOf_1 ?_
  refine lv_aload_n hx hb dX6_suspectsOf_4 rfl (lv_at hl 0 rfl) ?_
  refine x_get (j := 0) (v := .ref (G.2.1 1)) hx hb hts hi6 hown hK hP zkL_328 rfl (by decide) (hts (.fieldLink RX6 12 "LeaseOffice$Thought" "office" "LLeaseOffice$Office;") (by decide +kernel)) rfl (by decide) dX6_suspectsOf_5 ?_
  refine lv_iload_n hx hb dX6_suspectsOf_8 rfl (lv_at hl 1 rfl) ?_
  obtain ⟨q1, hq1, hf⟩ := zb_e hf
  refine x_callr (x_runV (As := [.int x1]) (rest := [.ref (G.2.1 329)]) ⟨hx, hb, hml, hown, hts⟩ (c_X2_toolAt l G hG I J 1 x1 zkL_1 hq1) (cwV 1 hts gX6_suspectsOf_X2_toolAt rfl rfl rfl (by decide +kernel) ⟨Nat.le_of_ble_eq_true rfl, Nat.le_of_ble_eq_true rfl⟩) hK hP zkL_1 (by decide) rfl rfl hl.1 rfl (Nat.le_of_ble_eq_true rfl) dX6_suspectsOf_9 ⟨Nat.zero_le _, Nat.zero_le _⟩) hS (fun H locs hP hS => ?_)
  obtain ⟨q2, hq2, hf⟩ := zb_e hf
  refine x_callv (x_runV (As := [.ref (G.2.1 (q1))]) (rest := []) ⟨hx, hb, hml, hown, hts⟩ (c_X0_findFor l G hG I J 329 q1 zkL_329 (kd_X2_toolAt zkL_1 hq1) hq2) (cwV 1 hts gX6_suspectsOf_X0_findFor rfl rfl rfl (by decide +kernel) ⟨Nat.le_of_ble_eq_true rfl, Nat.le_of_ble_eq_true rfl⟩) hK hP zkL_329 (by decide) rfl rfl hl.1 rfl (Nat.le_of_ble_eq_true rfl) dX6_suspectsOf_12 ⟨Nat.zero_le _, Nat.zero_le _⟩) hS (fun H locs hP hS => ?_)
  refine lv_aload_n hx hb dX6_suspectsOf_15 rfl (lv_at hl 0 rfl) ?_
  refine x_get (j := 1) (v := .ref (G.2.1 329)) hx hb hts hi6 hown hK hP zkL_328 rfl (by decide) (hts (.fieldLink RX6 21 "LeaseOffice$Thought" "blame" "LLeaseOffice$Blame;") (by decide +kernel)) rfl (by decide) dX6_suspectsOf_16 ?_
  obtain ⟨q3, hq3, hf⟩ := zb_e hf
  refine x_calli (x_runV (As := []) (rest := []) ⟨hx, hb, hml, hown, hts⟩ (c_X0_bits l G hG q2 J 329 zkL_329 hq3) (cwV 0 hts gX6_suspectsOf_X0_bits rfl rfl rfl (by decide +kernel) ⟨Nat.le_of_ble_eq_true rfl, Nat.le_of_ble_eq_true rfl⟩) hK hP zkL_329 (by decide) rfl rfl hl.1 rfl (Nat.le_of_ble_eq_true rfl) dX6_suspectsOf_19 ⟨Nat.zero_le _, Nat.zero_le _⟩) hS (fun H locs hP hS => ?_)
  obtain rfl := Option.some.inj hf
  exact x_iret hx hb hr hlocks hK hP hS dX6_suspectsOf_22
set_option maxRecDepth 100000 in
set_option maxHeartbeats 4000000 in
theorem c_X6_swapsNow (l : Launch) (G : zGT) (hG : zOK G) (I J : zM) {r : Int32} (hf : f_X6_swapsNow I = some r) : Met l yX6_swapsNow wsX6_swapsNow (zrm 4 90) (va_Pc [.ref (G.2.1 328)] (zS G I J)) (zQi G r I J) 0 0 (zA G) := by
  refine zMet (cc := cX6_swapsNow) (n := 4) (ret := (some .int)) (by decide) rfl (Nat.le_of_ble_eq_true rfl) ?_
  intro p e s m args below meth c H locs ls F hK hP hS hl
  obtain ⟨hx, hb, hr, hml, hts, hown, hlocks⟩ := F
  have hown : s.vm.findClass RX6 = some m.cls := hown
  have hl : lv_has ls 4 [(0, .ref (G.2.1 328))] := hl
  have hi2 : ∀ w ∈ wsX20, w ∈ wsX6_swapsNow := fun _ h => List.mem_cons_of_mem _ (List.mem_append_left _ (List.mem_append_left _ (List.mem_append_right _ h)))
  have hi6 : ∀ w ∈ wsX60, w ∈ wsX6_swapsNow := fun _ h => List.mem_cons_of_mem _ (List.mem_append_left _ (List.mem_append_left _ (List.mem_append_left _ (List.mem_append_right _ h))))
  have L19 : ∀ (y2 : Int32) (K : Int32 → Option (Int32)) (hKK : ∀ (z1 : Int32) (H : Heap) (locs : List Loc) (ls : Array Slot), K z1 = some r → va_P G.1 vwCl (zW G I J) H → va_S (zA G) s.heap H locs → lv_has ls 4 [(0, .ref (G.2.1 328)), (1, .int z1), (2, .int y2)] → W p l e (zrm 4 90) s m args below meth c H locs 0 0 (MQ below (zQi G r I J) args s 0 0 (zA G)) (F0 m 48 ls [])) (n : Nat) (y1 : Int32) (y3 : Int32) (H : Heap) (locs : List Loc) (ls : Array Slot), f_X6_swapsNow_l19 I y2 K n y1 y3 = some r → va_P G.1 vwCl (zW G I J) H → va_S (zA G) s.heap H locs → lv_has ls 4 [(0, .ref (G.2.1 328)), (1, .int y1), (2, .int y2), (3, .int y3)] → W p l e (zrm 4 90) s m args below meth c H locs 0 0 (MQ below (zQi G r I J) args s 0 0 (zA G)) (F0 m 19 ls []) := by
    intro y2 K hKK n
    induction n with
    | zero =>
      intro y1 y3 H locs ls hf
      rw [f_X6_swapsNow_l19] at hf
      cases hf
    | succ n ih =>
      intro y1 y3 H locs ls hf hP hS hl
      rw [f_X6_swapsNow_l19] at hf
      refine lv_iload_n hx hb dX6_swapsNow_19 rfl (lv_at hl 3 rfl) ?_
      refine lv_aload_n hx hb dX6_swapsNow_20 rfl (lv_at hl 0 rfl) ?_
      refine x_get (j := 0) (v := .ref (G.2.1 1)) hx hb hts hi6 hown hK hP zkL_328 rfl (by decide) (hts (.fieldLink RX6 12 "LeaseOffice$Thought" "office" "LLeaseOffice$Office;") (by decide +kernel)) rfl (by decide) dX6_swapsNow_21 ?_
      refine x_get (j := 6) (v := .int (I 1 6)) hx hb hts hi2 hown hK hP zkL_1 rfl (by decide) (hts (.fieldLink RX6 69 "LeaseOffice$Office" "toolCount" "I") (by decide +kernel)) rfl (by decide) dX6_swapsNow_24 ?_
      refine lv_icmp_ge (tgt := 48) hx hb dX6_swapsNow_27 (by decide) (fun c3 => ?_) (fun c3 => ?_)
      · have hf := zif_t c3 hf
        exact hKK y1 H locs ls hf hP hS (lv_sub hl [0, 1, 2] rfl)
      · have hf := zif_f c3 hf
        refine lv_aload_n hx hb dX6_swapsNow_30 rfl (lv_at hl 0 rfl) ?_
        refine lv_iload_n hx hb dX6_swapsNow_31 rfl (lv_at hl 2 rfl) ?_
        refine lv_iload_n hx hb dX6_swapsNow_32 rfl (lv_at hl 3 rfl) ?_
        obtain ⟨q4, hq4, hf⟩ := zb_e hf
        refine x_calli (x_runV (As := [.int y2, .int y3]) (rest := []) ⟨hx, hb, hml, hown, hts⟩ (c_X6_canBeSwapped l G hG I J y2 y3 hq4) (cwV 2 hts gX6_swapsNow_X6_canBeSwapped rfl rfl rfl (by decide +kernel) ⟨Nat.le_of_ble_eq_true rfl, Nat.le_of_ble_eq_true rfl⟩) hK hP zkL_328 (by decide) rfl rfl hl.1 rfl (Nat.le_of_ble_eq_true rfl) dX6_swapsNow_33 ⟨Nat.zero_le _, Nat.zero_le _⟩) hS (fun H locs hP hS => ?_)
        refine lv_if_eq (tgt := 42) hx hb dX6_swapsNow_36 (by decide) (fun c5 => ?_) (fun c5 => ?_)
        · have hf := zif_t c5 hf
          refine lv_iinc (v := (y3 + 1)) (lv' := [(3, .int (y3 + 1)), (0, .ref (G.2.1 328)), (1, .int y1), (2, .int y2)]) hx hb dX6_swapsNow_42 hl (k := 3) rfl rfl (by decide) rfl (fun ls hl => ?_)
          refine lv_goto (tgt := 19) hx hb dX6_swapsNow_45 (by decide) ?_
          exact ih y1 (y3 + 1) H locs ls hf hP hS (lv_sub hl [1, 2, 3, 0] rfl)
        · have hf := zif_f c5 hf
          refine lv_iinc (v := (y1 + 1)) (lv' := [(1, .int (y1 + 1)), (0, .ref (G.2.1 328)), (2, .int y2), (3, .int y3)]) hx hb dX6_swapsNow_39 hl (k := 1) rfl rfl (by decide) rfl (fun ls hl => ?_)
          refine lv_iinc (v := (y3 + 1)) (lv' := [(3, .int (y3 + 1)), (1, .int (y1 + 1)), (0, .ref (G.2.1 328)), (2, .int y2)]) hx hb dX6_swapsNow_42 hl (k := 3) rfl rfl (by decide) rfl (fun ls hl => ?_)
          refine lv_goto (tgt := 19) hx hb dX6_swapsNow_45 (by decide) ?_
          exact ih (y1 + 1) (y3 + 1) H locs ls hf hP hS (lv_sub hl [2, 1, 3, 0] rfl)
  have L4 : ∀ (n : Nat) (y1 : Int32) (y2 : Int32) (H : Heap) (locs : List Loc) (ls : Array Slot), f_X6_swapsNow_l4 I n y1 y2 = some r → va_P G.1 vwCl (zW G I J) H → va_S (zA G) s.heap H locs → lv_has ls 4 [(0, .ref (G.2.1 328)), (1, .int y1), (2, .int y2)] → W p l e (zrm 4 90) s m args below meth c H locs 0 0 (MQ below (zQi G r I J) args s 0 0 (zA G)) (F0 m 4 ls []) := by
    intro n
    induction n with
    | zero =>
      intro y1 y2 H locs ls hf
      rw [f_X6_swapsNow_l4] at hf
      cases hf
    | succ n ih =>
      intro y1 y2 H locs ls hf hP hS hl
      rw [f_X6_swapsNow_l4] at hf
      refine lv_iload_n hx hb dX6_swapsNow_4 rfl (lv_at hl 2 rfl) ?_
      refine lv_aload_n hx hb dX6_swapsNow_5 rfl (lv_at hl 0 rfl) ?_
      refine x_get (j := 0) (v := .ref (G.2.1 1)) hx hb hts hi6 hown hK hP zkL_328 rfl (by decide) (hts (.fieldLink RX6 12 "LeaseOffice$Thought" "office" "LLeaseOffice$Office;") (by decide +kernel)) rfl (by decide) dX6_swapsNow_6 ?_
      refine x_get (j := 6) (v := .int (I 1 6)) hx hb hts hi2 hown hK hP zkL_1 rfl (by decide) (hts (.fieldLink RX6 69 "LeaseOffice$Office" "toolCount" "I") (by decide +kernel)) rfl (by decide) dX6_swapsNow_9 ?_
      refine lv_icmp_ge (tgt := 54) hx hb dX6_swapsNow_12 (by decide) (fun c1 => ?_) (fun c1 => ?_)
      · have hf := zif_t c1 hf
        refine lv_iload_n hx hb dX6_swapsNow_54 rfl (lv_at hl 1 rfl) ?_
        obtain rfl := Option.some.inj hf
        exact x_iret hx hb hr hlocks hK hP hS dX6_swapsNow_55
      · have hf := zif_f c1 hf
        refine lv_iload_n hx hb dX6_swapsNow_15 rfl (lv_at hl 2 rfl) ?_
        refine lv_iconst (v := 1) hx hb dX6_swapsNow_16 (by decide) ?_
        refine lv_iadd hx hb dX6_swapsNow_17 ?_
        obtain ⟨w2, ew2, hf⟩ := zlet_e hf
        refine z_topi ew2 ?_
        refine lv_istore_n (lv' := [(3, .int w2), (0, .ref (G.2.1 328)), (1, .int y1), (2, .int y2)]) hx hb dX6_swapsNow_18 rfl hl (by decide) rfl (fun ls hl => ?_)
        refine L19 y2 _ (fun z6 H locs ls hf hP hS hl => ?_) zFu y1 w2 H locs ls hf hP hS (lv_sub hl [1, 2, 3, 0] rfl)
        refine lv_iinc (v := (y2 + 1)) (lv' := [(2, .int (y2 + 1)), (0, .ref (G.2.1 328)), (1, .int z6)]) hx hb dX6_swapsNow_48 hl (k := 2) rfl rfl (by decide) rfl (fun ls hl => ?_)
        refine lv_goto (tgt := 4) hx hb dX6_swapsNow_51 (by decide) ?_
        exact ih z6 (y2 + 1) H locs ls hf hP hS (lv_sub hl [1, 2, 0] rfl)
  unfold f_X6_swapsNow at hf
  refine lv_iconst (v := 0) hx hb dX6_swapsNow_0 (by decide) ?_
  refine lv_istore_n (lv' := [(1, .int 0), (0, .ref (G.2.1 328))]) hx hb dX6_swapsNow_1 rfl hl (by decide) rfl (fun ls hl => ?_)
  refine lv_iconst (v := 0) hx hb dX6_swapsNow_2 (by decide) ?_
  refine lv_istore_n (lv' := [(2, .int 0), (1, .int 0), (0, .ref (G.2.1 328))]) hx hb dX6_swapsNow_3 rfl hl (by decide) rfl (fun ls hl => ?_)
  exact L4 zFu 0 0 H locs ls hf hP hS (lv_sub hl [2, 1, 0] rfl)
set_option maxRecDepth 100000 in
set_option maxHeartbeats 4000000 in
theorem c_X6_toolsDueBefore (l : Launch) (G : zGT) (hG : zOK G) (I J : zM) (x1 : Int32) {r : Int32} (hf : f_X6_toolsDueBefore I x1 = some r) : Met l yX6_toolsDueBefore wsX6_toolsDueBefore (zrm 2 42) (va_Pc [.ref (G.2.1 328), .int x1] (zS G I J)) (zQi G r I J) 0 0 (zA G) := by
  refine zMet (cc := cX6_toolsDueBefore) (n := 4) (ret := (some .int)) (by decide) rfl (Nat.le_of_ble_eq_true rfl) ?_
  intro p e s m args below meth c H locs ls F hK hP hS hl
  obtain ⟨hx, hb, hr, hml, hts, hown, hlocks⟩ := F
  have hown : s.vm.findClass RX6 = some m.cls := hown
  have hl : lv_has ls 4 [(0, .ref (G.2.1 328)), (1, .int x1)] := hl
  have hi2 : ∀ w ∈ wsX20, w ∈ wsX6_toolsDueBefore := fun _ h => List.mem_cons_of_mem _ (List.mem_append_left _ (List.mem_append_right _ h))
  have hi6 : ∀ w ∈ wsX60, w ∈ wsX6_toolsDueBefore := fun _ h => List.mem_cons_of_mem _ (List.mem_append_left _ (List.mem_append_left _ (List.mem_append_right _ h)))
  have L4 : ∀ (n : Nat) (y2 : Int32) (y3 : Int32) (H : Heap) (locs : List Loc) (ls : Array Slot), f_X6_toolsDueBefore_l4 I x1 n y2 y3 = some r → va_P G.1 vwCl (zW G I J) H → va_S (zA G) s.heap H locs → lv_has ls 4 [(0, .ref (G.2.1 328)), (1, .int x1), (2, .int y2), (3, .int y3)] → W p l e (zrm 2 42) s m args below meth c H locs 0 0 (MQ below (zQi G r I J) args s 0 0 (zA G)) (F0 m 4 ls []) := by
    intro n
    induction n with
    | zero =>
      intro y2 y3 H locs ls hf
      rw [f_X6_toolsDueBefore_l4] at hf
      cases hf
    | succ n ih =>
      intro y2 y3 H locs ls hf hP hS hl
      rw [f_X6_toolsDueBefore_l4] at hf
      refine lv_iload_n hx hb dX6_toolsDueBefore_4 rfl (lv_at hl 3 rfl) ?_
      refine lv_aload_n hx hb dX6_toolsDueBefore_5 rfl (lv_at hl 0 rfl) ?_
      refine x_get (j := 0) (v := .ref (G.2.1 1)) hx hb hts hi6 hown hK hP zkL_328 rfl (by decide) (hts (.fieldLink RX6 12 "LeaseOffice$Thought" "office" "LLeaseOffice$Office;") (by decide +kernel)) rfl (by decide) dX6_toolsDueBefore_6 ?_
      refine x_get (j := 6) (v := .int (I 1 6)) hx hb hts hi2 hown hK hP zkL_1 rfl (by decide) (hts (.fieldLink RX6 69 "LeaseOffice$Office" "toolCount" "I") (by decide +kernel)) rfl (by decide) dX6_toolsDueBefore_9 ?_
      refine lv_icmp_ge (tgt := 39) hx hb dX6_toolsDueBefore_12 (by decide) (fun c1 => ?_) (fun c1 => ?_)
      · have hf := zif_t c1 hf
        refine lv_iload_n hx hb dX6_toolsDueBefore_39 rfl (lv_at hl 2 rfl) ?_
        obtain rfl := Option.some.inj hf
        exact x_iret hx hb hr hlocks hK hP hS dX6_toolsDueBefore_40
      · have hf := zif_f c1 hf
        refine lv_aload_n hx hb dX6_toolsDueBefore_15 rfl (lv_at hl 0 rfl) ?_
        refine x_get (j := 0) (v := .ref (G.2.1 1)) hx hb hts hi6 hown hK hP zkL_328 rfl (by decide) (hts (.fieldLink RX6 12 "LeaseOffice$Thought" "office" "LLeaseOffice$Office;") (by decide +kernel)) rfl (by decide) dX6_toolsDueBefore_16 ?_
        refine lv_iload_n hx hb dX6_toolsDueBefore_19 rfl (lv_at hl 3 rfl) ?_
        obtain ⟨q2, hq2, hf⟩ := zb_e hf
        refine x_callr (x_runV (As := [.int y3]) (rest := []) ⟨hx, hb, hml, hown, hts⟩ (c_X2_toolAt l G hG I J 1 y3 zkL_1 hq2) (cwV 1 hts gX6_toolsDueBefore_X2_toolAt rfl rfl rfl (by decide +kernel) ⟨Nat.le_of_ble_eq_true rfl, Nat.le_of_ble_eq_true rfl⟩) hK hP zkL_1 (by decide) rfl rfl hl.1 rfl (Nat.le_of_ble_eq_true rfl) dX6_toolsDueBefore_20 ⟨Nat.zero_le _, Nat.zero_le _⟩) hS (fun H locs hP hS => ?_)
        refine lv_iload_n hx hb dX6_toolsDueBefore_23 rfl (lv_at hl 1 rfl) ?_
        obtain ⟨q3, hq3, hf⟩ := zb_e hf
        refine x_calli (x_runV (As := [.int x1]) (rest := []) ⟨hx, hb, hml, hown, hts⟩ (c_X7_daysLateOn l G hG I J q2 x1 (kd_X2_toolAt zkL_1 hq2) hq3) (cwV 1 hts gX6_toolsDueBefore_X7_daysLateOn rfl rfl rfl (by decide +kernel) ⟨Nat.le_of_ble_eq_true rfl, Nat.le_of_ble_eq_true rfl⟩) hK hP (kd_X2_toolAt zkL_1 hq2) (by decide) rfl rfl hl.1 rfl (Nat.le_of_ble_eq_true rfl) dX6_toolsDueBefore_24 ⟨Nat.zero_le _, Nat.zero_le _⟩) hS (fun H locs hP hS => ?_)
        refine lv_if_le (tgt := 33) hx hb dX6_toolsDueBefore_27 (by decide) (fun c4 => ?_) (fun c4 => ?_)
        · have hf := zif_t c4 hf
          refine lv_iinc (v := (y3 + 1)) (lv' := [(3, .int (y3 + 1)), (0, .ref (G.2.1 328)), (1, .int x1), (2, .int y2)]) hx hb dX6_toolsDueBefore_33 hl (k := 3) rfl rfl (by decide) rfl (fun ls hl => ?_)
          refine lv_goto (tgt := 4) hx hb dX6_toolsDueBefore_36 (by decide) ?_
          exact ih y2 (y3 + 1) H locs ls hf hP hS (lv_sub hl [1, 2, 3, 0] rfl)
        · have hf := zif_f c4 hf
          refine lv_iinc (v := (y2 + 1)) (lv' := [(2, .int (y2 + 1)), (0, .ref (G.2.1 328)), (1, .int x1), (3, .int y3)]) hx hb dX6_toolsDueBefore_30 hl (k := 2) rfl rfl (by decide) rfl (fun ls hl => ?_)
          refine lv_iinc (v := (y3 + 1)) (lv' := [(3, .int (y3 + 1)), (2, .int (y2 + 1)), (0, .ref (G.2.1 328)), (1, .int x1)]) hx hb dX6_toolsDueBefore_33 hl (k := 3) rfl rfl (by decide) rfl (fun ls hl => ?_)
          refine lv_goto (tgt := 4) hx hb dX6_toolsDueBefore_36 (by decide) ?_
          exact ih (y2 + 1) (y3 + 1) H locs ls hf hP hS (lv_sub hl [2, 3, 1, 0] rfl)
  unfold f_X6_toolsDueBefore at hf
  refine lv_iconst (v := 0) hx hb dX6_toolsDueBefore_0 (by decide) ?_
  refine lv_istore_n (lv' := [(2, .int 0), (0, .ref (G.2.1 328)), (1, .int x1)]) hx hb dX6_toolsDueBefore_1 rfl hl (by decide) rfl (fun ls hl => ?_)
  refine lv_iconst (v := 0) hx hb dX6_toolsDueBefore_2 (by decide) ?_
  refine lv_istore_n (lv' := [(3, .int 0), (2, .int 0), (0, .ref (G.2.1 328)), (1, .int x1)]) hx hb dX6_toolsDueBefore_3 rfl hl (by decide) rfl (fun ls hl => ?_)
  exact L4 zFu 0 0 H locs ls hf hP hS (lv_sub hl [2, 3, 1, 0] rfl)
set_option maxRecDepth 100000 in
set_option maxHeartbeats 4000000 in
theorem c_X8_ahead (l : Launch) (G : zGT) (hG : zOK G) (I J : zM) (x1 : Int32) (x2 : Int32) {r : Int32} (hf : f_X8_ahead I x1 x2 = some r) : Met l yX8_ahead wsX8_ahead (zrm 4 86) (va_Pc [.ref (G.2.1 0), .int x1, .int x2] (zS G I J)) (zQi G r I J) 0 0 (zA G) := by
  refine zMet (cc := cX8_ahead) (n := 3) (ret := (some .int)) (by decide) rfl (Nat.le_of_ble_eq_true rfl) ?_
  intro p e s m args below meth c H locs ls F hK hP hS hl
  obtain ⟨hx, hb, hr, hml, hts, hown, hlocks⟩ := F
  have hown : s.vm.findClass RX8 = some m.cls := hown
  have hl : lv_has ls 3 [(0, .ref (G.2.1 0)), (1, .int x1), (2, .int x2)] := hl
  have hi2 : ∀ w ∈ wsX20, w ∈ wsX8_ahead := fun _ h => List.mem_cons_of_mem _ (List.mem_append_left _ (List.mem_append_left _ (List.mem_append_right _ h)))
  have hi8 : ∀ w ∈ wsX80, w ∈ wsX8_ahead := fun _ h => List.mem_cons_of_mem _ (List.mem_append_left _ (List.mem_append_left _ (List.mem_append_left _ (List.mem_append_right _ h))))
  unfold f_X8_ahead at hf
  refine lv_iload_n hx hb dX8_ahead_0 rfl (lv_at hl 1 rfl) ?_
  refine lv_if_lt (tgt := 10) hx hb dX8_ahead_1 (by decide) (fun c1 => ?_) (fun c1 => ?_)
  · have hf := zif_t c1 hf
    refine lv_iconst (v := (-1)) hx hb dX8_ahead_10 (by decide) ?_
    obtain rfl := Option.some.inj hf
    exact x_iret hx hb hr hlocks hK hP hS dX8_ahead_11
  · have hf := zif_f c1 hf
    refine lv_iload_n hx hb dX8_ahead_4 rfl (lv_at hl 1 rfl) ?_
    refine lv_bipush (v := 60) hx hb dX8_ahead_5 (by decide) ?_
    refine lv_icmp_le (tgt := 12) hx hb dX8_ahead_7 (by decide) (fun c2 => ?_) (fun c2 => ?_)
    · have hf := zif_t c2 hf
      refine lv_iload_n hx hb dX8_ahead_12 rfl (lv_at hl 2 rfl) ?_
      rcases Classical.em (x2 = 0) with c5 | c5
      · have hf := zif_t c5 hf
        refine lv_lookup (off := 27) (tgt := 40) hx hb dX8_ahead_13 (by decide) (by rw [c5]; decide) (by decide) ?_
        refine lv_aload_n hx hb dX8_ahead_40 rfl (lv_at hl 0 rfl) ?_
        refine x_get (j := 0) (v := .ref (G.2.1 328)) hx hb hts hi8 hown hK hP zkL_0 rfl (by decide) (hts (.fieldLink RX8 12 "LeaseOffice" "thought" "LLeaseOffice$Thought;") (by decide +kernel)) rfl (by decide) dX8_ahead_41 ?_
        refine lv_aload_n hx hb dX8_ahead_44 rfl (lv_at hl 0 rfl) ?_
        refine x_get (j := 1) (v := .ref (G.2.1 1)) hx hb hts hi8 hown hK hP zkL_0 rfl (by decide) (hts (.fieldLink RX8 20 "LeaseOffice" "office" "LLeaseOffice$Office;") (by decide +kernel)) rfl (by decide) dX8_ahead_45 ?_
        refine x_get (j := 7) (v := .int (I 1 7)) hx hb hts hi2 hown hK hP zkL_1 rfl (by decide) (hts (.fieldLink RX8 195 "LeaseOffice$Office" "day" "I") (by decide +kernel)) rfl (by decide) dX8_ahead_48 ?_
        refine lv_iload_n hx hb dX8_ahead_51 rfl (lv_at hl 1 rfl) ?_
        refine lv_iadd hx hb dX8_ahead_52 ?_
        obtain ⟨q3, hq3, hf⟩ := zb_e hf
        refine x_calli (x_runV (As := [.int ((I 1 7) + x1)]) (rest := []) ⟨hx, hb, hml, hown, hts⟩ (c_X6_toolsDueBefore l G hG I J ((I 1 7) + x1) hq3) (cwV 1 hts gX8_ahead_X6_toolsDueBefore rfl rfl rfl (by decide +kernel) ⟨Nat.le_of_ble_eq_true rfl, Nat.le_of_ble_eq_true rfl⟩) hK hP zkL_328 (by decide) rfl rfl hl.1 rfl (Nat.le_of_ble_eq_true rfl) dX8_ahead_53 ⟨Nat.zero_le _, Nat.zero_le _⟩) hS (fun H locs hP hS => ?_)
        obtain rfl := Option.some.inj hf
        exact x_iret hx hb hr hlocks hK hP hS dX8_ahead_56
      · have hf := zif_f c5 hf
        rcases Classical.em (x2 = 1) with c6 | c6
        · have hf := zif_t c6 hf
          refine lv_lookup (off := 44) (tgt := 57) hx hb dX8_ahead_13 (by decide) (by rw [c6]; decide) (by decide) ?_
          refine lv_aload_n hx hb dX8_ahead_57 rfl (lv_at hl 0 rfl) ?_
          refine x_get (j := 0) (v := .ref (G.2.1 328)) hx hb hts hi8 hown hK hP zkL_0 rfl (by decide) (hts (.fieldLink RX8 12 "LeaseOffice" "thought" "LLeaseOffice$Thought;") (by decide +kernel)) rfl (by decide) dX8_ahead_58 ?_
          refine lv_aload_n hx hb dX8_ahead_61 rfl (lv_at hl 0 rfl) ?_
          refine x_get (j := 1) (v := .ref (G.2.1 1)) hx hb hts hi8 hown hK hP zkL_0 rfl (by decide) (hts (.fieldLink RX8 20 "LeaseOffice" "office" "LLeaseOffice$Office;") (by decide +kernel)) rfl (by decide) dX8_ahead_62 ?_
          refine x_get (j := 7) (v := .int (I 1 7)) hx hb hts hi2 hown hK hP zkL_1 rfl (by decide) (hts (.fieldLink RX8 195 "LeaseOffice$Office" "day" "I") (by decide +kernel)) rfl (by decide) dX8_ahead_65 ?_
          refine lv_iload_n hx hb dX8_ahead_68 rfl (lv_at hl 1 rfl) ?_
          refine lv_iadd hx hb dX8_ahead_69 ?_
          obtain ⟨q4, hq4, hf⟩ := zb_e hf
          refine x_calli (x_runV (As := [.int ((I 1 7) + x1)]) (rest := []) ⟨hx, hb, hml, hown, hts⟩ (c_X6_feesOn l G hG I J ((I 1 7) + x1) hq4) (cwV 1 hts gX8_ahead_X6_feesOn rfl rfl rfl (by decide +kernel) ⟨Nat.le_of_ble_eq_true rfl, Nat.le_of_ble_eq_true rfl⟩) hK hP zkL_328 (by decide) rfl rfl hl.1 rfl (Nat.le_of_ble_eq_true rfl) dX8_ahead_70 ⟨Nat.zero_le _, Nat.zero_le _⟩) hS (fun H locs hP hS => ?_)
          obtain rfl := Option.some.inj hf
          exact x_iret hx hb hr hlocks hK hP hS dX8_ahead_73
        · have hf := zif_f c6 hf
          refine lv_lookup (off := 61) (tgt := 74) hx hb dX8_ahead_13 (by decide) (by rw [lv_osw c5 (by decide)]; rw [lv_osw c6 (by decide)]; rfl) (by decide) ?_
          refine lv_iconst (v := (-1)) hx hb dX8_ahead_74 (by decide) ?_
          obtain rfl := Option.some.inj hf
          exact x_iret hx hb hr hlocks hK hP hS dX8_ahead_75
    · have hf := zif_f c2 hf
      refine lv_iconst (v := (-1)) hx hb dX8_ahead_10 (by decide) ?_
      obtain rfl := Option.some.inj hf
      exact x_iret hx hb hr hlocks hK hP hS dX8_ahead_11
set_option maxRecDepth 100000 in
set_option maxHeartbeats 4000000 in
theorem c_X8_holderAt (l : Launch) (G : zGT) (hG : zOK G) (I J : zM) (x1 : Int32) {r : Nat} (hf : f_X8_holderAt I x1 = some r) : Met l yX8_holderAt wsX8_holderAt (zrm 0 0) (va_Pc [.ref (G.2.1 0), .int x1] (zS G I J)) (zQr G r I J) 0 0 (zA G) := by
  refine zMet (cc := cX8_holderAt) (n := 2) (ret := (some (.object "LeaseOffice$Holder"))) (by decide) rfl (Nat.le_of_ble_eq_true rfl) ?_
  intro p e s m args below meth c H locs ls F hK hP hS hl
  obtain ⟨hx, hb, hr, hml, hts, hown, hlocks⟩ := F
  have hown : s.vm.findClass RX8 = some m.cls := hown
  have hl : lv_has ls 2 [(0, .ref (G.2.1 0)), (1, .int x1)] := hl
  have hi8 : ∀ w ∈ wsX80, w ∈ wsX8_holderAt := fun _ h => List.mem_cons_of_mem _ (List.mem_append_right _ h)
  unfold f_X8_holderAt at hf
  refine lv_iload_n hx hb dX8_holderAt_0 rfl (lv_at hl 1 rfl) ?_
  refine lv_if_lt (tgt := 22) hx hb dX8_holderAt_1 (by decide) (fun c1 => ?_) (fun c1 => ?_)
  · have hf := zif_t c1 hf
    refine lv_aload_n hx hb dX8_holderAt_22 rfl (lv_at hl 0 rfl) ?_
    refine x_get (j := 7) (v := .ref (G.2.1 338)) hx hb hts hi8 hown hK hP zkL_0 rfl (by decide) (hts (.fieldLink RX8 49 "LeaseOffice" "noHolder" "LLeaseOffice$Holder;") (by decide +kernel)) rfl (by decide) dX8_holderAt_23 ?_
    obtain rfl := Option.some.inj hf
    exact x_aret (Or.inl ⟨_, rfl⟩) hx hb hr hlocks hK hP hS dX8_holderAt_26
  · have hf := zif_f c1 hf
    refine lv_iload_n hx hb dX8_holderAt_4 rfl (lv_at hl 1 rfl) ?_
    refine lv_aload_n hx hb dX8_holderAt_5 rfl (lv_at hl 0 rfl) ?_
    refine x_get (j := 6) (v := .ref (G.2.1 337)) hx hb hts hi8 hown hK hP zkL_0 rfl (by decide) (hts (.fieldLink RX8 44 "LeaseOffice" "holders" "[LLeaseOffice$Holder;") (by decide +kernel)) rfl (by decide) dX8_holderAt_6 ?_
    refine x_alen 1 (v := 6) hx hb hK hP (zK_lt zkL_337 (by decide)) (zE_11 zkL_337) rfl rfl dX8_holderAt_9 ?_
    refine lv_icmp_ge (tgt := 22) hx hb dX8_holderAt_10 (by decide) (fun c2 => ?_) (fun c2 => ?_)
    · have hf := zif_t c2 hf
      refine lv_aload_n hx hb dX8_holderAt_22 rfl (lv_at hl 0 rfl) ?_
      refine x_get (j := 7) (v := .ref (G.2.1 338)) hx hb hts hi8 hown hK hP zkL_0 rfl (by decide) (hts (.fieldLink RX8 49 "LeaseOffice" "noHolder" "LLeaseOffice$Holder;") (by decide +kernel)) rfl (by decide) dX8_holderAt_23 ?_
      obtain rfl := Option.some.inj hf
      exact x_aret (Or.inl ⟨_, rfl⟩) hx hb hr hlocks hK hP hS dX8_holderAt_26
    · have hf := zif_f c2 hf
      refine lv_aload_n hx hb dX8_holderAt_13 rfl (lv_at hl 0 rfl) ?_
      refine x_get (j := 6) (v := .ref (G.2.1 337)) hx hb hts hi8 hown hK hP zkL_0 rfl (by decide) (hts (.fieldLink RX8 44 "LeaseOffice" "holders" "[LLeaseOffice$Holder;") (by decide +kernel)) rfl (by decide) dX8_holderAt_14 ?_
      refine lv_iload_n hx hb dX8_holderAt_17 rfl (lv_at hl 1 rfl) ?_
      obtain ⟨h3, hf⟩ := zck_e hf
      refine x_aald11 hx hb hK hP (zin_e h3) dX8_holderAt_18 ?_
      refine lv_goto (tgt := 26) hx hb dX8_holderAt_19 (by decide) ?_
      obtain rfl := Option.some.inj hf
      exact x_aret (Or.inl ⟨_, rfl⟩) hx hb hr hlocks hK hP hS dX8_holderAt_26
set_option maxRecDepth 100000 in
set_option maxHeartbeats 4000000 in
theorem c_X8_back (l : Launch) (G : zGT) (hG : zOK G) (I J : zM) {r : Int32 × zM} (hf : f_X8_back I = some r) : Met l yX8_back wsX8_back (zrm 4 90) (va_Pc [.ref (G.2.1 0)] (zS G I J)) (zQi G r.1 r.2 J) 0 0 (zA G) := by
  refine zMet (cc := cX8_back) (n := 5) (ret := (some .int)) (by decide) rfl (Nat.le_of_ble_eq_true rfl) ?_
  intro p e s m args below meth c H locs ls F hK hP hS hl
  obtain ⟨hx, hb, hr, hml, hts, hown, hlocks⟩ := F
  have hown : s.vm.findClass RX8 = some m.cls := hown
  have hl : lv_has ls 5 [(0, .ref (G.2.1 0))] := hl
  have hi1 : ∀ w ∈ wsX10, w ∈ wsX8_back := fun _ h => List.mem_cons_of_mem _ (List.mem_append_left _ (List.mem_append_left _ (List.mem_append_left _ (List.mem_append_left _ (List.mem_append_right _ h)))))
  have hi2 : ∀ w ∈ wsX20, w ∈ wsX8_back := fun _ h => List.mem_cons_of_mem _ (List.mem_append_left _ (List.mem_append_left _ (List.mem_append_left _ (List.mem_append_right _ h))))
  have hi8 : ∀ w ∈ wsX80, w ∈ wsX8_back := fun _ h => List.mem_cons_of_mem _ (List.mem_append_left _ (List.mem_append_left _ (List.mem_append_left _ (List.mem_append_left _ (List.mem_append_left _ (List.mem_append_right _ h))))))
  have L23 : ∀ (n : Nat) (M : zM) (y1 : Int32) (H : Heap) (locs : List Loc) (ls : Array Slot), f_X8_back_l23 n M y1 = some r → va_P G.1 vwCl (zW G M J) H → va_S (zA G) s.heap H locs → lv_has ls 5 [(0, .ref (G.2.1 0)), (1, .int y1)] → W p l e (zrm 4 90) s m args below meth c H locs 0 0 (MQ below (zQi G r.1 r.2 J) args s 0 0 (zA G)) (F0 m 23 ls []) := by
    intro n
    induction n with
    | zero =>
      intro M y1 H locs ls hf
      rw [f_X8_back_l23] at hf
      cases hf
    | succ n ih =>
      intro M y1 H locs ls hf hP hS hl
      rw [f_X8_back_l23] at hf
      refine lv_iload_n hx hb dX8_back_23 rfl (lv_at hl 1 rfl) ?_
      refine lv_bipush (v := 6) hx hb dX8_back_24 (by decide) ?_
      refine lv_icmp_ge (tgt := 113) hx hb dX8_back_26 (by decide) (fun c3 => ?_) (fun c3 => ?_)
      · have hf := zif_t c3 hf
        refine lv_aload_n hx hb dX8_back_113 rfl (lv_at hl 0 rfl) ?_
        refine x_get (j := 1) (v := .ref (G.2.1 1)) hx hb hts hi8 hown hK hP zkL_0 rfl (by decide) (hts (.fieldLink RX8 20 "LeaseOffice" "office" "LLeaseOffice$Office;") (by decide +kernel)) rfl (by decide) dX8_back_114 ?_
        refine x_get (j := 7) (v := .int (M 1 7)) hx hb hts hi2 hown hK hP zkL_1 rfl (by decide) (hts (.fieldLink RX8 195 "LeaseOffice$Office" "day" "I") (by decide +kernel)) rfl (by decide) dX8_back_117 ?_
        obtain rfl := Option.some.inj hf
        exact x_iret hx hb hr hlocks hK hP hS dX8_back_120
      · have hf := zif_f c3 hf
        refine lv_aload_n hx hb dX8_back_29 rfl (lv_at hl 0 rfl) ?_
        refine lv_iload_n hx hb dX8_back_30 rfl (lv_at hl 1 rfl) ?_
        obtain ⟨q4, hq4, hf⟩ := zb_e hf
        refine x_callr (x_runV (As := [.int y1]) (rest := []) ⟨hx, hb, hml, hown, hts⟩ (c_X8_holderAt l G hG M J y1 hq4) (cwV 1 hts gX8_back_X8_holderAt rfl rfl rfl (by decide +kernel) ⟨Nat.le_of_ble_eq_true rfl, Nat.le_of_ble_eq_true rfl⟩) hK hP zkL_0 (by decide) rfl rfl hl.1 rfl (Nat.le_of_ble_eq_true rfl) dX8_back_31 ⟨Nat.zero_le _, Nat.zero_le _⟩) hS (fun H locs hP hS => ?_)
        refine lv_astore_n (lv' := [(2, .ref (G.2.1 (q4))), (0, .ref (G.2.1 0)), (1, .int y1)]) hx hb dX8_back_34 rfl hl (by decide) rfl (fun ls hl => ?_)
        refine lv_aload_n hx hb dX8_back_35 rfl (lv_at hl 0 rfl) ?_
        refine x_get (j := 0) (v := .int (M q4 0)) hx hb hts hi1 hown hK hP (kd_X8_holderAt hq4) rfl (by decide) (hts (.fieldLink RX8 229 "LeaseOffice$Holder" "sort" "I") (by decide +kernel)) rfl (by decide) dX8_back_36 ?_
        refine lv_iconst (v := 1) hx hb dX8_back_39 (by decide) ?_
        refine lv_icmp_ne (tgt := 61) hx hb dX8_back_40 (by decide) (fun c5 => ?_) (fun c5 => ?_)
        · have hf := zif_f c5 hf
          refine lv_iconst (v := 0) hx hb dX8_back_61 (by decide) ?_
          refine lv_istore_n (lv' := [(3, .int 0), (2, .ref (G.2.1 (q4))), (0, .ref (G.2.1 0)), (1, .int y1)]) hx hb dX8_back_62 rfl hl (by decide) rfl (fun ls hl => ?_)
          refine lv_aload_n hx hb dX8_back_63 rfl (lv_at hl 1 rfl) ?_
          refine x_get (j := 0) (v := .int (M q4 0)) hx hb hts hi1 hown hK hP (kd_X8_holderAt hq4) rfl (by decide) (hts (.fieldLink RX8 229 "LeaseOffice$Holder" "sort" "I") (by decide +kernel)) rfl (by decide) dX8_back_64 ?_
          refine lv_iconst (v := 2) hx hb dX8_back_67 (by decide) ?_
          refine lv_icmp_ne (tgt := 89) hx hb dX8_back_68 (by decide) (fun c6 => ?_) (fun c6 => ?_)
          · have hf := zif_f c6 hf
            refine lv_iconst (v := 0) hx hb dX8_back_89 (by decide) ?_
            refine lv_istore (lv' := [(4, .int 0), (3, .int 0), (2, .ref (G.2.1 (q4))), (0, .ref (G.2.1 0)), (1, .int y1)]) hx hb dX8_back_90 hl (by decide) rfl (fun ls hl => ?_)
            refine lv_iload_n hx hb dX8_back_92 rfl (lv_at hl 1 rfl) ?_
            refine lv_if_ne (tgt := 101) hx hb dX8_back_93 (by decide) (fun c7 => absurd (by decide) c7) (fun _ => ?_)
            refine lv_iload hx hb dX8_back_96 (lv_at hl 0 rfl) ?_
            refine lv_if_eq (tgt := 107) hx hb dX8_back_98 (by decide) (fun _ => ?_) (fun c8 => absurd (by decide) c8)
            refine lv_iinc (v := (y1 + 1)) (lv' := [(1, .int (y1 + 1)), (4, .int 0), (3, .int 0), (2, .ref (G.2.1 (q4))), (0, .ref (G.2.1 0))]) hx hb dX8_back_107 hl (k := 4) rfl rfl (by decide) rfl (fun ls hl => ?_)
            refine lv_goto (tgt := 23) hx hb dX8_back_110 (by decide) ?_
            exact ih M (y1 + 1) H locs ls hf hP hS (lv_sub hl [4, 0] rfl)
          · have hf := zif_t c6 hf
            refine lv_aload_n hx hb dX8_back_71 rfl (lv_at hl 2 rfl) ?_
            refine x_get (j := 1) (v := .ref (G.2.1 1)) hx hb hts hi8 hown hK hP zkL_0 rfl (by decide) (hts (.fieldLink RX8 20 "LeaseOffice" "office" "LLeaseOffice$Office;") (by decide +kernel)) rfl (by decide) dX8_back_72 ?_
            refine lv_aload_n hx hb dX8_back_75 rfl (lv_at hl 1 rfl) ?_
            refine x_get (j := 1) (v := .int (M q4 1)) hx hb hts hi1 hown hK hP (kd_X8_holderAt hq4) rfl (by decide) (hts (.fieldLink RX8 273 "LeaseOffice$Holder" "number" "I") (by decide +kernel)) rfl (by decide) dX8_back_76 ?_
            obtain ⟨q9, hq9, hf⟩ := zb_e hf
            refine x_calli (x_runV (As := [.int (M q4 1)]) (rest := []) ⟨hx, hb, hml, hown, hts⟩ (c_X2_isTool l G hG M J 1 (M q4 1) zkL_1 hq9) (cwV 1 hts gX8_back_X2_isTool rfl rfl rfl (by decide +kernel) ⟨Nat.le_of_ble_eq_true rfl, Nat.le_of_ble_eq_true rfl⟩) hK hP zkL_1 (by decide) rfl rfl hl.1 rfl (Nat.le_of_ble_eq_true rfl) dX8_back_79 ⟨Nat.zero_le _, Nat.zero_le _⟩) hS (fun H locs hP hS => ?_)
            refine lv_if_ne (tgt := 89) hx hb dX8_back_82 (by decide) (fun c10 => ?_) (fun c10 => ?_)
            · have hf := zif_f c10 hf
              refine lv_iconst (v := 0) hx hb dX8_back_89 (by decide) ?_
              refine lv_istore (lv' := [(4, .int 0), (3, .int 0), (2, .ref (G.2.1 (q4))), (0, .ref (G.2.1 0)), (1, .int y1)]) hx hb dX8_back_90 hl (by decide) rfl (fun ls hl => ?_)
              refine lv_iload_n hx hb dX8_back_92 rfl (lv_at hl 1 rfl) ?_
              refine lv_if_ne (tgt := 101) hx hb dX8_back_93 (by decide) (fun c11 => absurd (by decide) c11) (fun _ => ?_)
              refine lv_iload hx hb dX8_back_96 (lv_at hl 0 rfl) ?_
              refine lv_if_eq (tgt := 107) hx hb dX8_back_98 (by decide) (fun _ => ?_) (fun c12 => absurd (by decide) c12)
              refine lv_iinc (v := (y1 + 1)) (lv' := [(1, .int (y1 + 1)), (4, .int 0), (3, .int 0), (2, .ref (G.2.1 (q4))), (0, .ref (G.2.1 0))]) hx hb dX8_back_107 hl (k := 4) rfl rfl (by decide) rfl (fun ls hl => ?_)
              refine lv_goto (tgt := 23) hx hb dX8_back_110 (by decide) ?_
              exact ih M (y1 + 1) H locs ls hf hP hS (lv_sub hl [4, 0] rfl)
            · have hf := zif_t c10 hf
              refine lv_iconst (v := 1) hx hb dX8_back_85 (by decide) ?_
              refine lv_goto (tgt := 90) hx hb dX8_back_86 (by decide) ?_
              refine lv_istore (lv' := [(4, .int 1), (3, .int 0), (2, .ref (G.2.1 (q4))), (0, .ref (G.2.1 0)), (1, .int y1)]) hx hb dX8_back_90 hl (by decide) rfl (fun ls hl => ?_)
              refine lv_iload_n hx hb dX8_back_92 rfl (lv_at hl 1 rfl) ?_
              refine lv_if_ne (tgt := 101) hx hb dX8_back_93 (by decide) (fun c13 => absurd (by decide) c13) (fun _ => ?_)
              refine lv_iload hx hb dX8_back_96 (lv_at hl 0 rfl) ?_
              refine lv_if_eq (tgt := 107) hx hb dX8_back_98 (by decide) (fun c14 => absurd c14 (by decide)) (fun _ => ?_)
              refine lv_aload_n hx hb dX8_back_101 rfl (lv_at hl 2 rfl) ?_
              refine lv_iconst (v := 0) hx hb dX8_back_102 (by decide) ?_
              refine lv_iconst (v := 0) hx hb dX8_back_103 (by decide) ?_
              obtain ⟨q15, hq15, hf⟩ := zb_e hf
              refine x_callv (x_runV (As := [.int 0, .int 0]) (rest := []) ⟨hx, hb, hml, hown, hts⟩ (c_X1_take l G hG M J q4 0 0 (kd_X8_holderAt hq4) hq15) (cwV 2 hts gX8_back_X1_take rfl rfl rfl (by decide +kernel) ⟨Nat.le_of_ble_eq_true rfl, Nat.le_of_ble_eq_true rfl⟩) hK hP (kd_X8_holderAt hq4) (by decide) rfl rfl hl.1 rfl (Nat.le_of_ble_eq_true rfl) dX8_back_104 ⟨Nat.zero_le _, Nat.zero_le _⟩) hS (fun H locs hP hS => ?_)
              refine lv_iinc (v := (y1 + 1)) (lv' := [(1, .int (y1 + 1)), (4, .int 1), (3, .int 0), (2, .ref (G.2.1 (q4))), (0, .ref (G.2.1 0))]) hx hb dX8_back_107 hl (k := 4) rfl rfl (by decide) rfl (fun ls hl => ?_)
              refine lv_goto (tgt := 23) hx hb dX8_back_110 (by decide) ?_
              exact ih q15 (y1 + 1) H locs ls hf hP hS (lv_sub hl [4, 0] rfl)
        · have hf := zif_t c5 hf
          refine lv_aload_n hx hb dX8_back_43 rfl (lv_at hl 1 rfl) ?_
          refine x_get (j := 1) (v := .ref (G.2.1 1)) hx hb hts hi8 hown hK hP zkL_0 rfl (by decide) (hts (.fieldLink RX8 20 "LeaseOffice" "office" "LLeaseOffice$Office;") (by decide +kernel)) rfl (by decide) dX8_back_44 ?_
          refine lv_aload_n hx hb dX8_back_47 rfl (lv_at hl 0 rfl) ?_
          refine x_get (j := 1) (v := .int (M q4 1)) hx hb hts hi1 hown hK hP (kd_X8_holderAt hq4) rfl (by decide) (hts (.fieldLink RX8 273 "LeaseOffice$Holder" "number" "I") (by decide +kernel)) rfl (by decide) dX8_back_48 ?_
          obtain ⟨q16, hq16, hf⟩ := zb_e hf
          refine x_calli (x_runV (As := [.int (M q4 1)]) (rest := []) ⟨hx, hb, hml, hown, hts⟩ (c_X2_isPerson l G hG M J 1 (M q4 1) zkL_1 hq16) (cwV 1 hts gX8_back_X2_isPerson rfl rfl rfl (by decide +kernel) ⟨Nat.le_of_ble_eq_true rfl, Nat.le_of_ble_eq_true rfl⟩) hK hP zkL_1 (by decide) rfl rfl hl.1 rfl (Nat.le_of_ble_eq_true rfl) dX8_back_51 ⟨Nat.zero_le _, Nat.zero_le _⟩) hS (fun H locs hP hS => ?_)
          refine lv_if_ne (tgt := 61) hx hb dX8_back_54 (by decide) (fun c17 => ?_) (fun c17 => ?_)
          · have hf := zif_f c17 hf
            refine lv_iconst (v := 0) hx hb dX8_back_61 (by decide) ?_
            refine lv_istore_n (lv' := [(3, .int 0), (2, .ref (G.2.1 (q4))), (0, .ref (G.2.1 0)), (1, .int y1)]) hx hb dX8_back_62 rfl hl (by decide) rfl (fun ls hl => ?_)
            refine lv_aload_n hx hb dX8_back_63 rfl (lv_at hl 1 rfl) ?_
            refine x_get (j := 0) (v := .int (M q4 0)) hx hb hts hi1 hown hK hP (kd_X8_holderAt hq4) rfl (by decide) (hts (.fieldLink RX8 229 "LeaseOffice$Holder" "sort" "I") (by decide +kernel)) rfl (by decide) dX8_back_64 ?_
            refine lv_iconst (v := 2) hx hb dX8_back_67 (by decide) ?_
            refine lv_icmp_ne (tgt := 89) hx hb dX8_back_68 (by decide) (fun c18 => ?_) (fun c18 => ?_)
            · have hf := zif_f c18 hf
              refine lv_iconst (v := 0) hx hb dX8_back_89 (by decide) ?_
              refine lv_istore (lv' := [(4, .int 0), (3, .int 0), (2, .ref (G.2.1 (q4))), (0, .ref (G.2.1 0)), (1, .int y1)]) hx hb dX8_back_90 hl (by decide) rfl (fun ls hl => ?_)
              refine lv_iload_n hx hb dX8_back_92 rfl (lv_at hl 1 rfl) ?_
              refine lv_if_ne (tgt := 101) hx hb dX8_back_93 (by decide) (fun c19 => absurd (by decide) c19) (fun _ => ?_)
              refine lv_iload hx hb dX8_back_96 (lv_at hl 0 rfl) ?_
              refine lv_if_eq (tgt := 107) hx hb dX8_back_98 (by decide) (fun _ => ?_) (fun c20 => absurd (by decide) c20)
              refine lv_iinc (v := (y1 + 1)) (lv' := [(1, .int (y1 + 1)), (4, .int 0), (3, .int 0), (2, .ref (G.2.1 (q4))), (0, .ref (G.2.1 0))]) hx hb dX8_back_107 hl (k := 4) rfl rfl (by decide) rfl (fun ls hl => ?_)
              refine lv_goto (tgt := 23) hx hb dX8_back_110 (by decide) ?_
              exact ih M (y1 + 1) H locs ls hf hP hS (lv_sub hl [4, 0] rfl)
            · have hf := zif_t c18 hf
              refine lv_aload_n hx hb dX8_back_71 rfl (lv_at hl 2 rfl) ?_
              refine x_get (j := 1) (v := .ref (G.2.1 1)) hx hb hts hi8 hown hK hP zkL_0 rfl (by decide) (hts (.fieldLink RX8 20 "LeaseOffice" "office" "LLeaseOffice$Office;") (by decide +kernel)) rfl (by decide) dX8_back_72 ?_
              refine lv_aload_n hx hb dX8_back_75 rfl (lv_at hl 1 rfl) ?_
              refine x_get (j := 1) (v := .int (M q4 1)) hx hb hts hi1 hown hK hP (kd_X8_holderAt hq4) rfl (by decide) (hts (.fieldLink RX8 273 "LeaseOffice$Holder" "number" "I") (by decide +kernel)) rfl (by decide) dX8_back_76 ?_
              obtain ⟨q21, hq21, hf⟩ := zb_e hf
              refine x_calli (x_runV (As := [.int (M q4 1)]) (rest := []) ⟨hx, hb, hml, hown, hts⟩ (c_X2_isTool l G hG M J 1 (M q4 1) zkL_1 hq21) (cwV 1 hts gX8_back_X2_isTool rfl rfl rfl (by decide +kernel) ⟨Nat.le_of_ble_eq_true rfl, Nat.le_of_ble_eq_true rfl⟩) hK hP zkL_1 (by decide) rfl rfl hl.1 rfl (Nat.le_of_ble_eq_true rfl) dX8_back_79 ⟨Nat.zero_le _, Nat.zero_le _⟩) hS (fun H locs hP hS => ?_)
              refine lv_if_ne (tgt := 89) hx hb dX8_back_82 (by decide) (fun c22 => ?_) (fun c22 => ?_)
              · have hf := zif_f c22 hf
                refine lv_iconst (v := 0) hx hb dX8_back_89 (by decide) ?_
                refine lv_istore (lv' := [(4, .int 0), (3, .int 0), (2, .ref (G.2.1 (q4))), (0, .ref (G.2.1 0)), (1, .int y1)]) hx hb dX8_back_90 hl (by decide) rfl (fun ls hl => ?_)
                refine lv_iload_n hx hb dX8_back_92 rfl (lv_at hl 1 rfl) ?_
                refine lv_if_ne (tgt := 101) hx hb dX8_back_93 (by decide) (fun c23 => absurd (by decide) c23) (fun _ => ?_)
                refine lv_iload hx hb dX8_back_96 (lv_at hl 0 rfl) ?_
                refine lv_if_eq (tgt := 107) hx hb dX8_back_98 (by decide) (fun _ => ?_) (fun c24 => absurd (by decide) c24)
                refine lv_iinc (v := (y1 + 1)) (lv' := [(1, .int (y1 + 1)), (4, .int 0), (3, .int 0), (2, .ref (G.2.1 (q4))), (0, .ref (G.2.1 0))]) hx hb dX8_back_107 hl (k := 4) rfl rfl (by decide) rfl (fun ls hl => ?_)
                refine lv_goto (tgt := 23) hx hb dX8_back_110 (by decide) ?_
                exact ih M (y1 + 1) H locs ls hf hP hS (lv_sub hl [4, 0] rfl)
              · have hf := zif_t c22 hf
                refine lv_iconst (v := 1) hx hb dX8_back_85 (by decide) ?_
                refine lv_goto (tgt := 90) hx hb dX8_back_86 (by decide) ?_
                refine lv_istore (lv' := [(4, .int 1), (3, .int 0), (2, .ref (G.2.1 (q4))), (0, .ref (G.2.1 0)), (1, .int y1)]) hx hb dX8_back_90 hl (by decide) rfl (fun ls hl => ?_)
                refine lv_iload_n hx hb dX8_back_92 rfl (lv_at hl 1 rfl) ?_
                refine lv_if_ne (tgt := 101) hx hb dX8_back_93 (by decide) (fun c25 => absurd (by decide) c25) (fun _ => ?_)
                refine lv_iload hx hb dX8_back_96 (lv_at hl 0 rfl) ?_
                refine lv_if_eq (tgt := 107) hx hb dX8_back_98 (by decide) (fun c26 => absurd c26 (by decide)) (fun _ => ?_)
                refine lv_aload_n hx hb dX8_back_101 rfl (lv_at hl 2 rfl) ?_
                refine lv_iconst (v := 0) hx hb dX8_back_102 (by decide) ?_
                refine lv_iconst (v := 0) hx hb dX8_back_103 (by decide) ?_
                obtain ⟨q27, hq27, hf⟩ := zb_e hf
                refine x_callv (x_runV (As := [.int 0, .int 0]) (rest := []) ⟨hx, hb, hml, hown, hts⟩ (c_X1_take l G hG M J q4 0 0 (kd_X8_holderAt hq4) hq27) (cwV 2 hts gX8_back_X1_take rfl rfl rfl (by decide +kernel) ⟨Nat.le_of_ble_eq_true rfl, Nat.le_of_ble_eq_true rfl⟩) hK hP (kd_X8_holderAt hq4) (by decide) rfl rfl hl.1 rfl (Nat.le_of_ble_eq_true rfl) dX8_back_104 ⟨Nat.zero_le _, Nat.zero_le _⟩) hS (fun H locs hP hS => ?_)
                refine lv_iinc (v := (y1 + 1)) (lv' := [(1, .int (y1 + 1)), (4, .int 1), (3, .int 0), (2, .ref (G.2.1 (q4))), (0, .ref (G.2.1 0))]) hx hb dX8_back_107 hl (k := 4) rfl rfl (by decide) rfl (fun ls hl => ?_)
                refine lv_goto (tgt := 23) hx hb dX8_back_110 (by decide) ?_
                exact ih q27 (y1 + 1) H locs ls hf hP hS (lv_sub hl [4, 0] rfl)
          · have hf := zif_t c17 hf
            refine lv_iconst (v := 1) hx hb dX8_back_57 (by decide) ?_
            refine lv_goto (tgt := 62) hx hb dX8_back_58 (by decide) ?_
            refine lv_istore_n (lv' := [(3, .int 1), (2, .ref (G.2.1 (q4))), (0, .ref (G.2.1 0)), (1, .int y1)]) hx hb dX8_back_62 rfl hl (by decide) rfl (fun ls hl => ?_)
            refine lv_aload_n hx hb dX8_back_63 rfl (lv_at hl 1 rfl) ?_
            refine x_get (j := 0) (v := .int (M q4 0)) hx hb hts hi1 hown hK hP (kd_X8_holderAt hq4) rfl (by decide) (hts (.fieldLink RX8 229 "LeaseOffice$Holder" "sort" "I") (by decide +kernel)) rfl (by decide) dX8_back_64 ?_
            refine lv_iconst (v := 2) hx hb dX8_back_67 (by decide) ?_
            refine lv_icmp_ne (tgt := 89) hx hb dX8_back_68 (by decide) (fun c28 => ?_) (fun c28 => ?_)
            · have hf := zif_f c28 hf
              refine lv_iconst (v := 0) hx hb dX8_back_89 (by decide) ?_
              refine lv_istore (lv' := [(4, .int 0), (3, .int 1), (2, .ref (G.2.1 (q4))), (0, .ref (G.2.1 0)), (1, .int y1)]) hx hb dX8_back_90 hl (by decide) rfl (fun ls hl => ?_)
              refine lv_iload_n hx hb dX8_back_92 rfl (lv_at hl 1 rfl) ?_
              refine lv_if_ne (tgt := 101) hx hb dX8_back_93 (by decide) (fun _ => ?_) (fun c29 => absurd (c29) (by decide))
              refine lv_aload_n hx hb dX8_back_101 rfl (lv_at hl 2 rfl) ?_
              refine lv_iconst (v := 0) hx hb dX8_back_102 (by decide) ?_
              refine lv_iconst (v := 0) hx hb dX8_back_103 (by decide) ?_
              obtain ⟨q30, hq30, hf⟩ := zb_e hf
              refine x_callv (x_runV (As := [.int 0, .int 0]) (rest := []) ⟨hx, hb, hml, hown, hts⟩ (c_X1_take l G hG M J q4 0 0 (kd_X8_holderAt hq4) hq30) (cwV 2 hts gX8_back_X1_take rfl rfl rfl (by decide +kernel) ⟨Nat.le_of_ble_eq_true rfl, Nat.le_of_ble_eq_true rfl⟩) hK hP (kd_X8_holderAt hq4) (by decide) rfl rfl hl.1 rfl (Nat.le_of_ble_eq_true rfl) dX8_back_104 ⟨Nat.zero_le _, Nat.zero_le _⟩) hS (fun H locs hP hS => ?_)
              refine lv_iinc (v := (y1 + 1)) (lv' := [(1, .int (y1 + 1)), (4, .int 0), (3, .int 1), (2, .ref (G.2.1 (q4))), (0, .ref (G.2.1 0))]) hx hb dX8_back_107 hl (k := 4) rfl rfl (by decide) rfl (fun ls hl => ?_)
              refine lv_goto (tgt := 23) hx hb dX8_back_110 (by decide) ?_
              exact ih q30 (y1 + 1) H locs ls hf hP hS (lv_sub hl [4, 0] rfl)
            · have hf := zif_t c28 hf
              refine lv_aload_n hx hb dX8_back_71 rfl (lv_at hl 2 rfl) ?_
              refine x_get (j := 1) (v := .ref (G.2.1 1)) hx hb hts hi8 hown hK hP zkL_0 rfl (by decide) (hts (.fieldLink RX8 20 "LeaseOffice" "office" "LLeaseOffice$Office;") (by decide +kernel)) rfl (by decide) dX8_back_72 ?_
              refine lv_aload_n hx hb dX8_back_75 rfl (lv_at hl 1 rfl) ?_
              refine x_get (j := 1) (v := .int (M q4 1)) hx hb hts hi1 hown hK hP (kd_X8_holderAt hq4) rfl (by decide) (hts (.fieldLink RX8 273 "LeaseOffice$Holder" "number" "I") (by decide +kernel)) rfl (by decide) dX8_back_76 ?_
              obtain ⟨q31, hq31, hf⟩ := zb_e hf
              refine x_calli (x_runV (As := [.int (M q4 1)]) (rest := []) ⟨hx, hb, hml, hown, hts⟩ (c_X2_isTool l G hG M J 1 (M q4 1) zkL_1 hq31) (cwV 1 hts gX8_back_X2_isTool rfl rfl rfl (by decide +kernel) ⟨Nat.le_of_ble_eq_true rfl, Nat.le_of_ble_eq_true rfl⟩) hK hP zkL_1 (by decide) rfl rfl hl.1 rfl (Nat.le_of_ble_eq_true rfl) dX8_back_79 ⟨Nat.zero_le _, Nat.zero_le _⟩) hS (fun H locs hP hS => ?_)
              refine lv_if_ne (tgt := 89) hx hb dX8_back_82 (by decide) (fun c32 => ?_) (fun c32 => ?_)
              · have hf := zif_f c32 hf
                refine lv_iconst (v := 0) hx hb dX8_back_89 (by decide) ?_
                refine lv_istore (lv' := [(4, .int 0), (3, .int 1), (2, .ref (G.2.1 (q4))), (0, .ref (G.2.1 0)), (1, .int y1)]) hx hb dX8_back_90 hl (by decide) rfl (fun ls hl => ?_)
                refine lv_iload_n hx hb dX8_back_92 rfl (lv_at hl 1 rfl) ?_
                refine lv_if_ne (tgt := 101) hx hb dX8_back_93 (by decide) (fun _ => ?_) (fun c33 => absurd (c33) (by decide))
                refine lv_aload_n hx hb dX8_back_101 rfl (lv_at hl 2 rfl) ?_
                refine lv_iconst (v := 0) hx hb dX8_back_102 (by decide) ?_
                refine lv_iconst (v := 0) hx hb dX8_back_103 (by decide) ?_
                obtain ⟨q34, hq34, hf⟩ := zb_e hf
                refine x_callv (x_runV (As := [.int 0, .int 0]) (rest := []) ⟨hx, hb, hml, hown, hts⟩ (c_X1_take l G hG M J q4 0 0 (kd_X8_holderAt hq4) hq34) (cwV 2 hts gX8_back_X1_take rfl rfl rfl (by decide +kernel) ⟨Nat.le_of_ble_eq_true rfl, Nat.le_of_ble_eq_true rfl⟩) hK hP (kd_X8_holderAt hq4) (by decide) rfl rfl hl.1 rfl (Nat.le_of_ble_eq_true rfl) dX8_back_104 ⟨Nat.zero_le _, Nat.zero_le _⟩) hS (fun H locs hP hS => ?_)
                refine lv_iinc (v := (y1 + 1)) (lv' := [(1, .int (y1 + 1)), (4, .int 0), (3, .int 1), (2, .ref (G.2.1 (q4))), (0, .ref (G.2.1 0))]) hx hb dX8_back_107 hl (k := 4) rfl rfl (by decide) rfl (fun ls hl => ?_)
                refine lv_goto (tgt := 23) hx hb dX8_back_110 (by decide) ?_
                exact ih q34 (y1 + 1) H locs ls hf hP hS (lv_sub hl [4, 0] rfl)
              · have hf := zif_t c32 hf
                refine lv_iconst (v := 1) hx hb dX8_back_85 (by decide) ?_
                refine lv_goto (tgt := 90) hx hb dX8_back_86 (by decide) ?_
                refine lv_istore (lv' := [(4, .int 1), (3, .int 1), (2, .ref (G.2.1 (q4))), (0, .ref (G.2.1 0)), (1, .int y1)]) hx hb dX8_back_90 hl (by decide) rfl (fun ls hl => ?_)
                refine lv_iload_n hx hb dX8_back_92 rfl (lv_at hl 1 rfl) ?_
                refine lv_if_ne (tgt := 101) hx hb dX8_back_93 (by decide) (fun _ => ?_) (fun c35 => absurd (c35) (by decide))
                refine lv_aload_n hx hb dX8_back_101 rfl (lv_at hl 2 rfl) ?_
                refine lv_iconst (v := 0) hx hb dX8_back_102 (by decide) ?_
                refine lv_iconst (v := 0) hx hb dX8_back_103 (by decide) ?_
                obtain ⟨q36, hq36, hf⟩ := zb_e hf
                refine x_callv (x_runV (As := [.int 0, .int 0]) (rest := []) ⟨hx, hb, hml, hown, hts⟩ (c_X1_take l G hG M J q4 0 0 (kd_X8_holderAt hq4) hq36) (cwV 2 hts gX8_back_X1_take rfl rfl rfl (by decide +kernel) ⟨Nat.le_of_ble_eq_true rfl, Nat.le_of_ble_eq_true rfl⟩) hK hP (kd_X8_holderAt hq4) (by decide) rfl rfl hl.1 rfl (Nat.le_of_ble_eq_true rfl) dX8_back_104 ⟨Nat.zero_le _, Nat.zero_le _⟩) hS (fun H locs hP hS => ?_)
                refine lv_iinc (v := (y1 + 1)) (lv' := [(1, .int (y1 + 1)), (4, .int 1), (3, .int 1), (2, .ref (G.2.1 (q4))), (0, .ref (G.2.1 0))]) hx hb dX8_back_107 hl (k := 4) rfl rfl (by decide) rfl (fun ls hl => ?_)
                refine lv_goto (tgt := 23) hx hb dX8_back_110 (by decide) ?_
                exact ih q36 (y1 + 1) H locs ls hf hP hS (lv_sub hl [4, 0] rfl)
  unfold f_X8_back at hf
  refine lv_aload_n hx hb dX8_back_0 rfl (lv_at hl 0 rfl) ?_
  refine x_get (j := 8) (v := .int (I 0 8)) hx hb hts hi8 hown hK hP zkL_0 rfl (by decide) (hts (.fieldLink RX8 269 "LeaseOffice" "hasImage" "Z") (by decide +kernel)) rfl (by decide) dX8_back_1 ?_
  refine lv_if_ne (tgt := 10) hx hb dX8_back_4 (by decide) (fun c1 => ?_) (fun c1 => ?_)
  · have hf := zif_f c1 hf
    refine lv_aload_n hx hb dX8_back_10 rfl (lv_at hl 0 rfl) ?_
    refine x_get (j := 1) (v := .ref (G.2.1 1)) hx hb hts hi8 hown hK hP zkL_0 rfl (by decide) (hts (.fieldLink RX8 20 "LeaseOffice" "office" "LLeaseOffice$Office;") (by decide +kernel)) rfl (by decide) dX8_back_11 ?_
    refine lv_aload_n hx hb dX8_back_14 rfl (lv_at hl 0 rfl) ?_
    refine x_get (j := 2) (v := .ref (G.2.1 110)) hx hb hts hi8 hown hK hP zkL_0 rfl (by decide) (hts (.fieldLink RX8 24 "LeaseOffice" "imageKept" "LLeaseOffice$Office;") (by decide +kernel)) rfl (by decide) dX8_back_15 ?_
    obtain ⟨q2, hq2, hf⟩ := zb_e hf
    refine x_callv (x_runV (As := [.ref (G.2.1 110)]) (rest := []) ⟨hx, hb, hml, hown, hts⟩ (c_X2_copyFrom l G hG I J 1 110 zkL_1 zkL_110 hq2) (cwV 1 hts gX8_back_X2_copyFrom rfl rfl rfl (by decide +kernel) ⟨Nat.le_of_ble_eq_true rfl, Nat.le_of_ble_eq_true rfl⟩) hK hP zkL_1 (by decide) rfl rfl hl.1 rfl (Nat.le_of_ble_eq_true rfl) dX8_back_18 ⟨Nat.zero_le _, Nat.zero_le _⟩) hS (fun H locs hP hS => ?_)
    refine lv_iconst (v := 0) hx hb dX8_back_21 (by decide) ?_
    refine lv_istore_n (lv' := [(1, .int 0), (0, .ref (G.2.1 0))]) hx hb dX8_back_22 rfl hl (by decide) rfl (fun ls hl => ?_)
    exact L23 zFu q2 0 H locs ls hf hP hS (lv_sub hl [1, 0] rfl)
  · have hf := zif_t c1 hf
    refine lv_bipush (v := (-5)) hx hb dX8_back_7 (by decide) ?_
    obtain rfl := Option.some.inj hf
    exact x_iret hx hb hr hlocks hK hP hS dX8_back_9
