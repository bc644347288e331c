set_option maxRecDepth 100000 in
set_option maxHeartbeats 4000000 in
theorem c_X9_swapsNow (l : Launch) (G : zGT) (hG : zOK G) (I J : zM) (x1 : Int32) {r : Int32 × zM} (hf : f_X9_swapsNow J x1 = some r) : Met l yX9_swapsNow wsX9_swapsNow (zrm 5 121) (va_Pc [.ref (G.2.1 359), .int x1] (zS G I J)) (zQi G r.1 I r.2) 0 0 (zA G) := by
  refine zMet (cc := cX9_swapsNow) (n := 9) (ret := (some .int)) (by decide) rfl (Nat.le_of_ble_eq_true rfl) ?_
  intro p e s m args below meth c H locs ls F hK hP hS hl
  obtain ⟨hx, hb, hr, hml, hts, hown, hlocks⟩ := F
  have hown : s.vm.findClass RX9 = some m.cls := hown
  have hl : lv_has ls 9 [(0, .ref (G.2.1 359)), (1, .int x1)] := hl
  have hi9 : ∀ w ∈ wsX90, w ∈ wsX9_swapsNow := fun _ h => List.mem_cons_of_mem _ (List.mem_append_right _ h)
  have L30 : ∀ (y5 : Int32) (K : zM → Int32 → Int32 → Int32 → Option (Int32 × zM)) (hKK : ∀ (M2 : zM) (z2 : Int32) (z3 : Int32) (z4 : Int32) (H : Heap) (locs : List Loc) (ls : Array Slot), K M2 z2 z3 z4 = some r → va_P G.1 vwCl (zW G I M2) H → va_S (zA G) s.heap H locs → lv_has ls 9 [(0, .ref (G.2.1 359)), (1, .int x1), (2, .int z2), (3, .int z3), (4, .int z4), (5, .int y5)] → W p l e (zrm 5 121) s m args below meth c H locs 0 0 (MQ below (zQi G r.1 I r.2) args s 0 0 (zA G)) (F0 m 148 ls [])) (n : Nat) (M : zM) (y2 : Int32) (y3 : Int32) (y4 : Int32) (y6 : Int32) (H : Heap) (locs : List Loc) (ls : Array Slot), f_X9_swapsNow_l30 x1 y5 K n M y2 y3 y4 y6 = some r → va_P G.1 vwCl (zW G I M) H → va_S (zA G) s.heap H locs → lv_has ls 9 [(0, .ref (G.2.1 359)), (1, .int x1), (2, .int y2), (3, .int y3), (4, .int y4), (5, .int y5), (6, .int y6)] → W p l e (zrm 5 121) s m args below meth c H locs 0 0 (MQ below (zQi G r.1 I r.2) args s 0 0 (zA G)) (F0 m 30 ls []) := by
    intro y5 K hKK n
    induction n with
    | zero =>
      intro M y2 y3 y4 y6 H locs ls hf
      rw [f_X9_swapsNow_l30] at hf
      cases hf
    | succ n ih =>
      intro M y2 y3 y4 y6 H locs ls hf hP hS hl
      rw [f_X9_swapsNow_l30] at hf
      refine lv_iload hx hb dX9_swapsNow_30 (lv_at hl 6 rfl) ?_
      refine lv_aload_n hx hb dX9_swapsNow_32 rfl (lv_at hl 0 rfl) ?_
      refine x_get (j := 0) (v := .ref (G.2.1 360)) hx hb hts hi9 hown hK hP zkL_359 rfl (by decide) (hts (.fieldLink RX9 9 "LeaseOfficeModel" "g" "[I") (by decide +kernel)) rfl (by decide) dX9_swapsNow_33 ?_
      refine lv_sipush (v := 1081) hx hb dX9_swapsNow_36 (by decide) ?_
      refine x_ialdL (j := 1081) hx hb hK hP (zK_lt zkL_360 (by decide)) (zE_15 (j := 1) zkL_360 zlL_360 rfl) (by decide) (by decide) dX9_swapsNow_39 ?_
      refine lv_icmp_ge (tgt := 148) hx hb dX9_swapsNow_40 (by decide) (fun c3 => ?_) (fun c3 => ?_)
      · have hf := zif_t c3 hf
        exact hKK M y2 y3 y4 H locs ls hf hP hS (lv_sub hl [0, 1, 2, 3, 4, 5] rfl)
      · have hf := zif_f c3 hf
        refine lv_aload_n hx hb dX9_swapsNow_43 rfl (lv_at hl 0 rfl) ?_
        refine lv_iload hx hb dX9_swapsNow_44 (lv_at hl 5 rfl) ?_
        refine lv_iload hx hb dX9_swapsNow_46 (lv_at hl 6 rfl) ?_
        obtain ⟨q4, hq4, hf⟩ := zb_e hf
        refine x_calli (x_runV (As := [.int y5, .int y6]) (rest := []) ⟨hx, hb, hml, hown, hts⟩ (c_X9_mayBeSwapped l G hG I M y5 y6 hq4) (cwV 2 hts gX9_swapsNow_X9_mayBeSwapped rfl rfl rfl (by decide +kernel) ⟨Nat.le_of_ble_eq_true rfl, Nat.le_of_ble_eq_true rfl⟩) hK hP zkL_359 (by decide) rfl rfl hl.1 rfl (Nat.le_of_ble_eq_true rfl) dX9_swapsNow_48 ⟨Nat.zero_le _, Nat.zero_le _⟩) hS (fun H locs hP hS => ?_)
        refine lv_if_eq (tgt := 142) hx hb dX9_swapsNow_51 (by decide) (fun c5 => ?_) (fun c5 => ?_)
        · have hf := zif_t c5 hf
          refine lv_iinc (v := (y6 + 1)) (lv' := [(6, .int (y6 + 1)), (0, .ref (G.2.1 359)), (1, .int x1), (2, .int y2), (3, .int y3), (4, .int y4), (5, .int y5)]) hx hb dX9_swapsNow_142 hl (k := 6) rfl rfl (by decide) rfl (fun ls hl => ?_)
          refine lv_goto (tgt := 30) hx hb dX9_swapsNow_145 (by decide) ?_
          exact ih M y2 y3 y4 (y6 + 1) H locs ls hf hP hS (lv_sub hl [1, 2, 3, 4, 5, 6, 0] rfl)
        · have hf := zif_f c5 hf
          refine lv_aload_n hx hb dX9_swapsNow_54 rfl (lv_at hl 0 rfl) ?_
          refine lv_iload hx hb dX9_swapsNow_55 (lv_at hl 5 rfl) ?_
          refine lv_iload hx hb dX9_swapsNow_57 (lv_at hl 6 rfl) ?_
          obtain ⟨q6, hq6, hf⟩ := zb_e hf
          refine x_calli (x_runV (As := [.int y5, .int y6]) (rest := []) ⟨hx, hb, hml, hown, hts⟩ (c_X9_gain l G hG I M y5 y6 hq6) (cwV 2 hts gX9_swapsNow_X9_gain rfl rfl rfl (by decide +kernel) ⟨Nat.le_of_ble_eq_true rfl, Nat.le_of_ble_eq_true rfl⟩) hK hP zkL_359 (by decide) rfl rfl hl.1 rfl (Nat.le_of_ble_eq_true rfl) dX9_swapsNow_59 ⟨Nat.zero_le _, Nat.zero_le _⟩) hS (fun H locs hP hS => ?_)
          refine lv_istore (lv' := [(7, .int q6), (0, .ref (G.2.1 359)), (1, .int x1), (2, .int y2), (3, .int y3), (4, .int y4), (5, .int y5), (6, .int y6)]) hx hb dX9_swapsNow_62 hl (by decide) rfl (fun ls hl => ?_)
          refine lv_aload_n hx hb dX9_swapsNow_64 rfl (lv_at hl 1 rfl) ?_
          refine x_get (j := 0) (v := .ref (G.2.1 360)) hx hb hts hi9 hown hK hP zkL_359 rfl (by decide) (hts (.fieldLink RX9 9 "LeaseOfficeModel" "g" "[I") (by decide +kernel)) rfl (by decide) dX9_swapsNow_65 ?_
          refine lv_aload_n hx hb dX9_swapsNow_68 rfl (lv_at hl 1 rfl) ?_
          refine x_get (j := 1) (v := .ref (G.2.1 361)) hx hb hts hi9 hown hK hP zkL_359 rfl (by decide) (hts (.fieldLink RX9 13 "LeaseOfficeModel" "saved" "[I") (by decide +kernel)) rfl (by decide) dX9_swapsNow_69 ?_
          obtain ⟨q7, hq7, hf⟩ := zb_e hf
          refine x_callv (x_runS (As := [.ref (G.2.1 360), .ref (G.2.1 361)]) (rest := []) ⟨hx, hb, hml, hown, hts⟩ (c_X9_take l G hG I M 1 2 (by decide) (by decide) hq7) (va_cwS 2 hts gX9_swapsNow_X9_take rfl rfl rfl (by decide +kernel) ⟨Nat.le_of_ble_eq_true rfl, Nat.le_of_ble_eq_true rfl⟩) hK hP rfl hl.1 rfl (Nat.le_of_ble_eq_true rfl) dX9_swapsNow_72 ⟨Nat.zero_le _, Nat.zero_le _⟩) hS (fun H locs hP hS => ?_)
          refine lv_aload_n hx hb dX9_swapsNow_75 rfl (lv_at hl 1 rfl) ?_
          refine lv_iload hx hb dX9_swapsNow_76 (lv_at hl 6 rfl) ?_
          refine lv_iload hx hb dX9_swapsNow_78 (lv_at hl 7 rfl) ?_
          obtain ⟨q8, hq8, hf⟩ := zb_e hf
          refine x_calli (x_runV (As := [.int y5, .int y6]) (rest := []) ⟨hx, hb, hml, hown, hts⟩ (c_X9_swapped l G hG I q7 y5 y6 hq8) (cwV 2 hts gX9_swapsNow_X9_swapped rfl rfl rfl (by decide +kernel) ⟨Nat.le_of_ble_eq_true rfl, Nat.le_of_ble_eq_true rfl⟩) hK hP zkL_359 (by decide) rfl rfl hl.1 rfl (Nat.le_of_ble_eq_true rfl) dX9_swapsNow_80 ⟨Nat.zero_le _, Nat.zero_le _⟩) hS (fun H locs hP hS => ?_)
          refine lv_if_ne (tgt := 90) hx hb dX9_swapsNow_83 (by decide) (fun c9 => ?_) (fun c9 => ?_)
          · have hf := zif_f c9 hf
            refine lv_iconst (v := 0) hx hb dX9_swapsNow_90 (by decide) ?_
            refine lv_istore (lv' := [(8, .int 0), (7, .int q6), (0, .ref (G.2.1 359)), (1, .int x1), (2, .int y2), (3, .int y3), (4, .int y4), (5, .int y5), (6, .int y6)]) hx hb dX9_swapsNow_91 hl (by decide) rfl (fun ls hl => ?_)
            refine lv_aload_n hx hb dX9_swapsNow_93 rfl (lv_at hl 2 rfl) ?_
            refine x_get (j := 1) (v := .ref (G.2.1 361)) hx hb hts hi9 hown hK hP zkL_359 rfl (by decide) (hts (.fieldLink RX9 13 "LeaseOfficeModel" "saved" "[I") (by decide +kernel)) rfl (by decide) dX9_swapsNow_94 ?_
            refine lv_aload_n hx hb dX9_swapsNow_97 rfl (lv_at hl 2 rfl) ?_
            refine x_get (j := 0) (v := .ref (G.2.1 360)) hx hb hts hi9 hown hK hP zkL_359 rfl (by decide) (hts (.fieldLink RX9 9 "LeaseOfficeModel" "g" "[I") (by decide +kernel)) rfl (by decide) dX9_swapsNow_98 ?_
            obtain ⟨q10, hq10, hf⟩ := zb_e hf
            refine x_callv (x_runS (As := [.ref (G.2.1 361), .ref (G.2.1 360)]) (rest := []) ⟨hx, hb, hml, hown, hts⟩ (c_X9_take l G hG I q8.2 2 1 (by decide) (by decide) hq10) (va_cwS 2 hts gX9_swapsNow_X9_take rfl rfl rfl (by decide +kernel) ⟨Nat.le_of_ble_eq_true rfl, Nat.le_of_ble_eq_true rfl⟩) hK hP rfl hl.1 rfl (Nat.le_of_ble_eq_true rfl) dX9_swapsNow_101 ⟨Nat.zero_le _, Nat.zero_le _⟩) hS (fun H locs hP hS => ?_)
            refine lv_iload_n hx hb dX9_swapsNow_104 rfl (lv_at hl 4 rfl) ?_
            refine lv_iload hx hb dX9_swapsNow_105 (lv_at hl 0 rfl) ?_
            refine lv_if_eq (tgt := 114) hx hb dX9_swapsNow_107 (by decide) (fun _ => ?_) (fun c11 => absurd (by decide) c11)
            refine lv_iconst (v := 0) hx hb dX9_swapsNow_114 (by decide) ?_
            refine lv_iadd hx hb dX9_swapsNow_115 ?_
            obtain ⟨w12, ew12, hf⟩ := zlet_e hf
            refine z_topi ew12 ?_
            refine lv_istore_n (lv' := [(2, .int w12), (8, .int 0), (7, .int q6), (0, .ref (G.2.1 359)), (1, .int x1), (3, .int y3), (4, .int y4), (5, .int y5), (6, .int y6)]) hx hb dX9_swapsNow_116 rfl hl (by decide) rfl (fun ls hl => ?_)
            refine lv_iload hx hb dX9_swapsNow_117 (lv_at hl 1 rfl) ?_
            refine lv_if_eq (tgt := 142) hx hb dX9_swapsNow_119 (by decide) (fun _ => ?_) (fun c13 => absurd (by decide) c13)
            refine lv_iinc (v := (y6 + 1)) (lv' := [(6, .int (y6 + 1)), (2, .int w12), (8, .int 0), (7, .int q6), (0, .ref (G.2.1 359)), (1, .int x1), (3, .int y3), (4, .int y4), (5, .int y5)]) hx hb dX9_swapsNow_142 hl (k := 8) rfl rfl (by decide) rfl (fun ls hl => ?_)
            refine lv_goto (tgt := 30) hx hb dX9_swapsNow_145 (by decide) ?_
            exact ih q10 w12 y3 y4 (y6 + 1) H locs ls hf hP hS (lv_sub hl [4, 5, 1, 6, 7, 8, 0] rfl)
          · have hf := zif_t c9 hf
            refine lv_iconst (v := 1) hx hb dX9_swapsNow_86 (by decide) ?_
            refine lv_goto (tgt := 91) hx hb dX9_swapsNow_87 (by decide) ?_
            refine lv_istore (lv' := [(8, .int 1), (7, .int q6), (0, .ref (G.2.1 359)), (1, .int x1), (2, .int y2), (3, .int y3), (4, .int y4), (5, .int y5), (6, .int y6)]) hx hb dX9_swapsNow_91 hl (by decide) rfl (fun ls hl => ?_)
            refine lv_aload_n hx hb dX9_swapsNow_93 rfl (lv_at hl 2 rfl) ?_
            refine x_get (j := 1) (v := .ref (G.2.1 361)) hx hb hts hi9 hown hK hP zkL_359 rfl (by decide) (hts (.fieldLink RX9 13 "LeaseOfficeModel" "saved" "[I") (by decide +kernel)) rfl (by decide) dX9_swapsNow_94 ?_
            refine lv_aload_n hx hb dX9_swapsNow_97 rfl (lv_at hl 2 rfl) ?_
            refine x_get (j := 0) (v := .ref (G.2.1 360)) hx hb hts hi9 hown hK hP zkL_359 rfl (by decide) (hts (.fieldLink RX9 9 "LeaseOfficeModel" "g" "[I") (by decide +kernel)) rfl (by decide) dX9_swapsNow_98 ?_
            obtain ⟨q14, hq14, hf⟩ := zb_e hf
            refine x_callv (x_runS (As := [.ref (G.2.1 361), .ref (G.2.1 360)]) (rest := []) ⟨hx, hb, hml, hown, hts⟩ (c_X9_take l G hG I q8.2 2 1 (by decide) (by decide) hq14) (va_cwS 2 hts gX9_swapsNow_X9_take rfl rfl rfl (by decide +kernel) ⟨Nat.le_of_ble_eq_true rfl, Nat.le_of_ble_eq_true rfl⟩) hK hP rfl hl.1 rfl (Nat.le_of_ble_eq_true rfl) dX9_swapsNow_101 ⟨Nat.zero_le _, Nat.zero_le _⟩) hS (fun H locs hP hS => ?_)
            refine lv_iload_n hx hb dX9_swapsNow_104 rfl (lv_at hl 4 rfl) ?_
            refine lv_iload hx hb dX9_swapsNow_105 (lv_at hl 0 rfl) ?_
            refine lv_if_eq (tgt := 114) hx hb dX9_swapsNow_107 (by decide) (fun c15 => absurd c15 (by decide)) (fun _ => ?_)
            refine lv_iconst (v := 1) hx hb dX9_swapsNow_110 (by decide) ?_
            refine lv_goto (tgt := 115) hx hb dX9_swapsNow_111 (by decide) ?_
            refine lv_iadd hx hb dX9_swapsNow_115 ?_
            obtain ⟨w16, ew16, hf⟩ := zlet_e hf
            refine z_topi ew16 ?_
            refine lv_istore_n (lv' := [(2, .int w16), (8, .int 1), (7, .int q6), (0, .ref (G.2.1 359)), (1, .int x1), (3, .int y3), (4, .int y4), (5, .int y5), (6, .int y6)]) hx hb dX9_swapsNow_116 rfl hl (by decide) rfl (fun ls hl => ?_)
            refine lv_iload hx hb dX9_swapsNow_117 (lv_at hl 1 rfl) ?_
            refine lv_if_eq (tgt := 142) hx hb dX9_swapsNow_119 (by decide) (fun c17 => absurd c17 (by decide)) (fun _ => ?_)
            refine lv_iload hx hb dX9_swapsNow_122 (lv_at hl 2 rfl) ?_
            refine lv_iload hx hb dX9_swapsNow_124 (lv_at hl 6 rfl) ?_
            refine lv_icmp_le (tgt := 142) hx hb dX9_swapsNow_126 (by decide) (fun c18 => ?_) (fun c18 => ?_)
            · have hf := zif_t c18 hf
              refine lv_iinc (v := (y6 + 1)) (lv' := [(6, .int (y6 + 1)), (2, .int w16), (8, .int 1), (7, .int q6), (0, .ref (G.2.1 359)), (1, .int x1), (3, .int y3), (4, .int y4), (5, .int y5)]) hx hb dX9_swapsNow_142 hl (k := 8) rfl rfl (by decide) rfl (fun ls hl => ?_)
              refine lv_goto (tgt := 30) hx hb dX9_swapsNow_145 (by decide) ?_
              exact ih q14 w16 y3 y4 (y6 + 1) H locs ls hf hP hS (lv_sub hl [4, 5, 1, 6, 7, 8, 0] rfl)
            · have hf := zif_f c18 hf
              refine lv_iload hx hb dX9_swapsNow_129 (lv_at hl 2 rfl) ?_
              refine lv_istore (lv' := [(4, .int q6), (2, .int w16), (8, .int 1), (7, .int q6), (0, .ref (G.2.1 359)), (1, .int x1), (3, .int y3), (5, .int y5), (6, .int y6)]) hx hb dX9_swapsNow_131 hl (by decide) rfl (fun ls hl => ?_)
              refine lv_bipush (v := 10) hx hb dX9_swapsNow_133 (by decide) ?_
              refine lv_iload hx hb dX9_swapsNow_135 (lv_at hl 7 rfl) ?_
              refine lv_imul hx hb dX9_swapsNow_137 ?_
              refine lv_iload hx hb dX9_swapsNow_138 (lv_at hl 8 rfl) ?_
              refine lv_iadd hx hb dX9_swapsNow_140 ?_
              obtain ⟨w19, ew19, hf⟩ := zlet_e hf
              refine z_topi ew19 ?_
              refine lv_istore_n (lv' := [(3, .int w19), (4, .int q6), (2, .int w16), (8, .int 1), (7, .int q6), (0, .ref (G.2.1 359)), (1, .int x1), (5, .int y5), (6, .int y6)]) hx hb dX9_swapsNow_141 rfl hl (by decide) rfl (fun ls hl => ?_)
              refine lv_iinc (v := (y6 + 1)) (lv' := [(6, .int (y6 + 1)), (3, .int w19), (4, .int q6), (2, .int w16), (8, .int 1), (7, .int q6), (0, .ref (G.2.1 359)), (1, .int x1), (5, .int y5)]) hx hb dX9_swapsNow_142 hl (k := 8) rfl rfl (by decide) rfl (fun ls hl => ?_)
              refine lv_goto (tgt := 30) hx hb dX9_swapsNow_145 (by decide) ?_
              exact ih q14 w16 w19 q6 (y6 + 1) H locs ls hf hP hS (lv_sub hl [6, 7, 3, 1, 2, 8, 0] rfl)
  have L11 : ∀ (K : zM → Int32 → Int32 → Option (Int32 × zM)) (hKK : ∀ (M2 : zM) (z2 : Int32) (z3 : Int32) (H : Heap) (locs : List Loc) (ls : Array Slot), K M2 z2 z3 = some r → va_P G.1 vwCl (zW G I M2) H → va_S (zA G) s.heap H locs → lv_has ls 9 [(1, .int x1), (2, .int z2), (3, .int z3)] → W p l e (zrm 5 121) s m args below meth c H locs 0 0 (MQ below (zQi G r.1 I r.2) args s 0 0 (zA G)) (F0 m 154 ls [])) (n : Nat) (M : zM) (y2 : Int32) (y3 : Int32) (y4 : Int32) (y5 : Int32) (H : Heap) (locs : List Loc) (ls : Array Slot), f_X9_swapsNow_l11 x1 K n M y2 y3 y4 y5 = some r → va_P G.1 vwCl (zW G I M) H → va_S (zA G) s.heap H locs → lv_has ls 9 [(0, .ref (G.2.1 359)), (1, .int x1), (2, .int y2), (3, .int y3), (4, .int y4), (5, .int y5)] → W p l e (zrm 5 121) s m args below meth c H locs 0 0 (MQ below (zQi G r.1 I r.2) args s 0 0 (zA G)) (F0 m 11 ls []) := by
    intro K hKK n
    induction n with
    | zero =>
      intro M y2 y3 y4 y5 H locs ls hf
      rw [f_X9_swapsNow_l11] at hf
      cases hf
    | succ n ih =>
      intro M y2 y3 y4 y5 H locs ls hf hP hS hl
      rw [f_X9_swapsNow_l11] at hf
      refine lv_iload hx hb dX9_swapsNow_11 (lv_at hl 5 rfl) ?_
      refine lv_aload_n hx hb dX9_swapsNow_13 rfl (lv_at hl 0 rfl) ?_
      refine x_get (j := 0) (v := .ref (G.2.1 360)) hx hb hts hi9 hown hK hP zkL_359 rfl (by decide) (hts (.fieldLink RX9 9 "LeaseOfficeModel" "g" "[I") (by decide +kernel)) rfl (by decide) dX9_swapsNow_14 ?_
      refine lv_sipush (v := 1081) hx hb dX9_swapsNow_17 (by decide) ?_
      refine x_ialdL (j := 1081) hx hb hK hP (zK_lt zkL_360 (by decide)) (zE_15 (j := 1) zkL_360 zlL_360 rfl) (by decide) (by decide) dX9_swapsNow_20 ?_
      refine lv_icmp_ge (tgt := 154) hx hb dX9_swapsNow_21 (by decide) (fun c1 => ?_) (fun c1 => ?_)
      · have hf := zif_t c1 hf
        exact hKK M y2 y3 H locs ls hf hP hS (lv_sub hl [1, 2, 3] rfl)
      · have hf := zif_f c1 hf
        refine lv_iload hx hb dX9_swapsNow_24 (lv_at hl 5 rfl) ?_
        refine lv_iconst (v := 1) hx hb dX9_swapsNow_26 (by decide) ?_
        refine lv_iadd hx hb dX9_swapsNow_27 ?_
        obtain ⟨w2, ew2, hf⟩ := zlet_e hf
        refine z_topi ew2 ?_
        refine lv_istore (lv' := [(6, .int w2), (0, .ref (G.2.1 359)), (1, .int x1), (2, .int y2), (3, .int y3), (4, .int y4), (5, .int y5)]) hx hb dX9_swapsNow_28 hl (by decide) rfl (fun ls hl => ?_)
        refine L30 y5 _ (fun M20 z21 z22 z23 H locs ls hf hP hS hl => ?_) zFu M y2 y3 y4 w2 H locs ls hf hP hS (lv_sub hl [1, 2, 3, 4, 5, 6, 0] rfl)
        refine lv_iinc (v := (y5 + 1)) (lv' := [(5, .int (y5 + 1)), (0, .ref (G.2.1 359)), (1, .int x1), (2, .int z21), (3, .int z22), (4, .int z23)]) hx hb dX9_swapsNow_148 hl (k := 5) rfl rfl (by decide) rfl (fun ls hl => ?_)
        refine lv_goto (tgt := 11) hx hb dX9_swapsNow_151 (by decide) ?_
        exact ih M20 z21 z22 z23 (y5 + 1) H locs ls hf hP hS (lv_sub hl [1, 2, 3, 4, 5, 0] rfl)
  unfold f_X9_swapsNow at hf
  refine lv_iconst (v := 0) hx hb dX9_swapsNow_0 (by decide) ?_
  refine lv_istore_n (lv' := [(2, .int 0), (0, .ref (G.2.1 359)), (1, .int x1)]) hx hb dX9_swapsNow_1 rfl hl (by decide) rfl (fun ls hl => ?_)
  refine lv_bipush (v := (-2)) hx hb dX9_swapsNow_2 (by decide) ?_
  refine lv_istore_n (lv' := [(3, .int (-2)), (2, .int 0), (0, .ref (G.2.1 359)), (1, .int x1)]) hx hb dX9_swapsNow_4 rfl hl (by decide) rfl (fun ls hl => ?_)
  refine lv_iconst (v := 0) hx hb dX9_swapsNow_5 (by decide) ?_
  refine lv_istore (lv' := [(4, .int 0), (3, .int (-2)), (2, .int 0), (0, .ref (G.2.1 359)), (1, .int x1)]) hx hb dX9_swapsNow_6 hl (by decide) rfl (fun ls hl => ?_)
  refine lv_iconst (v := 0) hx hb dX9_swapsNow_8 (by decide) ?_
  refine lv_istore (lv' := [(5, .int 0), (4, .int 0), (3, .int (-2)), (2, .int 0), (0, .ref (G.2.1 359)), (1, .int x1)]) hx hb dX9_swapsNow_9 hl (by decide) rfl (fun ls hl => ?_)
  refine L11 _ (fun M24 z25 z26 H locs ls hf hP hS hl => ?_) zFu J 0 (-2) 0 0 H locs ls hf hP hS (lv_sub hl [4, 5, 3, 2, 1, 0] rfl)
  refine lv_iload_n hx hb dX9_swapsNow_154 rfl (lv_at hl 0 rfl) ?_
  refine lv_if_ne (tgt := 162) hx hb dX9_swapsNow_155 (by decide) (fun c27 => ?_) (fun c27 => ?_)
  · have hf := zif_f c27 hf
    refine lv_iload_n hx hb dX9_swapsNow_162 rfl (lv_at hl 2 rfl) ?_
    obtain rfl := Option.some.inj hf
    exact x_iret hx hb hr hlocks hK hP hS dX9_swapsNow_163
  · have hf := zif_t c27 hf
    refine lv_iload_n hx hb dX9_swapsNow_158 rfl (lv_at hl 1 rfl) ?_
    refine lv_goto (tgt := 163) hx hb dX9_swapsNow_159 (by decide) ?_
    obtain rfl := Option.some.inj hf
    exact x_iret hx hb hr hlocks hK hP hS dX9_swapsNow_163
set_option maxRecDepth 100000 in
set_option maxHeartbeats 4000000 in
theorem c_X9_swaps (l : Launch) (G : zGT) (hG : zOK G) (I J : zM) (x1 : Int32) {r : Int32 × zM} (hf : f_X9_swaps J x1 = some r) : Met l yX9_swaps wsX9_swaps (zrm 6 149) (va_Pc [.ref (G.2.1 359), .int x1] (zS G I J)) (zQi G r.1 I r.2) 0 0 (zA G) := by
  refine zMet (cc := cX9_swaps) (n := 2) (ret := (some .int)) (by decide) rfl (Nat.le_of_ble_eq_true rfl) ?_
  intro p e s m args below meth c H locs ls F hK hP hS hl
  obtain ⟨hx, hb, hr, hml, hts, hown, hlocks⟩ := F
  have hown : s.vm.findClass RX9 = some m.cls := hown
  have hl : lv_has ls 2 [(0, .ref (G.2.1 359)), (1, .int x1)] := hl
  unfold f_X9_swaps at hf
  refine lv_iload_n hx hb dX9_swaps_0 rfl (lv_at hl 1 rfl) ?_
  refine lv_iconst (v := 0) hx hb dX9_swaps_1 (by decide) ?_
  refine lv_iconst (v := 3) hx hb dX9_swaps_2 (by decide) ?_
  obtain ⟨q1, hq1, hf⟩ := zb_e hf
  refine x_calli (x_runS (As := [.int x1, .int 0, .int 3]) (rest := []) ⟨hx, hb, hml, hown, hts⟩ (c_X9_in l G hG I J x1 0 3 hq1) (va_cwS 3 hts gX9_swaps_X9_in rfl rfl rfl (by decide +kernel) ⟨Nat.le_of_ble_eq_true rfl, Nat.le_of_ble_eq_true rfl⟩) hK hP rfl hl.1 rfl (Nat.le_of_ble_eq_true rfl) dX9_swaps_3 ⟨Nat.zero_le _, Nat.zero_le _⟩) hS (fun H locs hP hS => ?_)
  refine lv_if_ne (tgt := 11) hx hb dX9_swaps_6 (by decide) (fun c2 => ?_) (fun c2 => ?_)
  · have hf := zif_f c2 hf
    refine lv_iload_n hx hb dX9_swaps_11 rfl (lv_at hl 1 rfl) ?_
    refine lv_iconst (v := 2) hx hb dX9_swaps_12 (by decide) ?_
    refine lv_icmp_ge (tgt := 24) hx hb dX9_swaps_13 (by decide) (fun c3 => ?_) (fun c3 => ?_)
    · have hf := zif_t c3 hf
      refine lv_iload_n hx hb dX9_swaps_24 rfl (lv_at hl 1 rfl) ?_
      refine lv_iconst (v := 2) hx hb dX9_swaps_25 (by decide) ?_
      refine lv_icmp_ne (tgt := 36) hx hb dX9_swaps_26 (by decide) (fun c4 => ?_) (fun c4 => ?_)
      · have hf := zif_f c4 hf
        refine lv_aload_n hx hb dX9_swaps_36 rfl (lv_at hl 0 rfl) ?_
        obtain ⟨q5, hq5, hf⟩ := zb_e hf
        refine x_calli (x_runV (As := []) (rest := []) ⟨hx, hb, hml, hown, hts⟩ (c_X9_coins l G hG I J hq5) (cwV 0 hts gX9_swaps_X9_coins rfl rfl rfl (by decide +kernel) ⟨Nat.le_of_ble_eq_true rfl, Nat.le_of_ble_eq_true rfl⟩) hK hP zkL_359 (by decide) rfl rfl hl.1 rfl (Nat.le_of_ble_eq_true rfl) dX9_swaps_37 ⟨Nat.zero_le _, Nat.zero_le _⟩) hS (fun H locs hP hS => ?_)
        obtain rfl := Option.some.inj hf
        exact x_iret hx hb hr hlocks hK hP hS dX9_swaps_40
      · have hf := zif_t c4 hf
        refine lv_aload_n hx hb dX9_swaps_29 rfl (lv_at hl 0 rfl) ?_
        obtain ⟨q6, hq6, hf⟩ := zb_e hf
        refine x_calli (x_runV (As := []) (rest := []) ⟨hx, hb, hml, hown, hts⟩ (c_X9_rings l G hG I J hq6) (cwV 0 hts gX9_swaps_X9_rings rfl rfl rfl (by decide +kernel) ⟨Nat.le_of_ble_eq_true rfl, Nat.le_of_ble_eq_true rfl⟩) hK hP zkL_359 (by decide) rfl rfl hl.1 rfl (Nat.le_of_ble_eq_true rfl) dX9_swaps_30 ⟨Nat.zero_le _, Nat.zero_le _⟩) hS (fun H locs hP hS => ?_)
        refine lv_goto (tgt := 40) hx hb dX9_swaps_33 (by decide) ?_
        obtain rfl := Option.some.inj hf
        exact x_iret hx hb hr hlocks hK hP hS dX9_swaps_40
    · have hf := zif_f c3 hf
      refine lv_aload_n hx hb dX9_swaps_16 rfl (lv_at hl 0 rfl) ?_
      refine lv_iload_n hx hb dX9_swaps_17 rfl (lv_at hl 1 rfl) ?_
      obtain ⟨q7, hq7, hf⟩ := zb_e hf
      refine x_calli (x_runV (As := [.int x1]) (rest := []) ⟨hx, hb, hml, hown, hts⟩ (c_X9_swapsNow l G hG I J x1 hq7) (cwV 1 hts gX9_swaps_X9_swapsNow rfl rfl rfl (by decide +kernel) ⟨Nat.le_of_ble_eq_true rfl, Nat.le_of_ble_eq_true rfl⟩) hK hP zkL_359 (by decide) rfl rfl hl.1 rfl (Nat.le_of_ble_eq_true rfl) dX9_swaps_18 ⟨Nat.zero_le _, Nat.zero_le _⟩) hS (fun H locs hP hS => ?_)
      refine lv_goto (tgt := 40) hx hb dX9_swaps_21 (by decide) ?_
      obtain rfl := Option.some.inj hf
      exact x_iret hx hb hr hlocks hK hP hS dX9_swaps_40
  · have hf := zif_t c2 hf
    refine lv_iconst (v := (-1)) hx hb dX9_swaps_9 (by decide) ?_
    obtain rfl := Option.some.inj hf
    exact x_iret hx hb hr hlocks hK hP hS dX9_swaps_10
set_option maxRecDepth 100000 in
set_option maxHeartbeats 4000000 in
theorem c_X9_tells (l : Launch) (G : zGT) (hG : zOK G) (I J : zM) (x1 : Int32) (x2 : Int32) {r : Int32} (hf : f_X9_tells J x1 x2 = some r) : Met l yX9_tells wsX9_tells (zrm 2 43) (va_Pc [.ref (G.2.1 359), .int x1, .int x2] (zS G I J)) (zQi G r I J) 0 0 (zA G) := by
  refine zMet (cc := cX9_tells) (n := 5) (ret := (some .int)) (by decide) rfl (Nat.le_of_ble_eq_true rfl) ?_
  intro p e s m args below meth c H locs ls F hK hP hS hl
  obtain ⟨hx, hb, hr, hml, hts, hown, hlocks⟩ := F
  have hown : s.vm.findClass RX9 = some m.cls := hown
  have hl : lv_has ls 5 [(0, .ref (G.2.1 359)), (1, .int x1), (2, .int x2)] := hl
  have hi9 : ∀ w ∈ wsX90, w ∈ wsX9_tells := fun _ h => List.mem_cons_of_mem _ (List.mem_append_right _ h)
  have J144 : ∀ (s0 : Int32) (s1 : Int32) (H : Heap) (locs : List Loc) (ls : Array Slot), f_X9_tells_j144 J s0 s1 = some r → va_P G.1 vwCl (zW G I J) H → va_S (zA G) s.heap H locs → lv_has ls 5 [] → W p l e (zrm 2 43) s m args below meth c H locs 0 0 (MQ below (zQi G r I J) args s 0 0 (zA G)) (F0 m 144 ls [.int s0, .int s1, .ref (G.2.1 359)]) := by
    intro s0 s1 H locs ls hf hP hS hl
    unfold f_X9_tells_j144 at hf
    obtain ⟨q14, hq14, hf⟩ := zb_e hf
    refine x_calli (x_runV (As := [.int s1, .int s0]) (rest := []) ⟨hx, hb, hml, hown, hts⟩ (c_X9_t l G hG I J s1 s0 hq14) (cwV 2 hts gX9_tells_X9_t rfl rfl rfl (by decide +kernel) ⟨Nat.le_of_ble_eq_true rfl, Nat.le_of_ble_eq_true rfl⟩) hK hP zkL_359 (by decide) rfl rfl hl.1 rfl (Nat.le_of_ble_eq_true rfl) dX9_tells_144 ⟨Nat.zero_le _, Nat.zero_le _⟩) hS (fun H locs hP hS => ?_)
    obtain rfl := Option.some.inj hf
    exact x_iret hx hb hr hlocks hK hP hS dX9_tells_147
  have J100 : ∀ (y3 : Int32) (s0 : Int32) (H : Heap) (locs : List Loc) (ls : Array Slot), f_X9_tells_j100 J x2 y3 s0 = some r → va_P G.1 vwCl (zW G I J) H → va_S (zA G) s.heap H locs → lv_has ls 5 [(0, .ref (G.2.1 359)), (2, .int x2), (3, .int y3)] → W p l e (zrm 2 43) s m args below meth c H locs 0 0 (MQ below (zQi G r I J) args s 0 0 (zA G)) (F0 m 100 ls [.int s0]) := by
    intro y3 s0 H locs ls hf hP hS hl
    unfold f_X9_tells_j100 at hf
    refine lv_istore (lv' := [(4, .int s0), (0, .ref (G.2.1 359)), (2, .int x2), (3, .int y3)]) hx hb dX9_tells_100 hl (by decide) rfl (fun ls hl => ?_)
    refine lv_iload hx hb dX9_tells_102 (lv_at hl 0 rfl) ?_
    refine lv_if_ne (tgt := 110) hx hb dX9_tells_104 (by decide) (fun c10 => ?_) (fun c10 => ?_)
    · have hf := zif_f c10 hf
      refine lv_iload_n hx hb dX9_tells_110 rfl (lv_at hl 2 rfl) ?_
      refine lv_if_ne (tgt := 118) hx hb dX9_tells_111 (by decide) (fun c11 => ?_) (fun c11 => ?_)
      · have hf := zif_f c11 hf
        refine lv_iload_n hx hb dX9_tells_118 rfl (lv_at hl 2 rfl) ?_
        refine lv_iconst (v := 1) hx hb dX9_tells_119 (by decide) ?_
        refine lv_icmp_ne (tgt := 132) hx hb dX9_tells_120 (by decide) (fun c12 => ?_) (fun c12 => ?_)
        · have hf := zif_f c12 hf
          refine lv_aload_n hx hb dX9_tells_132 rfl (lv_at hl 1 rfl) ?_
          refine lv_iload_n hx hb dX9_tells_133 rfl (lv_at hl 3 rfl) ?_
          refine lv_iload_n hx hb dX9_tells_134 rfl (lv_at hl 2 rfl) ?_
          refine lv_iconst (v := 2) hx hb dX9_tells_135 (by decide) ?_
          refine lv_icmp_ne (tgt := 143) hx hb dX9_tells_136 (by decide) (fun c13 => ?_) (fun c13 => ?_)
          · have hf := zif_f c13 hf
            refine lv_iconst (v := 2) hx hb dX9_tells_143 (by decide) ?_
            exact J144 2 y3 H locs ls hf hP hS (lv_sub hl [] rfl)
          · have hf := zif_t c13 hf
            refine lv_iconst (v := 0) hx hb dX9_tells_139 (by decide) ?_
            refine lv_goto (tgt := 144) hx hb dX9_tells_140 (by decide) ?_
            exact J144 0 y3 H locs ls hf hP hS (lv_sub hl [] rfl)
        · have hf := zif_t c12 hf
          refine lv_aload_n hx hb dX9_tells_123 rfl (lv_at hl 1 rfl) ?_
          refine lv_iload_n hx hb dX9_tells_124 rfl (lv_at hl 3 rfl) ?_
          refine lv_iconst (v := 2) hx hb dX9_tells_125 (by decide) ?_
          obtain ⟨q15, hq15, hf⟩ := zb_e hf
          refine x_calli (x_runV (As := [.int y3, .int 2]) (rest := []) ⟨hx, hb, hml, hown, hts⟩ (c_X9_p l G hG I J y3 2 hq15) (cwV 2 hts gX9_tells_X9_p rfl rfl rfl (by decide +kernel) ⟨Nat.le_of_ble_eq_true rfl, Nat.le_of_ble_eq_true rfl⟩) hK hP zkL_359 (by decide) rfl rfl hl.1 rfl (Nat.le_of_ble_eq_true rfl) dX9_tells_126 ⟨Nat.zero_le _, Nat.zero_le _⟩) hS (fun H locs hP hS => ?_)
          refine lv_goto (tgt := 147) hx hb dX9_tells_129 (by decide) ?_
          obtain rfl := Option.some.inj hf
          exact x_iret hx hb hr hlocks hK hP hS dX9_tells_147
      · have hf := zif_t c11 hf
        refine lv_iload_n hx hb dX9_tells_114 rfl (lv_at hl 3 rfl) ?_
        refine lv_goto (tgt := 147) hx hb dX9_tells_115 (by decide) ?_
        obtain rfl := Option.some.inj hf
        exact x_iret hx hb hr hlocks hK hP hS dX9_tells_147
    · have hf := zif_t c10 hf
      refine lv_bipush (v := (-12)) hx hb dX9_tells_107 (by decide) ?_
      obtain rfl := Option.some.inj hf
      exact x_iret hx hb hr hlocks hK hP hS dX9_tells_109
  have J99 : ∀ (y3 : Int32) (H : Heap) (locs : List Loc) (ls : Array Slot), f_X9_tells_j99 J x2 y3 = some r → va_P G.1 vwCl (zW G I J) H → va_S (zA G) s.heap H locs → lv_has ls 5 [(0, .ref (G.2.1 359)), (2, .int x2), (3, .int y3)] → W p l e (zrm 2 43) s m args below meth c H locs 0 0 (MQ below (zQi G r I J) args s 0 0 (zA G)) (F0 m 99 ls []) := by
    intro y3 H locs ls hf hP hS hl
    unfold f_X9_tells_j99 at hf
    refine lv_iconst (v := 0) hx hb dX9_tells_99 (by decide) ?_
    exact J100 y3 0 H locs ls hf hP hS (lv_sub hl [0, 1, 2] rfl)
  have J95 : ∀ (y3 : Int32) (H : Heap) (locs : List Loc) (ls : Array Slot), f_X9_tells_j95 J x2 y3 = some r → va_P G.1 vwCl (zW G I J) H → va_S (zA G) s.heap H locs → lv_has ls 5 [(0, .ref (G.2.1 359)), (2, .int x2), (3, .int y3)] → W p l e (zrm 2 43) s m args below meth c H locs 0 0 (MQ below (zQi G r I J) args s 0 0 (zA G)) (F0 m 95 ls []) := by
    intro y3 H locs ls hf hP hS hl
    unfold f_X9_tells_j95 at hf
    refine lv_iconst (v := 1) hx hb dX9_tells_95 (by decide) ?_
    refine lv_goto (tgt := 100) hx hb dX9_tells_96 (by decide) ?_
    exact J100 y3 1 H locs ls hf hP hS (lv_sub hl [0, 1, 2] rfl)
  have J67 : ∀ (y3 : Int32) (H : Heap) (locs : List Loc) (ls : Array Slot), f_X9_tells_j67 J x1 x2 y3 = some r → va_P G.1 vwCl (zW G I J) H → va_S (zA G) s.heap H locs → lv_has ls 5 [(0, .ref (G.2.1 359)), (1, .int x1), (2, .int x2), (3, .int y3)] → W p l e (zrm 2 43) s m args below meth c H locs 0 0 (MQ below (zQi G r I J) args s 0 0 (zA G)) (F0 m 67 ls []) := by
    intro y3 H locs ls hf hP hS hl
    unfold f_X9_tells_j67 at hf
    refine lv_iload_n hx hb dX9_tells_67 rfl (lv_at hl 2 rfl) ?_
    refine lv_iconst (v := 1) hx hb dX9_tells_68 (by decide) ?_
    refine lv_icmp_le (tgt := 99) hx hb dX9_tells_69 (by decide) (fun c18 => ?_) (fun c18 => ?_)
    · have hf := zif_t c18 hf
      exact J99 y3 H locs ls hf hP hS (lv_sub hl [0, 2, 3] rfl)
    · have hf := zif_f c18 hf
      refine lv_aload_n hx hb dX9_tells_72 rfl (lv_at hl 0 rfl) ?_
      refine x_get (j := 9) (v := .ref (G.2.1 366)) hx hb hts hi9 hown hK hP zkL_359 rfl (by decide) (hts (.fieldLink RX9 28 "LeaseOfficeModel" "held" "[I") (by decide +kernel)) rfl (by decide) dX9_tells_73 ?_
      refine lv_iload_n hx hb dX9_tells_76 rfl (lv_at hl 1 rfl) ?_
      obtain ⟨h19, hf⟩ := zck_e hf
      refine x_iald hx hb hK hP (zK_lt zkL_366 (by decide)) (zE_15 (j := 7) zkL_366 zlL_366 rfl) (zin_e h19) dX9_tells_77 ?_
      refine lv_iconst (v := 2) hx hb dX9_tells_78 (by decide) ?_
      refine lv_icmp_ne (tgt := 99) hx hb dX9_tells_79 (by decide) (fun c20 => ?_) (fun c20 => ?_)
      · have hf := zif_f c20 hf
        exact J99 y3 H locs ls hf hP hS (lv_sub hl [0, 2, 3] rfl)
      · have hf := zif_t c20 hf
        refine lv_iload_n hx hb dX9_tells_82 rfl (lv_at hl 2 rfl) ?_
        refine lv_iconst (v := 2) hx hb dX9_tells_83 (by decide) ?_
        refine lv_icmp_eq (tgt := 95) hx hb dX9_tells_84 (by decide) (fun c21 => ?_) (fun c21 => ?_)
        · have hf := zif_t c21 hf
          exact J95 y3 H locs ls hf hP hS (lv_sub hl [0, 2, 3] rfl)
        · have hf := zif_f c21 hf
          refine lv_aload_n hx hb dX9_tells_87 rfl (lv_at hl 0 rfl) ?_
          refine lv_iload_n hx hb dX9_tells_88 rfl (lv_at hl 3 rfl) ?_
          obtain ⟨q22, hq22, hf⟩ := zb_e hf
          refine x_calli (x_runV (As := [.int y3]) (rest := []) ⟨hx, hb, hml, hown, hts⟩ (c_X9_isOut l G hG I J y3 hq22) (cwV 1 hts gX9_tells_X9_isOut rfl rfl rfl (by decide +kernel) ⟨Nat.le_of_ble_eq_true rfl, Nat.le_of_ble_eq_true rfl⟩) hK hP zkL_359 (by decide) rfl rfl hl.1 rfl (Nat.le_of_ble_eq_true rfl) dX9_tells_89 ⟨Nat.zero_le _, Nat.zero_le _⟩) hS (fun H locs hP hS => ?_)
          refine lv_if_eq (tgt := 99) hx hb dX9_tells_92 (by decide) (fun c23 => ?_) (fun c23 => ?_)
          · have hf := zif_t c23 hf
            exact J99 y3 H locs ls hf hP hS (lv_sub hl [0, 2, 3] rfl)
          · have hf := zif_f c23 hf
            exact J95 y3 H locs ls hf hP hS (lv_sub hl [0, 2, 3] rfl)
  unfold f_X9_tells at hf
  refine lv_aload_n hx hb dX9_tells_0 rfl (lv_at hl 0 rfl) ?_
  refine lv_iload_n hx hb dX9_tells_1 rfl (lv_at hl 1 rfl) ?_
  obtain ⟨q1, hq1, hf⟩ := zb_e hf
  refine x_calli (x_runV (As := [.int x1]) (rest := []) ⟨hx, hb, hml, hown, hts⟩ (c_X9_isHolder l G hG I J x1 hq1) (cwV 1 hts gX9_tells_X9_isHolder rfl rfl rfl (by decide +kernel) ⟨Nat.le_of_ble_eq_true rfl, Nat.le_of_ble_eq_true rfl⟩) hK hP zkL_359 (by decide) rfl rfl hl.1 rfl (Nat.le_of_ble_eq_true rfl) dX9_tells_2 ⟨Nat.zero_le _, Nat.zero_le _⟩) hS (fun H locs hP hS => ?_)
  refine lv_if_eq (tgt := 17) hx hb dX9_tells_5 (by decide) (fun c2 => ?_) (fun c2 => ?_)
  · have hf := zif_t c2 hf
    refine lv_iconst (v := (-1)) hx hb dX9_tells_17 (by decide) ?_
    obtain rfl := Option.some.inj hf
    exact x_iret hx hb hr hlocks hK hP hS dX9_tells_18
  · have hf := zif_f c2 hf
    refine lv_iload_n hx hb dX9_tells_8 rfl (lv_at hl 2 rfl) ?_
    refine lv_iconst (v := 0) hx hb dX9_tells_9 (by decide) ?_
    refine lv_iconst (v := 3) hx hb dX9_tells_10 (by decide) ?_
    obtain ⟨q3, hq3, hf⟩ := zb_e hf
    refine x_calli (x_runS (As := [.int x2, .int 0, .int 3]) (rest := []) ⟨hx, hb, hml, hown, hts⟩ (c_X9_in l G hG I J x2 0 3 hq3) (va_cwS 3 hts gX9_tells_X9_in rfl rfl rfl (by decide +kernel) ⟨Nat.le_of_ble_eq_true rfl, Nat.le_of_ble_eq_true rfl⟩) hK hP rfl hl.1 rfl (Nat.le_of_ble_eq_true rfl) dX9_tells_11 ⟨Nat.zero_le _, Nat.zero_le _⟩) hS (fun H locs hP hS => ?_)
    refine lv_if_ne (tgt := 19) hx hb dX9_tells_14 (by decide) (fun c4 => ?_) (fun c4 => ?_)
    · have hf := zif_f c4 hf
      refine lv_aload_n hx hb dX9_tells_19 rfl (lv_at hl 0 rfl) ?_
      refine x_get (j := 9) (v := .ref (G.2.1 366)) hx hb hts hi9 hown hK hP zkL_359 rfl (by decide) (hts (.fieldLink RX9 28 "LeaseOfficeModel" "held" "[I") (by decide +kernel)) rfl (by decide) dX9_tells_20 ?_
      refine lv_iload_n hx hb dX9_tells_23 rfl (lv_at hl 1 rfl) ?_
      obtain ⟨h5, hf⟩ := zck_e hf
      refine x_iald hx hb hK hP (zK_lt zkL_366 (by decide)) (zE_15 (j := 7) zkL_366 zlL_366 rfl) (zin_e h5) dX9_tells_24 ?_
      refine lv_if_ne (tgt := 31) hx hb dX9_tells_25 (by decide) (fun c6 => ?_) (fun c6 => ?_)
      · have hf := zif_f c6 hf
        refine lv_aload_n hx hb dX9_tells_31 rfl (lv_at hl 0 rfl) ?_
        refine x_get (j := 10) (v := .ref (G.2.1 367)) hx hb hts hi9 hown hK hP zkL_359 rfl (by decide) (hts (.fieldLink RX9 31 "LeaseOfficeModel" "heldNumber" "[I") (by decide +kernel)) rfl (by decide) dX9_tells_32 ?_
        refine lv_iload_n hx hb dX9_tells_35 rfl (lv_at hl 1 rfl) ?_
        obtain ⟨h7, hf⟩ := zck_e hf
        refine x_iald hx hb hK hP (zK_lt zkL_367 (by decide)) (zE_15 (j := 8) zkL_367 zlL_367 rfl) (zin_e h7) dX9_tells_36 ?_
        refine lv_istore_n (lv' := [(3, .int (J 8 x1.toNatClampNeg)), (0, .ref (G.2.1 359)), (1, .int x1), (2, .int x2)]) hx hb dX9_tells_37 rfl hl (by decide) rfl (fun ls hl => ?_)
        refine lv_aload_n hx hb dX9_tells_38 rfl (lv_at hl 1 rfl) ?_
        refine x_get (j := 9) (v := .ref (G.2.1 366)) hx hb hts hi9 hown hK hP zkL_359 rfl (by decide) (hts (.fieldLink RX9 28 "LeaseOfficeModel" "held" "[I") (by decide +kernel)) rfl (by decide) dX9_tells_39 ?_
        refine lv_iload_n hx hb dX9_tells_42 rfl (lv_at hl 2 rfl) ?_
        obtain ⟨h8, hf⟩ := zck_e hf
        refine x_iald hx hb hK hP (zK_lt zkL_366 (by decide)) (zE_15 (j := 7) zkL_366 zlL_366 rfl) (zin_e h8) dX9_tells_43 ?_
        refine lv_iconst (v := 3) hx hb dX9_tells_44 (by decide) ?_
        refine lv_icmp_eq (tgt := 99) hx hb dX9_tells_45 (by decide) (fun c9 => ?_) (fun c9 => ?_)
        · have hf := zif_t c9 hf
          exact J99 (J 8 x1.toNatClampNeg) H locs ls hf hP hS (lv_sub hl [1, 3, 0] rfl)
        · have hf := zif_f c9 hf
          refine lv_iload_n hx hb dX9_tells_48 rfl (lv_at hl 3 rfl) ?_
          refine lv_if_eq (tgt := 95) hx hb dX9_tells_49 (by decide) (fun c16 => ?_) (fun c16 => ?_)
          · have hf := zif_t c16 hf
            exact J95 (J 8 x1.toNatClampNeg) H locs ls hf hP hS (lv_sub hl [1, 3, 0] rfl)
          · have hf := zif_f c16 hf
            refine lv_iload_n hx hb dX9_tells_52 rfl (lv_at hl 3 rfl) ?_
            refine lv_iconst (v := 1) hx hb dX9_tells_53 (by decide) ?_
            refine lv_icmp_ne (tgt := 67) hx hb dX9_tells_54 (by decide) (fun c17 => ?_) (fun c17 => ?_)
            · have hf := zif_f c17 hf
              exact J67 (J 8 x1.toNatClampNeg) H locs ls hf hP hS (lv_sub hl [1, 2, 3, 0] rfl)
            · have hf := zif_t c17 hf
              refine lv_aload_n hx hb dX9_tells_57 rfl (lv_at hl 1 rfl) ?_
              refine x_get (j := 9) (v := .ref (G.2.1 366)) hx hb hts hi9 hown hK hP zkL_359 rfl (by decide) (hts (.fieldLink RX9 28 "LeaseOfficeModel" "held" "[I") (by decide +kernel)) rfl (by decide) dX9_tells_58 ?_
              refine lv_iload_n hx hb dX9_tells_61 rfl (lv_at hl 2 rfl) ?_
              obtain ⟨h24, hf⟩ := zck_e hf
              refine x_iald hx hb hK hP (zK_lt zkL_366 (by decide)) (zE_15 (j := 7) zkL_366 zlL_366 rfl) (zin_e h24) dX9_tells_62 ?_
              refine lv_iconst (v := 1) hx hb dX9_tells_63 (by decide) ?_
              refine lv_icmp_eq (tgt := 95) hx hb dX9_tells_64 (by decide) (fun c25 => ?_) (fun c25 => ?_)
              · have hf := zif_t c25 hf
                exact J95 (J 8 x1.toNatClampNeg) H locs ls hf hP hS (lv_sub hl [1, 3, 0] rfl)
              · have hf := zif_f c25 hf
                exact J67 (J 8 x1.toNatClampNeg) H locs ls hf hP hS (lv_sub hl [1, 2, 3, 0] rfl)
      · have hf := zif_t c6 hf
        refine lv_bipush (v := (-11)) hx hb dX9_tells_28 (by decide) ?_
        obtain rfl := Option.some.inj hf
        exact x_iret hx hb hr hlocks hK hP hS dX9_tells_30
    · have hf := zif_t c4 hf
      refine lv_iconst (v := (-1)) hx hb dX9_tells_17 (by decide) ?_
      obtain rfl := Option.some.inj hf
      exact x_iret hx hb hr hlocks hK hP hS dX9_tells_18
set_option maxRecDepth 100000 in
set_option maxHeartbeats 4000000 in
theorem c_X9_told (l : Launch) (G : zGT) (hG : zOK G) (I J : zM) (x1 : Int32) (x2 : Int32) {r : Int32 × zM} (hf : f_X9_told J x1 x2 = some r) : Met l yX9_told wsX9_told (zrm 6 138) (va_Pc [.ref (G.2.1 359), .int x1, .int x2] (zS G I J)) (zQi G r.1 I r.2) 0 0 (zA G) := by
  refine zMet (cc := cX9_told) (n := 5) (ret := (some .int)) (by decide) rfl (Nat.le_of_ble_eq_true rfl) ?_
  intro p e s m args below meth c H locs ls F hK hP hS hl
  obtain ⟨hx, hb, hr, hml, hts, hown, hlocks⟩ := F
  have hown : s.vm.findClass RX9 = some m.cls := hown
  have hl : lv_has ls 5 [(0, .ref (G.2.1 359)), (1, .int x1), (2, .int x2)] := hl
  have hi9 : ∀ w ∈ wsX90, w ∈ wsX9_told := fun _ h => List.mem_cons_of_mem _ (List.mem_append_right _ h)
  have L87 : ∀ (M : zM) (n : Nat) (y3 : Int32) (y4 : Int32) (H : Heap) (locs : List Loc) (ls : Array Slot), f_X9_told_l87 M n y3 y4 = some r → va_P G.1 vwCl (zW G I M) H → va_S (zA G) s.heap H locs → lv_has ls 5 [(0, .ref (G.2.1 359)), (3, .int y3), (4, .int y4)] → W p l e (zrm 6 138) s m args below meth c H locs 0 0 (MQ below (zQi G r.1 I r.2) args s 0 0 (zA G)) (F0 m 87 ls []) := by
    intro M n
    induction n with
    | zero =>
      intro y3 y4 H locs ls hf
      rw [f_X9_told_l87] at hf
      cases hf
    | succ n ih =>
      intro y3 y4 H locs ls hf hP hS hl
      rw [f_X9_told_l87] at hf
      refine lv_iload hx hb dX9_told_87 (lv_at hl 2 rfl) ?_
      refine lv_aload_n hx hb dX9_told_89 rfl (lv_at hl 0 rfl) ?_
      refine x_get (j := 6) (v := .int (M 0 6)) hx hb hts hi9 hown hK hP zkL_359 rfl (by decide) (hts (.fieldLink RX9 139 "LeaseOfficeModel" "blamedMany" "I") (by decide +kernel)) rfl (by decide) dX9_told_90 ?_
      refine lv_icmp_ge (tgt := 114) hx hb dX9_told_93 (by decide) (fun c8 => ?_) (fun c8 => ?_)
      · have hf := zif_t c8 hf
        refine lv_iload_n hx hb dX9_told_114 rfl (lv_at hl 1 rfl) ?_
        obtain rfl := Option.some.inj hf
        exact x_iret hx hb hr hlocks hK hP hS dX9_told_115
      · have hf := zif_f c8 hf
        refine lv_iload_n hx hb dX9_told_96 rfl (lv_at hl 1 rfl) ?_
        refine lv_iconst (v := 1) hx hb dX9_told_97 (by decide) ?_
        refine lv_aload_n hx hb dX9_told_98 rfl (lv_at hl 0 rfl) ?_
        refine x_get (j := 5) (v := .ref (G.2.1 364)) hx hb hts hi9 hown hK hP zkL_359 rfl (by decide) (hts (.fieldLink RX9 22 "LeaseOfficeModel" "blamed" "[I") (by decide +kernel)) rfl (by decide) dX9_told_99 ?_
        refine lv_iload hx hb dX9_told_102 (lv_at hl 2 rfl) ?_
        obtain ⟨h9, hf⟩ := zck_e hf
        refine x_iald hx hb hK hP (zK_lt zkL_364 (by decide)) (zE_15 (j := 5) zkL_364 zlL_364 rfl) (zin_e h9) dX9_told_104 ?_
        refine lv_ishl hx hb dX9_told_105 ?_
        refine lv_ior hx hb dX9_told_106 ?_
        obtain ⟨w10, ew10, hf⟩ := zlet_e hf
        refine z_topi ew10 ?_
        refine lv_istore_n (lv' := [(3, .int w10), (0, .ref (G.2.1 359)), (4, .int y4)]) hx hb dX9_told_107 rfl hl (by decide) rfl (fun ls hl => ?_)
        refine lv_iinc (v := (y4 + 1)) (lv' := [(4, .int (y4 + 1)), (3, .int w10), (0, .ref (G.2.1 359))]) hx hb dX9_told_108 hl (k := 2) rfl rfl (by decide) rfl (fun ls hl => ?_)
        refine lv_goto (tgt := 87) hx hb dX9_told_111 (by decide) ?_
        exact ih w10 (y4 + 1) H locs ls hf hP hS (lv_sub hl [2, 1, 0] rfl)
  unfold f_X9_told at hf
  refine lv_aload_n hx hb dX9_told_0 rfl (lv_at hl 0 rfl) ?_
  refine lv_iload_n hx hb dX9_told_1 rfl (lv_at hl 1 rfl) ?_
  obtain ⟨q1, hq1, hf⟩ := zb_e hf
  refine x_calli (x_runV (As := [.int x1]) (rest := []) ⟨hx, hb, hml, hown, hts⟩ (c_X9_isTool l G hG I J x1 hq1) (cwV 1 hts gX9_told_X9_isTool rfl rfl rfl (by decide +kernel) ⟨Nat.le_of_ble_eq_true rfl, Nat.le_of_ble_eq_true rfl⟩) hK hP zkL_359 (by decide) rfl rfl hl.1 rfl (Nat.le_of_ble_eq_true rfl) dX9_told_2 ⟨Nat.zero_le _, Nat.zero_le _⟩) hS (fun H locs hP hS => ?_)
  refine lv_if_eq (tgt := 17) hx hb dX9_told_5 (by decide) (fun c2 => ?_) (fun c2 => ?_)
  · have hf := zif_t c2 hf
    refine lv_iconst (v := (-1)) hx hb dX9_told_17 (by decide) ?_
    obtain rfl := Option.some.inj hf
    exact x_iret hx hb hr hlocks hK hP hS dX9_told_18
  · have hf := zif_f c2 hf
    refine lv_iload_n hx hb dX9_told_8 rfl (lv_at hl 2 rfl) ?_
    refine lv_iconst (v := 0) hx hb dX9_told_9 (by decide) ?_
    refine lv_iconst (v := 2) hx hb dX9_told_10 (by decide) ?_
    obtain ⟨q3, hq3, hf⟩ := zb_e hf
    refine x_calli (x_runS (As := [.int x2, .int 0, .int 2]) (rest := []) ⟨hx, hb, hml, hown, hts⟩ (c_X9_in l G hG I J x2 0 2 hq3) (va_cwS 3 hts gX9_told_X9_in rfl rfl rfl (by decide +kernel) ⟨Nat.le_of_ble_eq_true rfl, Nat.le_of_ble_eq_true rfl⟩) hK hP rfl hl.1 rfl (Nat.le_of_ble_eq_true rfl) dX9_told_11 ⟨Nat.zero_le _, Nat.zero_le _⟩) hS (fun H locs hP hS => ?_)
    refine lv_if_ne (tgt := 19) hx hb dX9_told_14 (by decide) (fun c4 => ?_) (fun c4 => ?_)
    · have hf := zif_f c4 hf
      refine lv_iload_n hx hb dX9_told_19 rfl (lv_at hl 2 rfl) ?_
      refine lv_if_ne (tgt := 46) hx hb dX9_told_20 (by decide) (fun c5 => ?_) (fun c5 => ?_)
      · have hf := zif_f c5 hf
        refine lv_iload_n hx hb dX9_told_46 rfl (lv_at hl 2 rfl) ?_
        refine lv_iconst (v := 2) hx hb dX9_told_47 (by decide) ?_
        refine lv_icmp_ne (tgt := 77) hx hb dX9_told_48 (by decide) (fun c6 => ?_) (fun c6 => ?_)
        · have hf := zif_f c6 hf
          refine lv_aload_n hx hb dX9_told_77 rfl (lv_at hl 0 rfl) ?_
          refine lv_iload_n hx hb dX9_told_78 rfl (lv_at hl 1 rfl) ?_
          obtain ⟨q7, hq7, hf⟩ := zb_e hf
          refine x_callv (x_runV (As := [.int x1]) (rest := []) ⟨hx, hb, hml, hown, hts⟩ (c_X9_blames l G hG I J x1 hq7) (cwV 1 hts gX9_told_X9_blames rfl rfl rfl (by decide +kernel) ⟨Nat.le_of_ble_eq_true rfl, Nat.le_of_ble_eq_true rfl⟩) hK hP zkL_359 (by decide) rfl rfl hl.1 rfl (Nat.le_of_ble_eq_true rfl) dX9_told_79 ⟨Nat.zero_le _, Nat.zero_le _⟩) hS (fun H locs hP hS => ?_)
          refine lv_iconst (v := 0) hx hb dX9_told_82 (by decide) ?_
          refine lv_istore_n (lv' := [(3, .int 0), (0, .ref (G.2.1 359)), (1, .int x1), (2, .int x2)]) hx hb dX9_told_83 rfl hl (by decide) rfl (fun ls hl => ?_)
          refine lv_iconst (v := 0) hx hb dX9_told_84 (by decide) ?_
          refine lv_istore (lv' := [(4, .int 0), (3, .int 0), (0, .ref (G.2.1 359)), (1, .int x1), (2, .int x2)]) hx hb dX9_told_85 hl (by decide) rfl (fun ls hl => ?_)
          exact L87 q7 zFu 0 0 H locs ls hf hP hS (lv_sub hl [2, 1, 0] rfl)
        · have hf := zif_t c6 hf
          refine lv_aload_n hx hb dX9_told_51 rfl (lv_at hl 0 rfl) ?_
          refine lv_iload_n hx hb dX9_told_52 rfl (lv_at hl 1 rfl) ?_
          obtain ⟨q11, hq11, hf⟩ := zb_e hf
          refine x_calli (x_runV (As := [.int x1]) (rest := []) ⟨hx, hb, hml, hown, hts⟩ (c_X9_isOut l G hG I J x1 hq11) (cwV 1 hts gX9_told_X9_isOut rfl rfl rfl (by decide +kernel) ⟨Nat.le_of_ble_eq_true rfl, Nat.le_of_ble_eq_true rfl⟩) hK hP zkL_359 (by decide) rfl rfl hl.1 rfl (Nat.le_of_ble_eq_true rfl) dX9_told_53 ⟨Nat.zero_le _, Nat.zero_le _⟩) hS (fun H locs hP hS => ?_)
          refine lv_if_eq (tgt := 75) hx hb dX9_told_56 (by decide) (fun c12 => ?_) (fun c12 => ?_)
          · have hf := zif_t c12 hf
            refine lv_iconst (v := 0) hx hb dX9_told_75 (by decide) ?_
            obtain rfl := Option.some.inj hf
            exact x_iret hx hb hr hlocks hK hP hS dX9_told_76
          · have hf := zif_f c12 hf
            refine lv_aload_n hx hb dX9_told_59 rfl (lv_at hl 0 rfl) ?_
            refine lv_iload_n hx hb dX9_told_60 rfl (lv_at hl 1 rfl) ?_
            refine lv_aload_n hx hb dX9_told_61 rfl (lv_at hl 0 rfl) ?_
            refine x_get (j := 0) (v := .ref (G.2.1 360)) hx hb hts hi9 hown hK hP zkL_359 rfl (by decide) (hts (.fieldLink RX9 9 "LeaseOfficeModel" "g" "[I") (by decide +kernel)) rfl (by decide) dX9_told_62 ?_
            refine lv_sipush (v := 1082) hx hb dX9_told_65 (by decide) ?_
            refine x_ialdL (j := 1082) hx hb hK hP (zK_lt zkL_360 (by decide)) (zE_15 (j := 1) zkL_360 zlL_360 rfl) (by decide) (by decide) dX9_told_68 ?_
            obtain ⟨q13, hq13, hf⟩ := zb_e hf
            refine x_calli (x_runV (As := [.int x1, .int (J 1 1082)]) (rest := []) ⟨hx, hb, hml, hown, hts⟩ (c_X9_fee l G hG I J x1 (J 1 1082) hq13) (cwV 2 hts gX9_told_X9_fee rfl rfl rfl (by decide +kernel) ⟨Nat.le_of_ble_eq_true rfl, Nat.le_of_ble_eq_true rfl⟩) hK hP zkL_359 (by decide) rfl rfl hl.1 rfl (Nat.le_of_ble_eq_true rfl) dX9_told_69 ⟨Nat.zero_le _, Nat.zero_le _⟩) hS (fun H locs hP hS => ?_)
            refine lv_goto (tgt := 76) hx hb dX9_told_72 (by decide) ?_
            obtain rfl := Option.some.inj hf
            exact x_iret hx hb hr hlocks hK hP hS dX9_told_76
      · have hf := zif_t c5 hf
        refine lv_aload_n hx hb dX9_told_23 rfl (lv_at hl 0 rfl) ?_
        refine lv_iload_n hx hb dX9_told_24 rfl (lv_at hl 1 rfl) ?_
        obtain ⟨q14, hq14, hf⟩ := zb_e hf
        refine x_calli (x_runV (As := [.int x1]) (rest := []) ⟨hx, hb, hml, hown, hts⟩ (c_X9_nextClaim l G hG I J x1 hq14) (cwV 1 hts gX9_told_X9_nextClaim rfl rfl rfl (by decide +kernel) ⟨Nat.le_of_ble_eq_true rfl, Nat.le_of_ble_eq_true rfl⟩) hK hP zkL_359 (by decide) rfl rfl hl.1 rfl (Nat.le_of_ble_eq_true rfl) dX9_told_25 ⟨Nat.zero_le _, Nat.zero_le _⟩) hS (fun H locs hP hS => ?_)
        refine lv_istore_n (lv' := [(3, .int q14), (0, .ref (G.2.1 359)), (1, .int x1), (2, .int x2)]) hx hb dX9_told_28 rfl hl (by decide) rfl (fun ls hl => ?_)
        refine lv_iload_n hx hb dX9_told_29 rfl (lv_at hl 0 rfl) ?_
        refine lv_if_ge (tgt := 38) hx hb dX9_told_30 (by decide) (fun c15 => ?_) (fun c15 => ?_)
        · have hf := zif_t c15 hf
          refine lv_aload_n hx hb dX9_told_38 rfl (lv_at hl 1 rfl) ?_
          refine lv_iload_n hx hb dX9_told_39 rfl (lv_at hl 2 rfl) ?_
          refine lv_iload_n hx hb dX9_told_40 rfl (lv_at hl 0 rfl) ?_
          refine lv_iconst (v := 0) hx hb dX9_told_41 (by decide) ?_
          obtain ⟨q16, hq16, hf⟩ := zb_e hf
          refine x_calli (x_runV (As := [.int x1, .int q14, .int 0]) (rest := []) ⟨hx, hb, hml, hown, hts⟩ (c_X9_c l G hG I J x1 q14 0 hq16) (cwV 3 hts gX9_told_X9_c rfl rfl rfl (by decide +kernel) ⟨Nat.le_of_ble_eq_true rfl, Nat.le_of_ble_eq_true rfl⟩) hK hP zkL_359 (by decide) rfl rfl hl.1 rfl (Nat.le_of_ble_eq_true rfl) dX9_told_42 ⟨Nat.zero_le _, Nat.zero_le _⟩) hS (fun H locs hP hS => ?_)
          obtain rfl := Option.some.inj hf
          exact x_iret hx hb hr hlocks hK hP hS dX9_told_45
        · have hf := zif_f c15 hf
          refine lv_bipush (v := (-2)) hx hb dX9_told_33 (by decide) ?_
          refine lv_goto (tgt := 45) hx hb dX9_told_35 (by decide) ?_
          obtain rfl := Option.some.inj hf
          exact x_iret hx hb hr hlocks hK hP hS dX9_told_45
    · have hf := zif_t c4 hf
      refine lv_iconst (v := (-1)) hx hb dX9_told_17 (by decide) ?_
      obtain rfl := Option.some.inj hf
      exact x_iret hx hb hr hlocks hK hP hS dX9_told_18
set_option maxRecDepth 100000 in
set_option maxHeartbeats 4000000 in
theorem c_X9_toolOf (l : Launch) (G : zGT) (hG : zOK G) (I J : zM) (x1 : Int32) (x2 : Int32) {r : Int32} (hf : f_X9_toolOf J x1 x2 = some r) : Met l yX9_toolOf wsX9_toolOf (zrm 2 43) (va_Pc [.ref (G.2.1 359), .int x1, .int x2] (zS G I J)) (zQi G r I J) 0 0 (zA G) := by
  refine zMet (cc := cX9_toolOf) (n := 3) (ret := (some .int)) (by decide) rfl (Nat.le_of_ble_eq_true rfl) ?_
  intro p e s m args below meth c H locs ls F hK hP hS hl
  obtain ⟨hx, hb, hr, hml, hts, hown, hlocks⟩ := F
  have hown : s.vm.findClass RX9 = some m.cls := hown
  have hl : lv_has ls 3 [(0, .ref (G.2.1 359)), (1, .int x1), (2, .int x2)] := hl
  unfold f_X9_toolOf at hf
  refine lv_aload_n hx hb dX9_toolOf_0 rfl (lv_at hl 0 rfl) ?_
  refine lv_iload_n hx hb dX9_toolOf_1 rfl (lv_at hl 1 rfl) ?_
  obtain ⟨q1, hq1, hf⟩ := zb_e hf
  refine x_calli (x_runV (As := [.int x1]) (rest := []) ⟨hx, hb, hml, hown, hts⟩ (c_X9_isTool l G hG I J x1 hq1) (cwV 1 hts gX9_toolOf_X9_isTool rfl rfl rfl (by decide +kernel) ⟨Nat.le_of_ble_eq_true rfl, Nat.le_of_ble_eq_true rfl⟩) hK hP zkL_359 (by decide) rfl rfl hl.1 rfl (Nat.le_of_ble_eq_true rfl) dX9_toolOf_2 ⟨Nat.zero_le _, Nat.zero_le _⟩) hS (fun H locs hP hS => ?_)
  refine lv_if_eq (tgt := 18) hx hb dX9_toolOf_5 (by decide) (fun c2 => ?_) (fun c2 => ?_)
  · have hf := zif_t c2 hf
    refine lv_iconst (v := (-1)) hx hb dX9_toolOf_18 (by decide) ?_
    obtain rfl := Option.some.inj hf
    exact x_iret hx hb hr hlocks hK hP hS dX9_toolOf_19
  · have hf := zif_f c2 hf
    refine lv_iload_n hx hb dX9_toolOf_8 rfl (lv_at hl 2 rfl) ?_
    refine lv_iconst (v := 0) hx hb dX9_toolOf_9 (by decide) ?_
    refine lv_bipush (v := 8) hx hb dX9_toolOf_10 (by decide) ?_
    obtain ⟨q3, hq3, hf⟩ := zb_e hf
    refine x_calli (x_runS (As := [.int x2, .int 0, .int 8]) (rest := []) ⟨hx, hb, hml, hown, hts⟩ (c_X9_in l G hG I J x2 0 8 hq3) (va_cwS 3 hts gX9_toolOf_X9_in rfl rfl rfl (by decide +kernel) ⟨Nat.le_of_ble_eq_true rfl, Nat.le_of_ble_eq_true rfl⟩) hK hP rfl hl.1 rfl (Nat.le_of_ble_eq_true rfl) dX9_toolOf_12 ⟨Nat.zero_le _, Nat.zero_le _⟩) hS (fun H locs hP hS => ?_)
    refine lv_if_ne (tgt := 20) hx hb dX9_toolOf_15 (by decide) (fun c4 => ?_) (fun c4 => ?_)
    · have hf := zif_f c4 hf
      refine lv_iload_n hx hb dX9_toolOf_20 rfl (lv_at hl 2 rfl) ?_
      rcases Classical.em (x2 = 2) with c18 | c18
      · have hf := zif_t c18 hf
        refine lv_tableIn (off := 43) (tgt := 64) hx hb dX9_toolOf_21 (by rw [c18]; decide) (by rw [c18]; decide) (by rw [c18]; decide) (by decide) ?_
        refine lv_aload_n hx hb dX9_toolOf_64 rfl (lv_at hl 0 rfl) ?_
        refine lv_iload_n hx hb dX9_toolOf_65 rfl (lv_at hl 1 rfl) ?_
        obtain ⟨q5, hq5, hf⟩ := zb_e hf
        refine x_calli (x_runV (As := [.int x1]) (rest := []) ⟨hx, hb, hml, hown, hts⟩ (c_X9_isOut l G hG I J x1 hq5) (cwV 1 hts gX9_toolOf_X9_isOut rfl rfl rfl (by decide +kernel) ⟨Nat.le_of_ble_eq_true rfl, Nat.le_of_ble_eq_true rfl⟩) hK hP zkL_359 (by decide) rfl rfl hl.1 rfl (Nat.le_of_ble_eq_true rfl) dX9_toolOf_66 ⟨Nat.zero_le _, Nat.zero_le _⟩) hS (fun H locs hP hS => ?_)
        refine lv_if_eq (tgt := 81) hx hb dX9_toolOf_69 (by decide) (fun c6 => ?_) (fun c6 => ?_)
        · have hf := zif_t c6 hf
          refine lv_bipush (v := (-2)) hx hb dX9_toolOf_81 (by decide) ?_
          obtain rfl := Option.some.inj hf
          exact x_iret hx hb hr hlocks hK hP hS dX9_toolOf_83
        · have hf := zif_f c6 hf
          refine lv_aload_n hx hb dX9_toolOf_72 rfl (lv_at hl 0 rfl) ?_
          refine lv_iload_n hx hb dX9_toolOf_73 rfl (lv_at hl 1 rfl) ?_
          refine lv_iload_n hx hb dX9_toolOf_74 rfl (lv_at hl 2 rfl) ?_
          obtain ⟨q7, hq7, hf⟩ := zb_e hf
          refine x_calli (x_runV (As := [.int x1, .int x2]) (rest := []) ⟨hx, hb, hml, hown, hts⟩ (c_X9_t l G hG I J x1 x2 hq7) (cwV 2 hts gX9_toolOf_X9_t rfl rfl rfl (by decide +kernel) ⟨Nat.le_of_ble_eq_true rfl, Nat.le_of_ble_eq_true rfl⟩) hK hP zkL_359 (by decide) rfl rfl hl.1 rfl (Nat.le_of_ble_eq_true rfl) dX9_toolOf_75 ⟨Nat.zero_le _, Nat.zero_le _⟩) hS (fun H locs hP hS => ?_)
          refine lv_goto (tgt := 83) hx hb dX9_toolOf_78 (by decide) ?_
          obtain rfl := Option.some.inj hf
          exact x_iret hx hb hr hlocks hK hP hS dX9_toolOf_83
      · have hf := zif_f c18 hf
        rcases Classical.em (x2 = 3) with c19 | c19
        · have hf := zif_t c19 hf
          refine lv_tableIn (off := 43) (tgt := 64) hx hb dX9_toolOf_21 (by rw [c19]; decide) (by rw [c19]; decide) (by rw [c19]; decide) (by decide) ?_
          refine lv_aload_n hx hb dX9_toolOf_64 rfl (lv_at hl 0 rfl) ?_
          refine lv_iload_n hx hb dX9_toolOf_65 rfl (lv_at hl 1 rfl) ?_
          obtain ⟨q8, hq8, hf⟩ := zb_e hf
          refine x_calli (x_runV (As := [.int x1]) (rest := []) ⟨hx, hb, hml, hown, hts⟩ (c_X9_isOut l G hG I J x1 hq8) (cwV 1 hts gX9_toolOf_X9_isOut rfl rfl rfl (by decide +kernel) ⟨Nat.le_of_ble_eq_true rfl, Nat.le_of_ble_eq_true rfl⟩) hK hP zkL_359 (by decide) rfl rfl hl.1 rfl (Nat.le_of_ble_eq_true rfl) dX9_toolOf_66 ⟨Nat.zero_le _, Nat.zero_le _⟩) hS (fun H locs hP hS => ?_)
          refine lv_if_eq (tgt := 81) hx hb dX9_toolOf_69 (by decide) (fun c9 => ?_) (fun c9 => ?_)
          · have hf := zif_t c9 hf
            refine lv_bipush (v := (-2)) hx hb dX9_toolOf_81 (by decide) ?_
            obtain rfl := Option.some.inj hf
            exact x_iret hx hb hr hlocks hK hP hS dX9_toolOf_83
          · have hf := zif_f c9 hf
            refine lv_aload_n hx hb dX9_toolOf_72 rfl (lv_at hl 0 rfl) ?_
            refine lv_iload_n hx hb dX9_toolOf_73 rfl (lv_at hl 1 rfl) ?_
            refine lv_iload_n hx hb dX9_toolOf_74 rfl (lv_at hl 2 rfl) ?_
            obtain ⟨q10, hq10, hf⟩ := zb_e hf
            refine x_calli (x_runV (As := [.int x1, .int x2]) (rest := []) ⟨hx, hb, hml, hown, hts⟩ (c_X9_t l G hG I J x1 x2 hq10) (cwV 2 hts gX9_toolOf_X9_t rfl rfl rfl (by decide +kernel) ⟨Nat.le_of_ble_eq_true rfl, Nat.le_of_ble_eq_true rfl⟩) hK hP zkL_359 (by decide) rfl rfl hl.1 rfl (Nat.le_of_ble_eq_true rfl) dX9_toolOf_75 ⟨Nat.zero_le _, Nat.zero_le _⟩) hS (fun H locs hP hS => ?_)
            refine lv_goto (tgt := 83) hx hb dX9_toolOf_78 (by decide) ?_
            obtain rfl := Option.some.inj hf
            exact x_iret hx hb hr hlocks hK hP hS dX9_toolOf_83
        · have hf := zif_f c19 hf
          rcases Classical.em (x2 = 4) with c20 | c20
          · have hf := zif_t c20 hf
            refine lv_tableIn (off := 43) (tgt := 64) hx hb dX9_toolOf_21 (by rw [c20]; decide) (by rw [c20]; decide) (by rw [c20]; decide) (by decide) ?_
            refine lv_aload_n hx hb dX9_toolOf_64 rfl (lv_at hl 0 rfl) ?_
            refine lv_iload_n hx hb dX9_toolOf_65 rfl (lv_at hl 1 rfl) ?_
            obtain ⟨q11, hq11, hf⟩ := zb_e hf
            refine x_calli (x_runV (As := [.int x1]) (rest := []) ⟨hx, hb, hml, hown, hts⟩ (c_X9_isOut l G hG I J x1 hq11) (cwV 1 hts gX9_toolOf_X9_isOut rfl rfl rfl (by decide +kernel) ⟨Nat.le_of_ble_eq_true rfl, Nat.le_of_ble_eq_true rfl⟩) hK hP zkL_359 (by decide) rfl rfl hl.1 rfl (Nat.le_of_ble_eq_true rfl) dX9_toolOf_66 ⟨Nat.zero_le _, Nat.zero_le _⟩) hS (fun H locs hP hS => ?_)
            refine lv_if_eq (tgt := 81) hx hb dX9_toolOf_69 (by decide) (fun c12 => ?_) (fun c12 => ?_)
            · have hf := zif_t c12 hf
              refine lv_bipush (v := (-2)) hx hb dX9_toolOf_81 (by decide) ?_
              obtain rfl := Option.some.inj hf
              exact x_iret hx hb hr hlocks hK hP hS dX9_toolOf_83
            · have hf := zif_f c12 hf
              refine lv_aload_n hx hb dX9_toolOf_72 rfl (lv_at hl 0 rfl) ?_
              refine lv_iload_n hx hb dX9_toolOf_73 rfl (lv_at hl 1 rfl) ?_
              refine lv_iload_n hx hb dX9_toolOf_74 rfl (lv_at hl 2 rfl) ?_
              obtain ⟨q13, hq13, hf⟩ := zb_e hf
              refine x_calli (x_runV (As := [.int x1, .int x2]) (rest := []) ⟨hx, hb, hml, hown, hts⟩ (c_X9_t l G hG I J x1 x2 hq13) (cwV 2 hts gX9_toolOf_X9_t rfl rfl rfl (by decide +kernel) ⟨Nat.le_of_ble_eq_true rfl, Nat.le_of_ble_eq_true rfl⟩) hK hP zkL_359 (by decide) rfl rfl hl.1 rfl (Nat.le_of_ble_eq_true rfl) dX9_toolOf_75 ⟨Nat.zero_le _, Nat.zero_le _⟩) hS (fun H locs hP hS => ?_)
              refine lv_goto (tgt := 83) hx hb dX9_toolOf_78 (by decide) ?_
              obtain rfl := Option.some.inj hf
              exact x_iret hx hb hr hlocks hK hP hS dX9_toolOf_83
          · have hf := zif_f c20 hf
            rcases Classical.em (x2 = 6) with c21 | c21
            · have hf := zif_t c21 hf
              refine lv_tableIn (off := 63) (tgt := 84) hx hb dX9_toolOf_21 (by rw [c21]; decide) (by rw [c21]; decide) (by rw [c21]; decide) (by decide) ?_
              refine lv_aload_n hx hb dX9_toolOf_84 rfl (lv_at hl 0 rfl) ?_
              refine lv_iload_n hx hb dX9_toolOf_85 rfl (lv_at hl 1 rfl) ?_
              refine lv_bipush (v := 57) hx hb dX9_toolOf_86 (by decide) ?_
              obtain ⟨q14, hq14, hf⟩ := zb_e hf
              refine x_calli (x_runV (As := [.int x1, .int 57]) (rest := []) ⟨hx, hb, hml, hown, hts⟩ (c_X9_t l G hG I J x1 57 hq14) (cwV 2 hts gX9_toolOf_X9_t rfl rfl rfl (by decide +kernel) ⟨Nat.le_of_ble_eq_true rfl, Nat.le_of_ble_eq_true rfl⟩) hK hP zkL_359 (by decide) rfl rfl hl.1 rfl (Nat.le_of_ble_eq_true rfl) dX9_toolOf_88 ⟨Nat.zero_le _, Nat.zero_le _⟩) hS (fun H locs hP hS => ?_)
              obtain rfl := Option.some.inj hf
              exact x_iret hx hb hr hlocks hK hP hS dX9_toolOf_91
            · have hf := zif_f c21 hf
              rcases Classical.em (x2 = 7) with c22 | c22
              · have hf := zif_t c22 hf
                refine lv_tableIn (off := 71) (tgt := 92) hx hb dX9_toolOf_21 (by rw [c22]; decide) (by rw [c22]; decide) (by rw [c22]; decide) (by decide) ?_
                refine lv_aload_n hx hb dX9_toolOf_92 rfl (lv_at hl 0 rfl) ?_
                refine lv_iload_n hx hb dX9_toolOf_93 rfl (lv_at hl 1 rfl) ?_
                refine lv_bipush (v := 6) hx hb dX9_toolOf_94 (by decide) ?_
                obtain ⟨q15, hq15, hf⟩ := zb_e hf
                refine x_calli (x_runV (As := [.int x1, .int 6]) (rest := []) ⟨hx, hb, hml, hown, hts⟩ (c_X9_t l G hG I J x1 6 hq15) (cwV 2 hts gX9_toolOf_X9_t rfl rfl rfl (by decide +kernel) ⟨Nat.le_of_ble_eq_true rfl, Nat.le_of_ble_eq_true rfl⟩) hK hP zkL_359 (by decide) rfl rfl hl.1 rfl (Nat.le_of_ble_eq_true rfl) dX9_toolOf_96 ⟨Nat.zero_le _, Nat.zero_le _⟩) hS (fun H locs hP hS => ?_)
                obtain rfl := Option.some.inj hf
                exact x_iret hx hb hr hlocks hK hP hS dX9_toolOf_99
              · have hf := zif_f c22 hf
                rcases Classical.em (x2 = 8) with c23 | c23
                · have hf := zif_t c23 hf
                  refine lv_tableIn (off := 79) (tgt := 100) hx hb dX9_toolOf_21 (by rw [c23]; decide) (by rw [c23]; decide) (by rw [c23]; decide) (by decide) ?_
                  refine lv_aload_n hx hb dX9_toolOf_100 rfl (lv_at hl 0 rfl) ?_
                  refine lv_iload_n hx hb dX9_toolOf_101 rfl (lv_at hl 1 rfl) ?_
                  refine lv_bipush (v := 32) hx hb dX9_toolOf_102 (by decide) ?_
                  obtain ⟨q16, hq16, hf⟩ := zb_e hf
                  refine x_calli (x_runV (As := [.int x1, .int 32]) (rest := []) ⟨hx, hb, hml, hown, hts⟩ (c_X9_t l G hG I J x1 32 hq16) (cwV 2 hts gX9_toolOf_X9_t rfl rfl rfl (by decide +kernel) ⟨Nat.le_of_ble_eq_true rfl, Nat.le_of_ble_eq_true rfl⟩) hK hP zkL_359 (by decide) rfl rfl hl.1 rfl (Nat.le_of_ble_eq_true rfl) dX9_toolOf_104 ⟨Nat.zero_le _, Nat.zero_le _⟩) hS (fun H locs hP hS => ?_)
                  obtain rfl := Option.some.inj hf
                  exact x_iret hx hb hr hlocks hK hP hS dX9_toolOf_107
                · have hf := zif_f c23 hf
                  have hD : W p l e (zrm 2 43) s m args below meth c H locs 0 0 (MQ below (zQi G r I J) args s 0 0 (zA G)) (F0 m 108 ls []) := by
                    refine lv_aload_n hx hb dX9_toolOf_108 rfl (lv_at hl 0 rfl) ?_
                    refine lv_iload_n hx hb dX9_toolOf_109 rfl (lv_at hl 1 rfl) ?_
                    refine lv_iload_n hx hb dX9_toolOf_110 rfl (lv_at hl 2 rfl) ?_
                    obtain ⟨q17, hq17, hf⟩ := zb_e hf
                    refine x_calli (x_runV (As := [.int x1, .int x2]) (rest := []) ⟨hx, hb, hml, hown, hts⟩ (c_X9_t l G hG I J x1 x2 hq17) (cwV 2 hts gX9_toolOf_X9_t rfl rfl rfl (by decide +kernel) ⟨Nat.le_of_ble_eq_true rfl, Nat.le_of_ble_eq_true rfl⟩) hK hP zkL_359 (by decide) rfl rfl hl.1 rfl (Nat.le_of_ble_eq_true rfl) dX9_toolOf_111 ⟨Nat.zero_le _, Nat.zero_le _⟩) hS (fun H locs hP hS => ?_)
                    obtain rfl := Option.some.inj hf
                    exact x_iret hx hb hr hlocks hK hP hS dX9_toolOf_114
                  rcases z_sw x2 2 8 7 (by decide) with h | ⟨k, hk, e⟩
                  · exact lv_tableOut hx hb dX9_toolOf_21 h (by decide) hD
                  · match k, hk, e with
                    | 0, _, e => exact absurd (e.trans (by decide)) c18
                    | 1, _, e => exact absurd (e.trans (by decide)) c19
                    | 2, _, e => exact absurd (e.trans (by decide)) c20
                    | 3, _, e => exact lv_tableIn (off := 87) (tgt := 108) hx hb dX9_toolOf_21 (by rw [e]; decide) (by rw [e]; decide) (by rw [e]; decide) (by decide) hD
                    | 4, _, e => exact absurd (e.trans (by decide)) c21
                    | 5, _, e => exact absurd (e.trans (by decide)) c22
                    | 6, _, e => exact absurd (e.trans (by decide)) c23
                    | _ + 7, hk, _ => exact absurd hk (by omega)
    · have hf := zif_t c4 hf
      refine lv_iconst (v := (-1)) hx hb dX9_toolOf_18 (by decide) ?_
      obtain rfl := Option.some.inj hf
      exact x_iret hx hb hr hlocks hK hP hS dX9_toolOf_19
set_option maxRecDepth 100000 in
set_option maxHeartbeats 4000000 in
theorem c_X9_waive (l : Launch) (G : zGT) (hG : zOK G) (I J : zM) (x1 : Int32) (x2 : Int32) {r : Int32 × zM} (hf : f_X9_waive J x1 x2 = some r) : Met l yX9_waive wsX9_waive (zrm 3 69) (va_Pc [.ref (G.2.1 359), .int x1, .int x2] (zS G I J)) (zQi G r.1 I r.2) 0 0 (zA G) := by
  refine zMet (cc := cX9_waive) (n := 4) (ret := (some .int)) (by decide) rfl (Nat.le_of_ble_eq_true rfl) ?_
  intro p e s m args below meth c H locs ls F hK hP hS hl
  obtain ⟨hx, hb, hr, hml, hts, hown, hlocks⟩ := F
  have hown : s.vm.findClass RX9 = some m.cls := hown
  have hl : lv_has ls 4 [(0, .ref (G.2.1 359)), (1, .int x1), (2, .int x2)] := hl
  unfold f_X9_waive at hf
  refine lv_aload_n hx hb dX9_waive_0 rfl (lv_at hl 0 rfl) ?_
  refine lv_iload_n hx hb dX9_waive_1 rfl (lv_at hl 1 rfl) ?_
  obtain ⟨q1, hq1, hf⟩ := zb_e hf
  refine x_calli (x_runV (As := [.int x1]) (rest := []) ⟨hx, hb, hml, hown, hts⟩ (c_X9_isPerson l G hG I J x1 hq1) (cwV 1 hts gX9_waive_X9_isPerson rfl rfl rfl (by decide +kernel) ⟨Nat.le_of_ble_eq_true rfl, Nat.le_of_ble_eq_true rfl⟩) hK hP zkL_359 (by decide) rfl rfl hl.1 rfl (Nat.le_of_ble_eq_true rfl) dX9_waive_2 ⟨Nat.zero_le _, Nat.zero_le _⟩) hS (fun H locs hP hS => ?_)
  refine lv_if_eq (tgt := 16) hx hb dX9_waive_5 (by decide) (fun c2 => ?_) (fun c2 => ?_)
  · have hf := zif_t c2 hf
    refine lv_iconst (v := (-1)) hx hb dX9_waive_16 (by decide) ?_
    obtain rfl := Option.some.inj hf
    exact x_iret hx hb hr hlocks hK hP hS dX9_waive_17
  · have hf := zif_f c2 hf
    refine lv_aload_n hx hb dX9_waive_8 rfl (lv_at hl 0 rfl) ?_
    refine lv_iload_n hx hb dX9_waive_9 rfl (lv_at hl 2 rfl) ?_
    obtain ⟨q3, hq3, hf⟩ := zb_e hf
    refine x_calli (x_runV (As := [.int x2]) (rest := []) ⟨hx, hb, hml, hown, hts⟩ (c_X9_isTool l G hG I J x2 hq3) (cwV 1 hts gX9_waive_X9_isTool rfl rfl rfl (by decide +kernel) ⟨Nat.le_of_ble_eq_true rfl, Nat.le_of_ble_eq_true rfl⟩) hK hP zkL_359 (by decide) rfl rfl hl.1 rfl (Nat.le_of_ble_eq_true rfl) dX9_waive_10 ⟨Nat.zero_le _, Nat.zero_le _⟩) hS (fun H locs hP hS => ?_)
    refine lv_if_ne (tgt := 18) hx hb dX9_waive_13 (by decide) (fun c4 => ?_) (fun c4 => ?_)
    · have hf := zif_f c4 hf
      refine lv_aload_n hx hb dX9_waive_18 rfl (lv_at hl 0 rfl) ?_
      refine lv_iload_n hx hb dX9_waive_19 rfl (lv_at hl 2 rfl) ?_
      refine lv_iload_n hx hb dX9_waive_20 rfl (lv_at hl 1 rfl) ?_
      obtain ⟨q5, hq5, hf⟩ := zb_e hf
      refine x_calli (x_runV (As := [.int x2, .int x1]) (rest := []) ⟨hx, hb, hml, hown, hts⟩ (c_X9_claimOn l G hG I J x2 x1 hq5) (cwV 2 hts gX9_waive_X9_claimOn rfl rfl rfl (by decide +kernel) ⟨Nat.le_of_ble_eq_true rfl, Nat.le_of_ble_eq_true rfl⟩) hK hP zkL_359 (by decide) rfl rfl hl.1 rfl (Nat.le_of_ble_eq_true rfl) dX9_waive_21 ⟨Nat.zero_le _, Nat.zero_le _⟩) hS (fun H locs hP hS => ?_)
      refine lv_istore_n (lv' := [(3, .int q5), (0, .ref (G.2.1 359)), (1, .int x1), (2, .int x2)]) hx hb dX9_waive_24 rfl hl (by decide) rfl (fun ls hl => ?_)
      refine lv_iload_n hx hb dX9_waive_25 rfl (lv_at hl 0 rfl) ?_
      refine lv_if_ge (tgt := 32) hx hb dX9_waive_26 (by decide) (fun c6 => ?_) (fun c6 => ?_)
      · have hf := zif_t c6 hf
        refine lv_aload_n hx hb dX9_waive_32 rfl (lv_at hl 1 rfl) ?_
        refine lv_iload_n hx hb dX9_waive_33 rfl (lv_at hl 3 rfl) ?_
        refine lv_iload_n hx hb dX9_waive_34 rfl (lv_at hl 0 rfl) ?_
        obtain ⟨q7, hq7, hf⟩ := zb_e hf
        refine x_callv (x_runV (As := [.int x2, .int q5]) (rest := []) ⟨hx, hb, hml, hown, hts⟩ (c_X9_claimGoes l G hG I J x2 q5 hq7) (cwV 2 hts gX9_waive_X9_claimGoes rfl rfl rfl (by decide +kernel) ⟨Nat.le_of_ble_eq_true rfl, Nat.le_of_ble_eq_true rfl⟩) hK hP zkL_359 (by decide) rfl rfl hl.1 rfl (Nat.le_of_ble_eq_true rfl) dX9_waive_35 ⟨Nat.zero_le _, Nat.zero_le _⟩) hS (fun H locs hP hS => ?_)
        refine lv_aload_n hx hb dX9_waive_38 rfl (lv_at hl 1 rfl) ?_
        refine lv_iload_n hx hb dX9_waive_39 rfl (lv_at hl 3 rfl) ?_
        refine lv_bipush (v := 57) hx hb dX9_waive_40 (by decide) ?_
        obtain ⟨q8, hq8, hf⟩ := zb_e hf
        refine x_calli (x_runV (As := [.int x2, .int 57]) (rest := []) ⟨hx, hb, hml, hown, hts⟩ (c_X9_t l G hG I q7 x2 57 hq8) (cwV 2 hts gX9_waive_X9_t rfl rfl rfl (by decide +kernel) ⟨Nat.le_of_ble_eq_true rfl, Nat.le_of_ble_eq_true rfl⟩) hK hP zkL_359 (by decide) rfl rfl hl.1 rfl (Nat.le_of_ble_eq_true rfl) dX9_waive_42 ⟨Nat.zero_le _, Nat.zero_le _⟩) hS (fun H locs hP hS => ?_)
        obtain rfl := Option.some.inj hf
        exact x_iret hx hb hr hlocks hK hP hS dX9_waive_45
      · have hf := zif_f c6 hf
        refine lv_bipush (v := (-2)) hx hb dX9_waive_29 (by decide) ?_
        obtain rfl := Option.some.inj hf
        exact x_iret hx hb hr hlocks hK hP hS dX9_waive_31
    · have hf := zif_t c4 hf
      refine lv_iconst (v := (-1)) hx hb dX9_waive_16 (by decide) ?_
      obtain rfl := Option.some.inj hf
      exact x_iret hx hb hr hlocks hK hP hS dX9_waive_17
set_option maxRecDepth 100000 in
set_option maxHeartbeats 4000000 in
theorem c_X9_why (l : Launch) (G : zGT) (hG : zOK G) (I J : zM) (x1 : Int32) {r : Int32} (hf : f_X9_why J x1 = some r) : Met l yX9_why wsX9_why (zrm 0 0) (va_Pc [.ref (G.2.1 359), .int x1] (zS G I J)) (zQi G r I J) 0 0 (zA G) := by
  refine zMet (cc := cX9_why) (n := 2) (ret := (some .int)) (by decide) rfl (Nat.le_of_ble_eq_true rfl) ?_
  intro p e s m args below meth c H locs ls F hK hP hS hl
  obtain ⟨hx, hb, hr, hml, hts, hown, hlocks⟩ := F
  have hown : s.vm.findClass RX9 = some m.cls := hown
  have hl : lv_has ls 2 [(0, .ref (G.2.1 359)), (1, .int x1)] := hl
  have hi9 : ∀ w ∈ wsX90, w ∈ wsX9_why := fun _ h => List.mem_cons_of_mem _ (List.mem_append_right _ h)
  unfold f_X9_why at hf
  refine lv_iload_n hx hb dX9_why_0 rfl (lv_at hl 1 rfl) ?_
  refine lv_if_ge (tgt := 8) hx hb dX9_why_1 (by decide) (fun c1 => ?_) (fun c1 => ?_)
  · have hf := zif_t c1 hf
    refine lv_iload_n hx hb dX9_why_8 rfl (lv_at hl 1 rfl) ?_
    refine lv_aload_n hx hb dX9_why_9 rfl (lv_at hl 0 rfl) ?_
    refine x_get (j := 0) (v := .ref (G.2.1 360)) hx hb hts hi9 hown hK hP zkL_359 rfl (by decide) (hts (.fieldLink RX9 9 "LeaseOfficeModel" "g" "[I") (by decide +kernel)) rfl (by decide) dX9_why_10 ?_
    refine lv_sipush (v := 1084) hx hb dX9_why_13 (by decide) ?_
    refine x_ialdL (j := 1084) hx hb hK hP (zK_lt zkL_360 (by decide)) (zE_15 (j := 1) zkL_360 zlL_360 rfl) (by decide) (by decide) dX9_why_16 ?_
    refine lv_icmp_ge (tgt := 33) hx hb dX9_why_17 (by decide) (fun c2 => ?_) (fun c2 => ?_)
    · have hf := zif_t c2 hf
      refine lv_bipush (v := (-2)) hx hb dX9_why_33 (by decide) ?_
      obtain rfl := Option.some.inj hf
      exact x_iret hx hb hr hlocks hK hP hS dX9_why_35
    · have hf := zif_f c2 hf
      refine lv_aload_n hx hb dX9_why_20 rfl (lv_at hl 0 rfl) ?_
      refine x_get (j := 0) (v := .ref (G.2.1 360)) hx hb hts hi9 hown hK hP zkL_359 rfl (by decide) (hts (.fieldLink RX9 9 "LeaseOfficeModel" "g" "[I") (by decide +kernel)) rfl (by decide) dX9_why_21 ?_
      refine lv_sipush (v := 1085) hx hb dX9_why_24 (by decide) ?_
      refine lv_iload_n hx hb dX9_why_27 rfl (lv_at hl 1 rfl) ?_
      refine lv_iadd hx hb dX9_why_28 ?_
      obtain ⟨h3, hf⟩ := zck_e hf
      refine x_iald hx hb hK hP (zK_lt zkL_360 (by decide)) (zE_15 (j := 1) zkL_360 zlL_360 rfl) (zin_e h3) dX9_why_29 ?_
      refine lv_goto (tgt := 35) hx hb dX9_why_30 (by decide) ?_
      obtain rfl := Option.some.inj hf
      exact x_iret hx hb hr hlocks hK hP hS dX9_why_35
  · have hf := zif_f c1 hf
    refine lv_iconst (v := (-1)) hx hb dX9_why_4 (by decide) ?_
    refine lv_goto (tgt := 35) hx hb dX9_why_5 (by decide) ?_
    obtain rfl := Option.some.inj hf
    exact x_iret hx hb hr hlocks hK hP hS dX9_why_35
