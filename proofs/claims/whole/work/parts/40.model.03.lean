set_option maxRecDepth 100000 in
set_option maxHeartbeats 4000000 in
theorem c_X9_returned (l : Launch) (G : zGT) (hG : zOK G) (I J : zM) (x1 : Int32) {r : Int32 × zM} (hf : f_X9_returned J x1 = some r) : Met l yX9_returned wsX9_returned (zrm 7 162) (va_Pc [.ref (G.2.1 359), .int x1] (zS G I J)) (zQi G r.1 I r.2) 0 0 (zA G) := by
  refine zMet (cc := cX9_returned) (n := 5) (ret := (some .int)) (by decide) rfl (Nat.le_of_ble_eq_true rfl) ?_
  intro p e s m args below meth c H locs ls F hK hP hS hl
  obtain ⟨hx, hb, hr, hml, hts, hown, hlocks⟩ := F
  have hown : s.vm.findClass RX9 = some m.cls := hown
  have hl : lv_has ls 5 [(0, .ref (G.2.1 359)), (1, .int x1)] := hl
  have hi9 : ∀ w ∈ wsX90, w ∈ wsX9_returned := fun _ h => List.mem_cons_of_mem _ (List.mem_append_right _ h)
  have J148 : ∀ (M : zM) (y3 : Int32) (s0 : Int32) (s1 : Int32) (s3 : Int32) (H : Heap) (locs : List Loc) (ls : Array Slot), f_X9_returned_j148 M x1 y3 s0 s1 s3 = some r → va_P G.1 vwCl (zW G I M) H → va_S (zA G) s.heap H locs → lv_has ls 5 [(0, .ref (G.2.1 359)), (1, .int x1), (3, .int y3)] → W p l e (zrm 7 162) s m args below meth c H locs 0 0 (MQ below (zQi G r.1 I r.2) args s 0 0 (zA G)) (F0 m 148 ls [.int s0, .int s1, .int 2, .int s3, .ref (G.2.1 359)]) := by
    intro M y3 s0 s1 s3 H locs ls hf hP hS hl
    unfold f_X9_returned_j148 at hf
    refine lv_iadd hx hb dX9_returned_148 ?_
    refine lv_iconst (v := 0) hx hb dX9_returned_149 (by decide) ?_
    refine lv_bipush (v := 99) hx hb dX9_returned_150 (by decide) ?_
    obtain ⟨q19, hq19, hf⟩ := zb_e hf
    refine x_calli (x_runS (As := [.int (s1 + s0), .int 0, .int 99]) (rest := [.int 2, .int s3, .ref (G.2.1 359)]) ⟨hx, hb, hml, hown, hts⟩ (c_X9_cut l G hG I M (s1 + s0) 0 99 hq19) (va_cwS 3 hts gX9_returned_X9_cut rfl rfl rfl (by decide +kernel) ⟨Nat.le_of_ble_eq_true rfl, Nat.le_of_ble_eq_true rfl⟩) hK hP rfl hl.1 rfl (Nat.le_of_ble_eq_true rfl) dX9_returned_152 ⟨Nat.zero_le _, Nat.zero_le _⟩) hS (fun H locs hP hS => ?_)
    obtain ⟨q20, hq20, hf⟩ := zb_e hf
    refine x_callv (x_runV (As := [.int s3, .int 2, .int q19]) (rest := []) ⟨hx, hb, hml, hown, hts⟩ (c_X9_setP l G hG I M s3 2 q19 hq20) (cwV 3 hts gX9_returned_X9_setP rfl rfl rfl (by decide +kernel) ⟨Nat.le_of_ble_eq_true rfl, Nat.le_of_ble_eq_true rfl⟩) hK hP zkL_359 (by decide) rfl rfl hl.1 rfl (Nat.le_of_ble_eq_true rfl) dX9_returned_155 ⟨Nat.zero_le _, Nat.zero_le _⟩) hS (fun H locs hP hS => ?_)
    refine lv_aload_n hx hb dX9_returned_158 rfl (lv_at hl 0 rfl) ?_
    refine lv_iload_n hx hb dX9_returned_159 rfl (lv_at hl 1 rfl) ?_
    refine lv_iconst (v := 5) hx hb dX9_returned_160 (by decide) ?_
    refine lv_iconst (v := 0) hx hb dX9_returned_161 (by decide) ?_
    obtain ⟨q21, hq21, hf⟩ := zb_e hf
    refine x_callv (x_runV (As := [.int x1, .int 5, .int 0]) (rest := []) ⟨hx, hb, hml, hown, hts⟩ (c_X9_setT l G hG I q20 x1 5 0 hq21) (cwV 3 hts gX9_returned_X9_setT rfl rfl rfl (by decide +kernel) ⟨Nat.le_of_ble_eq_true rfl, Nat.le_of_ble_eq_true rfl⟩) hK hP zkL_359 (by decide) rfl rfl hl.1 rfl (Nat.le_of_ble_eq_true rfl) dX9_returned_162 ⟨Nat.zero_le _, Nat.zero_le _⟩) hS (fun H locs hP hS => ?_)
    refine lv_aload_n hx hb dX9_returned_165 rfl (lv_at hl 0 rfl) ?_
    refine lv_iload_n hx hb dX9_returned_166 rfl (lv_at hl 1 rfl) ?_
    obtain ⟨q22, hq22, hf⟩ := zb_e hf
    refine x_callv (x_runV (As := [.int x1]) (rest := []) ⟨hx, hb, hml, hown, hts⟩ (c_X9_ends l G hG I q21 x1 hq22) (cwV 1 hts gX9_returned_X9_ends rfl rfl rfl (by decide +kernel) ⟨Nat.le_of_ble_eq_true rfl, Nat.le_of_ble_eq_true rfl⟩) hK hP zkL_359 (by decide) rfl rfl hl.1 rfl (Nat.le_of_ble_eq_true rfl) dX9_returned_167 ⟨Nat.zero_le _, Nat.zero_le _⟩) hS (fun H locs hP hS => ?_)
    refine lv_aload_n hx hb dX9_returned_170 rfl (lv_at hl 0 rfl) ?_
    refine lv_iload_n hx hb dX9_returned_171 rfl (lv_at hl 1 rfl) ?_
    obtain ⟨q23, hq23, hf⟩ := zb_e hf
    refine x_callv (x_runV (As := [.int x1]) (rest := []) ⟨hx, hb, hml, hown, hts⟩ (c_X9_offered l G hG I q22 x1 hq23) (cwV 1 hts gX9_returned_X9_offered rfl rfl rfl (by decide +kernel) ⟨Nat.le_of_ble_eq_true rfl, Nat.le_of_ble_eq_true rfl⟩) hK hP zkL_359 (by decide) rfl rfl hl.1 rfl (Nat.le_of_ble_eq_true rfl) dX9_returned_172 ⟨Nat.zero_le _, Nat.zero_le _⟩) hS (fun H locs hP hS => ?_)
    refine lv_iload_n hx hb dX9_returned_175 rfl (lv_at hl 2 rfl) ?_
    obtain rfl := Option.some.inj hf
    exact x_iret hx hb hr hlocks hK hP hS dX9_returned_176
  have J124 : ∀ (M : zM) (y2 : Int32) (y3 : Int32) (y4 : Int32) (s0 : Int32) (s1 : Int32) (s3 : Int32) (H : Heap) (locs : List Loc) (ls : Array Slot), f_X9_returned_j124 M x1 y2 y3 y4 s0 s1 s3 = some r → va_P G.1 vwCl (zW G I M) H → va_S (zA G) s.heap H locs → lv_has ls 5 [(0, .ref (G.2.1 359)), (1, .int x1), (2, .int y2), (3, .int y3), (4, .int y4)] → W p l e (zrm 7 162) s m args below meth c H locs 0 0 (MQ below (zQi G r.1 I r.2) args s 0 0 (zA G)) (F0 m 124 ls [.int s0, .int s1, .int 3, .int s3, .ref (G.2.1 359)]) := by
    intro M y2 y3 y4 s0 s1 s3 H locs ls hf hP hS hl
    unfold f_X9_returned_j124 at hf
    refine lv_iadd hx hb dX9_returned_124 ?_
    obtain ⟨q16, hq16, hf⟩ := zb_e hf
    refine x_callv (x_runV (As := [.int s3, .int 3, .int (s1 + s0)]) (rest := []) ⟨hx, hb, hml, hown, hts⟩ (c_X9_setP l G hG I M s3 3 (s1 + s0) hq16) (cwV 3 hts gX9_returned_X9_setP rfl rfl rfl (by decide +kernel) ⟨Nat.le_of_ble_eq_true rfl, Nat.le_of_ble_eq_true rfl⟩) hK hP zkL_359 (by decide) rfl rfl hl.1 rfl (Nat.le_of_ble_eq_true rfl) dX9_returned_125 ⟨Nat.zero_le _, Nat.zero_le _⟩) hS (fun H locs hP hS => ?_)
    refine lv_aload_n hx hb dX9_returned_128 rfl (lv_at hl 0 rfl) ?_
    refine lv_iload_n hx hb dX9_returned_129 rfl (lv_at hl 2 rfl) ?_
    refine lv_iconst (v := 2) hx hb dX9_returned_130 (by decide) ?_
    refine lv_aload_n hx hb dX9_returned_131 rfl (lv_at hl 0 rfl) ?_
    refine lv_iload_n hx hb dX9_returned_132 rfl (lv_at hl 2 rfl) ?_
    refine lv_iconst (v := 2) hx hb dX9_returned_133 (by decide) ?_
    obtain ⟨q17, hq17, hf⟩ := zb_e hf
    refine x_calli (x_runV (As := [.int y2, .int 2]) (rest := [.int 2, .int y2, .ref (G.2.1 359)]) ⟨hx, hb, hml, hown, hts⟩ (c_X9_p l G hG I q16 y2 2 hq17) (cwV 2 hts gX9_returned_X9_p rfl rfl rfl (by decide +kernel) ⟨Nat.le_of_ble_eq_true rfl, Nat.le_of_ble_eq_true rfl⟩) hK hP zkL_359 (by decide) rfl rfl hl.1 rfl (Nat.le_of_ble_eq_true rfl) dX9_returned_134 ⟨Nat.zero_le _, Nat.zero_le _⟩) hS (fun H locs hP hS => ?_)
    refine lv_iload hx hb dX9_returned_137 (lv_at hl 4 rfl) ?_
    refine lv_if_eq (tgt := 147) hx hb dX9_returned_139 (by decide) (fun c18 => ?_) (fun c18 => ?_)
    · have hf := zif_t c18 hf
      refine lv_iconst (v := 1) hx hb dX9_returned_147 (by decide) ?_
      exact J148 q16 y3 1 q17 y2 H locs ls hf hP hS (lv_sub hl [0, 1, 3] rfl)
    · have hf := zif_f c18 hf
      refine lv_bipush (v := (-5)) hx hb dX9_returned_142 (by decide) ?_
      refine lv_goto (tgt := 148) hx hb dX9_returned_144 (by decide) ?_
      exact J148 q16 y3 (-5) q17 y2 H locs ls hf hP hS (lv_sub hl [0, 1, 3] rfl)
  have J70 : ∀ (M : zM) (y2 : Int32) (y3 : Int32) (s0 : Int32) (H : Heap) (locs : List Loc) (ls : Array Slot), f_X9_returned_j70 M x1 y2 y3 s0 = some r → va_P G.1 vwCl (zW G I M) H → va_S (zA G) s.heap H locs → lv_has ls 5 [(0, .ref (G.2.1 359)), (1, .int x1), (2, .int y2), (3, .int y3)] → W p l e (zrm 7 162) s m args below meth c H locs 0 0 (MQ below (zQi G r.1 I r.2) args s 0 0 (zA G)) (F0 m 70 ls [.int s0]) := by
    intro M y2 y3 s0 H locs ls hf hP hS hl
    unfold f_X9_returned_j70 at hf
    refine lv_istore (lv' := [(4, .int s0), (0, .ref (G.2.1 359)), (1, .int x1), (2, .int y2), (3, .int y3)]) hx hb dX9_returned_70 hl (by decide) rfl (fun ls hl => ?_)
    refine lv_aload_n hx hb dX9_returned_72 rfl (lv_at hl 1 rfl) ?_
    refine x_get (j := 0) (v := .ref (G.2.1 360)) hx hb hts hi9 hown hK hP zkL_359 rfl (by decide) (hts (.fieldLink RX9 9 "LeaseOfficeModel" "g" "[I") (by decide +kernel)) rfl (by decide) dX9_returned_73 ?_
    refine lv_sipush (v := 1083) hx hb dX9_returned_76 (by decide) ?_
    refine lv_dup2_11 hx hb dX9_returned_79 rfl rfl ?_
    refine x_ialdL (j := 1083) hx hb hK hP (zK_lt zkL_360 (by decide)) (zE_15 (j := 1) zkL_360 zlL_360 rfl) (by decide) (by decide) dX9_returned_80 ?_
    refine lv_iload_n hx hb dX9_returned_81 rfl (lv_at hl 4 rfl) ?_
    refine lv_iadd hx hb dX9_returned_82 ?_
    obtain ⟨M10, eM10, hf⟩ := zlet_e hf
    refine x_iastM (j := 1) (a := 1083) eM10 (by decide) hx hb hG hK hP hS zkL_360 zlL_360 (zin_e (by decide)) dX9_returned_83 (fun H locs hP hS => ?_)
    refine lv_aload_n hx hb dX9_returned_84 rfl (lv_at hl 1 rfl) ?_
    refine lv_iload_n hx hb dX9_returned_85 rfl (lv_at hl 3 rfl) ?_
    refine lv_iconst (v := 1) hx hb dX9_returned_86 (by decide) ?_
    refine lv_aload_n hx hb dX9_returned_87 rfl (lv_at hl 1 rfl) ?_
    refine lv_iload_n hx hb dX9_returned_88 rfl (lv_at hl 3 rfl) ?_
    refine lv_iconst (v := 1) hx hb dX9_returned_89 (by decide) ?_
    obtain ⟨q11, hq11, hf⟩ := zb_e hf
    refine x_calli (x_runV (As := [.int y2, .int 1]) (rest := [.int 1, .int y2, .ref (G.2.1 359)]) ⟨hx, hb, hml, hown, hts⟩ (c_X9_p l G hG I M10 y2 1 hq11) (cwV 2 hts gX9_returned_X9_p rfl rfl rfl (by decide +kernel) ⟨Nat.le_of_ble_eq_true rfl, Nat.le_of_ble_eq_true rfl⟩) hK hP zkL_359 (by decide) rfl rfl hl.1 rfl (Nat.le_of_ble_eq_true rfl) dX9_returned_90 ⟨Nat.zero_le _, Nat.zero_le _⟩) hS (fun H locs hP hS => ?_)
    refine lv_aload_n hx hb dX9_returned_93 rfl (lv_at hl 1 rfl) ?_
    refine lv_iload_n hx hb dX9_returned_94 rfl (lv_at hl 2 rfl) ?_
    refine lv_iconst (v := 5) hx hb dX9_returned_95 (by decide) ?_
    obtain ⟨q12, hq12, hf⟩ := zb_e hf
    refine x_calli (x_runV (As := [.int x1, .int 5]) (rest := [.int q11, .int 1, .int y2, .ref (G.2.1 359)]) ⟨hx, hb, hml, hown, hts⟩ (c_X9_t l G hG I M10 x1 5 hq12) (cwV 2 hts gX9_returned_X9_t rfl rfl rfl (by decide +kernel) ⟨Nat.le_of_ble_eq_true rfl, Nat.le_of_ble_eq_true rfl⟩) hK hP zkL_359 (by decide) rfl rfl hl.1 rfl (Nat.le_of_ble_eq_true rfl) dX9_returned_96 ⟨Nat.zero_le _, Nat.zero_le _⟩) hS (fun H locs hP hS => ?_)
    refine lv_iadd hx hb dX9_returned_99 ?_
    refine lv_iload_n hx hb dX9_returned_100 rfl (lv_at hl 4 rfl) ?_
    refine lv_isub hx hb dX9_returned_101 ?_
    obtain ⟨q13, hq13, hf⟩ := zb_e hf
    refine x_callv (x_runV (As := [.int y2, .int 1, .int ((q11 + q12) - y3)]) (rest := []) ⟨hx, hb, hml, hown, hts⟩ (c_X9_setP l G hG I M10 y2 1 ((q11 + q12) - y3) hq13) (cwV 3 hts gX9_returned_X9_setP rfl rfl rfl (by decide +kernel) ⟨Nat.le_of_ble_eq_true rfl, Nat.le_of_ble_eq_true rfl⟩) hK hP zkL_359 (by decide) rfl rfl hl.1 rfl (Nat.le_of_ble_eq_true rfl) dX9_returned_102 ⟨Nat.zero_le _, Nat.zero_le _⟩) hS (fun H locs hP hS => ?_)
    refine lv_aload_n hx hb dX9_returned_105 rfl (lv_at hl 1 rfl) ?_
    refine lv_iload_n hx hb dX9_returned_106 rfl (lv_at hl 3 rfl) ?_
    refine lv_iconst (v := 3) hx hb dX9_returned_107 (by decide) ?_
    refine lv_aload_n hx hb dX9_returned_108 rfl (lv_at hl 1 rfl) ?_
    refine lv_iload_n hx hb dX9_returned_109 rfl (lv_at hl 3 rfl) ?_
    refine lv_iconst (v := 3) hx hb dX9_returned_110 (by decide) ?_
    obtain ⟨q14, hq14, hf⟩ := zb_e hf
    refine x_calli (x_runV (As := [.int y2, .int 3]) (rest := [.int 3, .int y2, .ref (G.2.1 359)]) ⟨hx, hb, hml, hown, hts⟩ (c_X9_p l G hG I q13 y2 3 hq14) (cwV 2 hts gX9_returned_X9_p rfl rfl rfl (by decide +kernel) ⟨Nat.le_of_ble_eq_true rfl, Nat.le_of_ble_eq_true rfl⟩) hK hP zkL_359 (by decide) rfl rfl hl.1 rfl (Nat.le_of_ble_eq_true rfl) dX9_returned_111 ⟨Nat.zero_le _, Nat.zero_le _⟩) hS (fun H locs hP hS => ?_)
    refine lv_iload hx hb dX9_returned_114 (lv_at hl 0 rfl) ?_
    refine lv_if_eq (tgt := 123) hx hb dX9_returned_116 (by decide) (fun c15 => ?_) (fun c15 => ?_)
    · have hf := zif_t c15 hf
      refine lv_iconst (v := 0) hx hb dX9_returned_123 (by decide) ?_
      exact J124 q13 y2 y3 s0 0 q14 y2 H locs ls hf hP hS (lv_sub hl [1, 2, 3, 4, 0] rfl)
    · have hf := zif_f c15 hf
      refine lv_iconst (v := 1) hx hb dX9_returned_119 (by decide) ?_
      refine lv_goto (tgt := 124) hx hb dX9_returned_120 (by decide) ?_
      exact J124 q13 y2 y3 s0 1 q14 y2 H locs ls hf hP hS (lv_sub hl [1, 2, 3, 4, 0] rfl)
  unfold f_X9_returned at hf
  refine lv_aload_n hx hb dX9_returned_0 rfl (lv_at hl 0 rfl) ?_
  refine lv_iload_n hx hb dX9_returned_1 rfl (lv_at hl 1 rfl) ?_
  obtain ⟨q1, hq1, hf⟩ := zb_e hf
  refine x_calli (x_runV (As := [.int x1]) (rest := []) ⟨hx, hb, hml, hown, hts⟩ (c_X9_isTool l G hG I J x1 hq1) (cwV 1 hts gX9_returned_X9_isTool rfl rfl rfl (by decide +kernel) ⟨Nat.le_of_ble_eq_true rfl, Nat.le_of_ble_eq_true rfl⟩) hK hP zkL_359 (by decide) rfl rfl hl.1 rfl (Nat.le_of_ble_eq_true rfl) dX9_returned_2 ⟨Nat.zero_le _, Nat.zero_le _⟩) hS (fun H locs hP hS => ?_)
  refine lv_if_ne (tgt := 10) hx hb dX9_returned_5 (by decide) (fun c2 => ?_) (fun c2 => ?_)
  · have hf := zif_f c2 hf
    refine lv_aload_n hx hb dX9_returned_10 rfl (lv_at hl 0 rfl) ?_
    refine lv_iload_n hx hb dX9_returned_11 rfl (lv_at hl 1 rfl) ?_
    obtain ⟨q3, hq3, hf⟩ := zb_e hf
    refine x_calli (x_runV (As := [.int x1]) (rest := []) ⟨hx, hb, hml, hown, hts⟩ (c_X9_isOut l G hG I J x1 hq3) (cwV 1 hts gX9_returned_X9_isOut rfl rfl rfl (by decide +kernel) ⟨Nat.le_of_ble_eq_true rfl, Nat.le_of_ble_eq_true rfl⟩) hK hP zkL_359 (by decide) rfl rfl hl.1 rfl (Nat.le_of_ble_eq_true rfl) dX9_returned_12 ⟨Nat.zero_le _, Nat.zero_le _⟩) hS (fun H locs hP hS => ?_)
    refine lv_if_ne (tgt := 21) hx hb dX9_returned_15 (by decide) (fun c4 => ?_) (fun c4 => ?_)
    · have hf := zif_f c4 hf
      refine lv_aload_n hx hb dX9_returned_21 rfl (lv_at hl 0 rfl) ?_
      refine lv_iload_n hx hb dX9_returned_22 rfl (lv_at hl 1 rfl) ?_
      obtain ⟨q5, hq5, hf⟩ := zb_e hf
      refine x_calli (x_runV (As := [.int x1]) (rest := []) ⟨hx, hb, hml, hown, hts⟩ (c_X9_looks l G hG I J x1 hq5) (cwV 1 hts gX9_returned_X9_looks rfl rfl rfl (by decide +kernel) ⟨Nat.le_of_ble_eq_true rfl, Nat.le_of_ble_eq_true rfl⟩) hK hP zkL_359 (by decide) rfl rfl hl.1 rfl (Nat.le_of_ble_eq_true rfl) dX9_returned_23 ⟨Nat.zero_le _, Nat.zero_le _⟩) hS (fun H locs hP hS => ?_)
      refine lv_pop hx hb dX9_returned_26 rfl ?_
      refine lv_aload_n hx hb dX9_returned_27 rfl (lv_at hl 0 rfl) ?_
      refine lv_iload_n hx hb dX9_returned_28 rfl (lv_at hl 1 rfl) ?_
      refine lv_iconst (v := 2) hx hb dX9_returned_29 (by decide) ?_
      obtain ⟨q6, hq6, hf⟩ := zb_e hf
      refine x_calli (x_runV (As := [.int x1, .int 2]) (rest := []) ⟨hx, hb, hml, hown, hts⟩ (c_X9_t l G hG I q5.2 x1 2 hq6) (cwV 2 hts gX9_returned_X9_t rfl rfl rfl (by decide +kernel) ⟨Nat.le_of_ble_eq_true rfl, Nat.le_of_ble_eq_true rfl⟩) hK hP zkL_359 (by decide) rfl rfl hl.1 rfl (Nat.le_of_ble_eq_true rfl) dX9_returned_30 ⟨Nat.zero_le _, Nat.zero_le _⟩) hS (fun H locs hP hS => ?_)
      refine lv_istore_n (lv' := [(2, .int q6), (0, .ref (G.2.1 359)), (1, .int x1)]) hx hb dX9_returned_33 rfl hl (by decide) rfl (fun ls hl => ?_)
      refine lv_aload_n hx hb dX9_returned_34 rfl (lv_at hl 1 rfl) ?_
      refine lv_iload_n hx hb dX9_returned_35 rfl (lv_at hl 2 rfl) ?_
      refine lv_aload_n hx hb dX9_returned_36 rfl (lv_at hl 1 rfl) ?_
      refine x_get (j := 0) (v := .ref (G.2.1 360)) hx hb hts hi9 hown hK hP zkL_359 rfl (by decide) (hts (.fieldLink RX9 9 "LeaseOfficeModel" "g" "[I") (by decide +kernel)) rfl (by decide) dX9_returned_37 ?_
      refine lv_sipush (v := 1082) hx hb dX9_returned_40 (by decide) ?_
      refine x_ialdL (j := 1082) hx hb hK hP (zK_lt zkL_360 (by decide)) (zE_15 (j := 1) zkL_360 zlL_360 rfl) (by decide) (by decide) dX9_returned_43 ?_
      obtain ⟨q7, hq7, hf⟩ := zb_e hf
      refine x_calli (x_runV (As := [.int x1, .int (q5.2 1 1082)]) (rest := []) ⟨hx, hb, hml, hown, hts⟩ (c_X9_fee l G hG I q5.2 x1 (q5.2 1 1082) hq7) (cwV 2 hts gX9_returned_X9_fee rfl rfl rfl (by decide +kernel) ⟨Nat.le_of_ble_eq_true rfl, Nat.le_of_ble_eq_true rfl⟩) hK hP zkL_359 (by decide) rfl rfl hl.1 rfl (Nat.le_of_ble_eq_true rfl) dX9_returned_44 ⟨Nat.zero_le _, Nat.zero_le _⟩) hS (fun H locs hP hS => ?_)
      refine lv_istore_n (lv' := [(3, .int q7), (2, .int q6), (0, .ref (G.2.1 359)), (1, .int x1)]) hx hb dX9_returned_47 rfl hl (by decide) rfl (fun ls hl => ?_)
      refine lv_aload_n hx hb dX9_returned_48 rfl (lv_at hl 2 rfl) ?_
      refine x_get (j := 0) (v := .ref (G.2.1 360)) hx hb hts hi9 hown hK hP zkL_359 rfl (by decide) (hts (.fieldLink RX9 9 "LeaseOfficeModel" "g" "[I") (by decide +kernel)) rfl (by decide) dX9_returned_49 ?_
      refine lv_sipush (v := 1082) hx hb dX9_returned_52 (by decide) ?_
      refine x_ialdL (j := 1082) hx hb hK hP (zK_lt zkL_360 (by decide)) (zE_15 (j := 1) zkL_360 zlL_360 rfl) (by decide) (by decide) dX9_returned_55 ?_
      refine lv_aload_n hx hb dX9_returned_56 rfl (lv_at hl 2 rfl) ?_
      refine lv_iload_n hx hb dX9_returned_57 rfl (lv_at hl 3 rfl) ?_
      refine lv_iconst (v := 4) hx hb dX9_returned_58 (by decide) ?_
      obtain ⟨q8, hq8, hf⟩ := zb_e hf
      refine x_calli (x_runV (As := [.int x1, .int 4]) (rest := [.int (q5.2 1 1082)]) ⟨hx, hb, hml, hown, hts⟩ (c_X9_t l G hG I q5.2 x1 4 hq8) (cwV 2 hts gX9_returned_X9_t rfl rfl rfl (by decide +kernel) ⟨Nat.le_of_ble_eq_true rfl, Nat.le_of_ble_eq_true rfl⟩) hK hP zkL_359 (by decide) rfl rfl hl.1 rfl (Nat.le_of_ble_eq_true rfl) dX9_returned_59 ⟨Nat.zero_le _, Nat.zero_le _⟩) hS (fun H locs hP hS => ?_)
      refine lv_icmp_le (tgt := 69) hx hb dX9_returned_62 (by decide) (fun c9 => ?_) (fun c9 => ?_)
      · have hf := zif_t c9 hf
        refine lv_iconst (v := 0) hx hb dX9_returned_69 (by decide) ?_
        exact J70 q5.2 q6 q7 0 H locs ls hf hP hS (lv_sub hl [2, 3, 1, 0] rfl)
      · have hf := zif_f c9 hf
        refine lv_iconst (v := 1) hx hb dX9_returned_65 (by decide) ?_
        refine lv_goto (tgt := 70) hx hb dX9_returned_66 (by decide) ?_
        exact J70 q5.2 q6 q7 1 H locs ls hf hP hS (lv_sub hl [2, 3, 1, 0] rfl)
    · have hf := zif_t c4 hf
      refine lv_bipush (v := (-5)) hx hb dX9_returned_18 (by decide) ?_
      obtain rfl := Option.some.inj hf
      exact x_iret hx hb hr hlocks hK hP hS dX9_returned_20
  · have hf := zif_t c2 hf
    refine lv_iconst (v := (-1)) hx hb dX9_returned_8 (by decide) ?_
    obtain rfl := Option.some.inj hf
    exact x_iret hx hb hr hlocks hK hP hS dX9_returned_9
set_option maxRecDepth 100000 in
set_option maxHeartbeats 4000000 in
theorem c_X9_noPass (l : Launch) (G : zGT) (hG : zOK G) (I J : zM) (x1 : Int32) (x2 : Int32) {r : Int32} (hf : f_X9_noPass J x1 x2 = some r) : Met l yX9_noPass wsX9_noPass (zrm 1 22) (va_Pc [.ref (G.2.1 359), .int x1, .int x2] (zS G I J)) (zQi G r I J) 0 0 (zA G) := by
  refine zMet (cc := cX9_noPass) (n := 3) (ret := (some .int)) (by decide) rfl (Nat.le_of_ble_eq_true rfl) ?_
  intro p e s m args below meth c H locs ls F hK hP hS hl
  obtain ⟨hx, hb, hr, hml, hts, hown, hlocks⟩ := F
  have hown : s.vm.findClass RX9 = some m.cls := hown
  have hl : lv_has ls 3 [(0, .ref (G.2.1 359)), (1, .int x1), (2, .int x2)] := hl
  have hi9 : ∀ w ∈ wsX90, w ∈ wsX9_noPass := fun _ h => List.mem_cons_of_mem _ (List.mem_append_right _ h)
  unfold f_X9_noPass at hf
  refine lv_aload_n hx hb dX9_noPass_0 rfl (lv_at hl 0 rfl) ?_
  refine x_get (j := 0) (v := .ref (G.2.1 360)) hx hb hts hi9 hown hK hP zkL_359 rfl (by decide) (hts (.fieldLink RX9 9 "LeaseOfficeModel" "g" "[I") (by decide +kernel)) rfl (by decide) dX9_noPass_1 ?_
  refine lv_sipush (v := 1082) hx hb dX9_noPass_4 (by decide) ?_
  refine x_ialdL (j := 1082) hx hb hK hP (zK_lt zkL_360 (by decide)) (zE_15 (j := 1) zkL_360 zlL_360 rfl) (by decide) (by decide) dX9_noPass_7 ?_
  refine lv_aload_n hx hb dX9_noPass_8 rfl (lv_at hl 0 rfl) ?_
  refine lv_iload_n hx hb dX9_noPass_9 rfl (lv_at hl 1 rfl) ?_
  refine lv_iconst (v := 4) hx hb dX9_noPass_10 (by decide) ?_
  obtain ⟨q1, hq1, hf⟩ := zb_e hf
  refine x_calli (x_runV (As := [.int x1, .int 4]) (rest := [.int (J 1 1082)]) ⟨hx, hb, hml, hown, hts⟩ (c_X9_t l G hG I J x1 4 hq1) (cwV 2 hts gX9_noPass_X9_t rfl rfl rfl (by decide +kernel) ⟨Nat.le_of_ble_eq_true rfl, Nat.le_of_ble_eq_true rfl⟩) hK hP zkL_359 (by decide) rfl rfl hl.1 rfl (Nat.le_of_ble_eq_true rfl) dX9_noPass_11 ⟨Nat.zero_le _, Nat.zero_le _⟩) hS (fun H locs hP hS => ?_)
  refine lv_icmp_le (tgt := 21) hx hb dX9_noPass_14 (by decide) (fun c2 => ?_) (fun c2 => ?_)
  · have hf := zif_t c2 hf
    refine lv_aload_n hx hb dX9_noPass_21 rfl (lv_at hl 0 rfl) ?_
    refine lv_iload_n hx hb dX9_noPass_22 rfl (lv_at hl 2 rfl) ?_
    refine lv_iconst (v := 1) hx hb dX9_noPass_23 (by decide) ?_
    obtain ⟨q3, hq3, hf⟩ := zb_e hf
    refine x_calli (x_runV (As := [.int x2, .int 1]) (rest := []) ⟨hx, hb, hml, hown, hts⟩ (c_X9_p l G hG I J x2 1 hq3) (cwV 2 hts gX9_noPass_X9_p rfl rfl rfl (by decide +kernel) ⟨Nat.le_of_ble_eq_true rfl, Nat.le_of_ble_eq_true rfl⟩) hK hP zkL_359 (by decide) rfl rfl hl.1 rfl (Nat.le_of_ble_eq_true rfl) dX9_noPass_24 ⟨Nat.zero_le _, Nat.zero_le _⟩) hS (fun H locs hP hS => ?_)
    refine lv_aload_n hx hb dX9_noPass_27 rfl (lv_at hl 0 rfl) ?_
    refine lv_iload_n hx hb dX9_noPass_28 rfl (lv_at hl 1 rfl) ?_
    refine lv_iconst (v := 5) hx hb dX9_noPass_29 (by decide) ?_
    obtain ⟨q4, hq4, hf⟩ := zb_e hf
    refine x_calli (x_runV (As := [.int x1, .int 5]) (rest := [.int q3]) ⟨hx, hb, hml, hown, hts⟩ (c_X9_t l G hG I J x1 5 hq4) (cwV 2 hts gX9_noPass_X9_t rfl rfl rfl (by decide +kernel) ⟨Nat.le_of_ble_eq_true rfl, Nat.le_of_ble_eq_true rfl⟩) hK hP zkL_359 (by decide) rfl rfl hl.1 rfl (Nat.le_of_ble_eq_true rfl) dX9_noPass_30 ⟨Nat.zero_le _, Nat.zero_le _⟩) hS (fun H locs hP hS => ?_)
    refine lv_icmp_ge (tgt := 40) hx hb dX9_noPass_33 (by decide) (fun c5 => ?_) (fun c5 => ?_)
    · have hf := zif_t c5 hf
      refine lv_iconst (v := 0) hx hb dX9_noPass_40 (by decide) ?_
      obtain rfl := Option.some.inj hf
      exact x_iret hx hb hr hlocks hK hP hS dX9_noPass_41
    · have hf := zif_f c5 hf
      refine lv_iconst (v := 2) hx hb dX9_noPass_36 (by decide) ?_
      refine lv_goto (tgt := 41) hx hb dX9_noPass_37 (by decide) ?_
      obtain rfl := Option.some.inj hf
      exact x_iret hx hb hr hlocks hK hP hS dX9_noPass_41
  · have hf := zif_f c2 hf
    refine lv_iconst (v := 3) hx hb dX9_noPass_17 (by decide) ?_
    refine lv_goto (tgt := 41) hx hb dX9_noPass_18 (by decide) ?_
    obtain rfl := Option.some.inj hf
    exact x_iret hx hb hr hlocks hK hP hS dX9_noPass_41
set_option maxRecDepth 100000 in
set_option maxHeartbeats 4000000 in
theorem c_X9_passes (l : Launch) (G : zGT) (hG : zOK G) (I J : zM) (x1 : Int32) (x2 : Int32) {r : zM} (hf : f_X9_passes J x1 x2 = some r) : Met l yX9_passes wsX9_passes (zrm 3 73) (va_Pc [.ref (G.2.1 359), .int x1, .int x2] (zS G I J)) (zQv G I r) 0 0 (zA G) := by
  refine zMet (cc := cX9_passes) (n := 4) (ret := none) (by decide) rfl (Nat.le_of_ble_eq_true rfl) ?_
  intro p e s m args below meth c H locs ls F hK hP hS hl
  obtain ⟨hx, hb, hr, hml, hts, hown, hlocks⟩ := F
  have hown : s.vm.findClass RX9 = some m.cls := hown
  have hl : lv_has ls 4 [(0, .ref (G.2.1 359)), (1, .int x1), (2, .int x2)] := hl
  unfold f_X9_passes at hf
  refine lv_aload_n hx hb dX9_passes_0 rfl (lv_at hl 0 rfl) ?_
  refine lv_iload_n hx hb dX9_passes_1 rfl (lv_at hl 1 rfl) ?_
  refine lv_iconst (v := 2) hx hb dX9_passes_2 (by decide) ?_
  obtain ⟨q1, hq1, hf⟩ := zb_e hf
  refine x_calli (x_runV (As := [.int x1, .int 2]) (rest := []) ⟨hx, hb, hml, hown, hts⟩ (c_X9_t l G hG I J x1 2 hq1) (cwV 2 hts gX9_passes_X9_t rfl rfl rfl (by decide +kernel) ⟨Nat.le_of_ble_eq_true rfl, Nat.le_of_ble_eq_true rfl⟩) hK hP zkL_359 (by decide) rfl rfl hl.1 rfl (Nat.le_of_ble_eq_true rfl) dX9_passes_3 ⟨Nat.zero_le _, Nat.zero_le _⟩) hS (fun H locs hP hS => ?_)
  refine lv_istore_n (lv' := [(3, .int q1), (0, .ref (G.2.1 359)), (1, .int x1), (2, .int x2)]) hx hb dX9_passes_6 rfl hl (by decide) rfl (fun ls hl => ?_)
  refine lv_aload_n hx hb dX9_passes_7 rfl (lv_at hl 1 rfl) ?_
  refine lv_iload_n hx hb dX9_passes_8 rfl (lv_at hl 3 rfl) ?_
  refine lv_iconst (v := 1) hx hb dX9_passes_9 (by decide) ?_
  refine lv_aload_n hx hb dX9_passes_10 rfl (lv_at hl 1 rfl) ?_
  refine lv_iload_n hx hb dX9_passes_11 rfl (lv_at hl 3 rfl) ?_
  refine lv_iconst (v := 1) hx hb dX9_passes_12 (by decide) ?_
  obtain ⟨q2, hq2, hf⟩ := zb_e hf
  refine x_calli (x_runV (As := [.int x2, .int 1]) (rest := [.int 1, .int x2, .ref (G.2.1 359)]) ⟨hx, hb, hml, hown, hts⟩ (c_X9_p l G hG I J x2 1 hq2) (cwV 2 hts gX9_passes_X9_p rfl rfl rfl (by decide +kernel) ⟨Nat.le_of_ble_eq_true rfl, Nat.le_of_ble_eq_true rfl⟩) hK hP zkL_359 (by decide) rfl rfl hl.1 rfl (Nat.le_of_ble_eq_true rfl) dX9_passes_13 ⟨Nat.zero_le _, Nat.zero_le _⟩) hS (fun H locs hP hS => ?_)
  refine lv_aload_n hx hb dX9_passes_16 rfl (lv_at hl 1 rfl) ?_
  refine lv_iload_n hx hb dX9_passes_17 rfl (lv_at hl 2 rfl) ?_
  refine lv_iconst (v := 5) hx hb dX9_passes_18 (by decide) ?_
  obtain ⟨q3, hq3, hf⟩ := zb_e hf
  refine x_calli (x_runV (As := [.int x1, .int 5]) (rest := [.int q2, .int 1, .int x2, .ref (G.2.1 359)]) ⟨hx, hb, hml, hown, hts⟩ (c_X9_t l G hG I J x1 5 hq3) (cwV 2 hts gX9_passes_X9_t rfl rfl rfl (by decide +kernel) ⟨Nat.le_of_ble_eq_true rfl, Nat.le_of_ble_eq_true rfl⟩) hK hP zkL_359 (by decide) rfl rfl hl.1 rfl (Nat.le_of_ble_eq_true rfl) dX9_passes_19 ⟨Nat.zero_le _, Nat.zero_le _⟩) hS (fun H locs hP hS => ?_)
  refine lv_isub hx hb dX9_passes_22 ?_
  obtain ⟨q4, hq4, hf⟩ := zb_e hf
  refine x_callv (x_runV (As := [.int x2, .int 1, .int (q2 - q3)]) (rest := []) ⟨hx, hb, hml, hown, hts⟩ (c_X9_setP l G hG I J x2 1 (q2 - q3) hq4) (cwV 3 hts gX9_passes_X9_setP rfl rfl rfl (by decide +kernel) ⟨Nat.le_of_ble_eq_true rfl, Nat.le_of_ble_eq_true rfl⟩) hK hP zkL_359 (by decide) rfl rfl hl.1 rfl (Nat.le_of_ble_eq_true rfl) dX9_passes_23 ⟨Nat.zero_le _, Nat.zero_le _⟩) hS (fun H locs hP hS => ?_)
  refine lv_aload_n hx hb dX9_passes_26 rfl (lv_at hl 1 rfl) ?_
  refine lv_iload_n hx hb dX9_passes_27 rfl (lv_at hl 0 rfl) ?_
  refine lv_iconst (v := 1) hx hb dX9_passes_28 (by decide) ?_
  refine lv_aload_n hx hb dX9_passes_29 rfl (lv_at hl 1 rfl) ?_
  refine lv_iload_n hx hb dX9_passes_30 rfl (lv_at hl 0 rfl) ?_
  refine lv_iconst (v := 1) hx hb dX9_passes_31 (by decide) ?_
  obtain ⟨q5, hq5, hf⟩ := zb_e hf
  refine x_calli (x_runV (As := [.int q1, .int 1]) (rest := [.int 1, .int q1, .ref (G.2.1 359)]) ⟨hx, hb, hml, hown, hts⟩ (c_X9_p l G hG I q4 q1 1 hq5) (cwV 2 hts gX9_passes_X9_p rfl rfl rfl (by decide +kernel) ⟨Nat.le_of_ble_eq_true rfl, Nat.le_of_ble_eq_true rfl⟩) hK hP zkL_359 (by decide) rfl rfl hl.1 rfl (Nat.le_of_ble_eq_true rfl) dX9_passes_32 ⟨Nat.zero_le _, Nat.zero_le _⟩) hS (fun H locs hP hS => ?_)
  refine lv_aload_n hx hb dX9_passes_35 rfl (lv_at hl 1 rfl) ?_
  refine lv_iload_n hx hb dX9_passes_36 rfl (lv_at hl 2 rfl) ?_
  refine lv_iconst (v := 5) hx hb dX9_passes_37 (by decide) ?_
  obtain ⟨q6, hq6, hf⟩ := zb_e hf
  refine x_calli (x_runV (As := [.int x1, .int 5]) (rest := [.int q5, .int 1, .int q1, .ref (G.2.1 359)]) ⟨hx, hb, hml, hown, hts⟩ (c_X9_t l G hG I q4 x1 5 hq6) (cwV 2 hts gX9_passes_X9_t rfl rfl rfl (by decide +kernel) ⟨Nat.le_of_ble_eq_true rfl, Nat.le_of_ble_eq_true rfl⟩) hK hP zkL_359 (by decide) rfl rfl hl.1 rfl (Nat.le_of_ble_eq_true rfl) dX9_passes_38 ⟨Nat.zero_le _, Nat.zero_le _⟩) hS (fun H locs hP hS => ?_)
  refine lv_iadd hx hb dX9_passes_41 ?_
  obtain ⟨q7, hq7, hf⟩ := zb_e hf
  refine x_callv (x_runV (As := [.int q1, .int 1, .int (q5 + q6)]) (rest := []) ⟨hx, hb, hml, hown, hts⟩ (c_X9_setP l G hG I q4 q1 1 (q5 + q6) hq7) (cwV 3 hts gX9_passes_X9_setP rfl rfl rfl (by decide +kernel) ⟨Nat.le_of_ble_eq_true rfl, Nat.le_of_ble_eq_true rfl⟩) hK hP zkL_359 (by decide) rfl rfl hl.1 rfl (Nat.le_of_ble_eq_true rfl) dX9_passes_42 ⟨Nat.zero_le _, Nat.zero_le _⟩) hS (fun H locs hP hS => ?_)
  refine lv_aload_n hx hb dX9_passes_45 rfl (lv_at hl 1 rfl) ?_
  refine lv_iload_n hx hb dX9_passes_46 rfl (lv_at hl 2 rfl) ?_
  obtain ⟨q8, hq8, hf⟩ := zb_e hf
  refine x_callv (x_runV (As := [.int x1]) (rest := []) ⟨hx, hb, hml, hown, hts⟩ (c_X9_ends l G hG I q7 x1 hq8) (cwV 1 hts gX9_passes_X9_ends rfl rfl rfl (by decide +kernel) ⟨Nat.le_of_ble_eq_true rfl, Nat.le_of_ble_eq_true rfl⟩) hK hP zkL_359 (by decide) rfl rfl hl.1 rfl (Nat.le_of_ble_eq_true rfl) dX9_passes_47 ⟨Nat.zero_le _, Nat.zero_le _⟩) hS (fun H locs hP hS => ?_)
  refine lv_aload_n hx hb dX9_passes_50 rfl (lv_at hl 1 rfl) ?_
  refine lv_iload_n hx hb dX9_passes_51 rfl (lv_at hl 2 rfl) ?_
  refine lv_iload_n hx hb dX9_passes_52 rfl (lv_at hl 3 rfl) ?_
  obtain ⟨q9, hq9, hf⟩ := zb_e hf
  refine x_callv (x_runV (As := [.int x1, .int x2]) (rest := []) ⟨hx, hb, hml, hown, hts⟩ (c_X9_begins l G hG I q8 x1 x2 hq9) (cwV 2 hts gX9_passes_X9_begins rfl rfl rfl (by decide +kernel) ⟨Nat.le_of_ble_eq_true rfl, Nat.le_of_ble_eq_true rfl⟩) hK hP zkL_359 (by decide) rfl rfl hl.1 rfl (Nat.le_of_ble_eq_true rfl) dX9_passes_53 ⟨Nat.zero_le _, Nat.zero_le _⟩) hS (fun H locs hP hS => ?_)
  obtain rfl := Option.some.inj hf
  exact x_vret hx hb hr hlocks hK hP hS dX9_passes_56
set_option maxRecDepth 100000 in
set_option maxHeartbeats 4000000 in
theorem c_X9_pass (l : Launch) (G : zGT) (hG : zOK G) (I J : zM) (x1 : Int32) (x2 : Int32) {r : Int32 × zM} (hf : f_X9_pass J x1 x2 = some r) : Met l yX9_pass wsX9_pass (zrm 4 96) (va_Pc [.ref (G.2.1 359), .int x1, .int x2] (zS G I J)) (zQi G r.1 I r.2) 0 0 (zA G) := by
  refine zMet (cc := cX9_pass) (n := 4) (ret := (some .int)) (by decide) rfl (Nat.le_of_ble_eq_true rfl) ?_
  intro p e s m args below meth c H locs ls F hK hP hS hl
  obtain ⟨hx, hb, hr, hml, hts, hown, hlocks⟩ := F
  have hown : s.vm.findClass RX9 = some m.cls := hown
  have hl : lv_has ls 4 [(0, .ref (G.2.1 359)), (1, .int x1), (2, .int x2)] := hl
  unfold f_X9_pass at hf
  refine lv_aload_n hx hb dX9_pass_0 rfl (lv_at hl 0 rfl) ?_
  refine lv_iload_n hx hb dX9_pass_1 rfl (lv_at hl 1 rfl) ?_
  obtain ⟨q1, hq1, hf⟩ := zb_e hf
  refine x_calli (x_runV (As := [.int x1]) (rest := []) ⟨hx, hb, hml, hown, hts⟩ (c_X9_isTool l G hG I J x1 hq1) (cwV 1 hts gX9_pass_X9_isTool rfl rfl rfl (by decide +kernel) ⟨Nat.le_of_ble_eq_true rfl, Nat.le_of_ble_eq_true rfl⟩) hK hP zkL_359 (by decide) rfl rfl hl.1 rfl (Nat.le_of_ble_eq_true rfl) dX9_pass_2 ⟨Nat.zero_le _, Nat.zero_le _⟩) hS (fun H locs hP hS => ?_)
  refine lv_if_eq (tgt := 26) hx hb dX9_pass_5 (by decide) (fun c2 => ?_) (fun c2 => ?_)
  · have hf := zif_t c2 hf
    refine lv_iconst (v := (-1)) hx hb dX9_pass_26 (by decide) ?_
    obtain rfl := Option.some.inj hf
    exact x_iret hx hb hr hlocks hK hP hS dX9_pass_27
  · have hf := zif_f c2 hf
    refine lv_aload_n hx hb dX9_pass_8 rfl (lv_at hl 0 rfl) ?_
    refine lv_iload_n hx hb dX9_pass_9 rfl (lv_at hl 2 rfl) ?_
    obtain ⟨q3, hq3, hf⟩ := zb_e hf
    refine x_calli (x_runV (As := [.int x2]) (rest := []) ⟨hx, hb, hml, hown, hts⟩ (c_X9_isPerson l G hG I J x2 hq3) (cwV 1 hts gX9_pass_X9_isPerson rfl rfl rfl (by decide +kernel) ⟨Nat.le_of_ble_eq_true rfl, Nat.le_of_ble_eq_true rfl⟩) hK hP zkL_359 (by decide) rfl rfl hl.1 rfl (Nat.le_of_ble_eq_true rfl) dX9_pass_10 ⟨Nat.zero_le _, Nat.zero_le _⟩) hS (fun H locs hP hS => ?_)
    refine lv_if_eq (tgt := 26) hx hb dX9_pass_13 (by decide) (fun c4 => ?_) (fun c4 => ?_)
    · have hf := zif_t c4 hf
      refine lv_iconst (v := (-1)) hx hb dX9_pass_26 (by decide) ?_
      obtain rfl := Option.some.inj hf
      exact x_iret hx hb hr hlocks hK hP hS dX9_pass_27
    · have hf := zif_f c4 hf
      refine lv_aload_n hx hb dX9_pass_16 rfl (lv_at hl 0 rfl) ?_
      refine lv_iload_n hx hb dX9_pass_17 rfl (lv_at hl 1 rfl) ?_
      refine lv_iconst (v := 2) hx hb dX9_pass_18 (by decide) ?_
      obtain ⟨q5, hq5, hf⟩ := zb_e hf
      refine x_calli (x_runV (As := [.int x1, .int 2]) (rest := []) ⟨hx, hb, hml, hown, hts⟩ (c_X9_t l G hG I J x1 2 hq5) (cwV 2 hts gX9_pass_X9_t rfl rfl rfl (by decide +kernel) ⟨Nat.le_of_ble_eq_true rfl, Nat.le_of_ble_eq_true rfl⟩) hK hP zkL_359 (by decide) rfl rfl hl.1 rfl (Nat.le_of_ble_eq_true rfl) dX9_pass_19 ⟨Nat.zero_le _, Nat.zero_le _⟩) hS (fun H locs hP hS => ?_)
      refine lv_iload_n hx hb dX9_pass_22 rfl (lv_at hl 2 rfl) ?_
      refine lv_icmp_ne (tgt := 28) hx hb dX9_pass_23 (by decide) (fun c6 => ?_) (fun c6 => ?_)
      · have hf := zif_f c6 hf
        refine lv_aload_n hx hb dX9_pass_28 rfl (lv_at hl 0 rfl) ?_
        refine lv_iload_n hx hb dX9_pass_29 rfl (lv_at hl 1 rfl) ?_
        obtain ⟨q7, hq7, hf⟩ := zb_e hf
        refine x_calli (x_runV (As := [.int x1]) (rest := []) ⟨hx, hb, hml, hown, hts⟩ (c_X9_isOut l G hG I J x1 hq7) (cwV 1 hts gX9_pass_X9_isOut rfl rfl rfl (by decide +kernel) ⟨Nat.le_of_ble_eq_true rfl, Nat.le_of_ble_eq_true rfl⟩) hK hP zkL_359 (by decide) rfl rfl hl.1 rfl (Nat.le_of_ble_eq_true rfl) dX9_pass_30 ⟨Nat.zero_le _, Nat.zero_le _⟩) hS (fun H locs hP hS => ?_)
        refine lv_if_ne (tgt := 39) hx hb dX9_pass_33 (by decide) (fun c8 => ?_) (fun c8 => ?_)
        · have hf := zif_f c8 hf
          refine lv_aload_n hx hb dX9_pass_39 rfl (lv_at hl 0 rfl) ?_
          refine lv_iload_n hx hb dX9_pass_40 rfl (lv_at hl 1 rfl) ?_
          refine lv_iload_n hx hb dX9_pass_41 rfl (lv_at hl 2 rfl) ?_
          obtain ⟨q9, hq9, hf⟩ := zb_e hf
          refine x_calli (x_runV (As := [.int x1, .int x2]) (rest := []) ⟨hx, hb, hml, hown, hts⟩ (c_X9_noPass l G hG I J x1 x2 hq9) (cwV 2 hts gX9_pass_X9_noPass rfl rfl rfl (by decide +kernel) ⟨Nat.le_of_ble_eq_true rfl, Nat.le_of_ble_eq_true rfl⟩) hK hP zkL_359 (by decide) rfl rfl hl.1 rfl (Nat.le_of_ble_eq_true rfl) dX9_pass_42 ⟨Nat.zero_le _, Nat.zero_le _⟩) hS (fun H locs hP hS => ?_)
          refine lv_istore_n (lv' := [(3, .int q9), (0, .ref (G.2.1 359)), (1, .int x1), (2, .int x2)]) hx hb dX9_pass_45 rfl hl (by decide) rfl (fun ls hl => ?_)
          refine lv_iload_n hx hb dX9_pass_46 rfl (lv_at hl 0 rfl) ?_
          refine lv_if_eq (tgt := 58) hx hb dX9_pass_47 (by decide) (fun c10 => ?_) (fun c10 => ?_)
          · have hf := zif_t c10 hf
            refine lv_aload_n hx hb dX9_pass_58 rfl (lv_at hl 1 rfl) ?_
            refine lv_iload_n hx hb dX9_pass_59 rfl (lv_at hl 2 rfl) ?_
            refine lv_iload_n hx hb dX9_pass_60 rfl (lv_at hl 3 rfl) ?_
            obtain ⟨q11, hq11, hf⟩ := zb_e hf
            refine x_callv (x_runV (As := [.int x1, .int x2]) (rest := []) ⟨hx, hb, hml, hown, hts⟩ (c_X9_passes l G hG I J x1 x2 hq11) (cwV 2 hts gX9_pass_X9_passes rfl rfl rfl (by decide +kernel) ⟨Nat.le_of_ble_eq_true rfl, Nat.le_of_ble_eq_true rfl⟩) hK hP zkL_359 (by decide) rfl rfl hl.1 rfl (Nat.le_of_ble_eq_true rfl) dX9_pass_61 ⟨Nat.zero_le _, Nat.zero_le _⟩) hS (fun H locs hP hS => ?_)
            refine lv_iconst (v := 1) hx hb dX9_pass_64 (by decide) ?_
            obtain rfl := Option.some.inj hf
            exact x_iret hx hb hr hlocks hK hP hS dX9_pass_65
          · have hf := zif_f c10 hf
            refine lv_aload_n hx hb dX9_pass_50 rfl (lv_at hl 1 rfl) ?_
            refine lv_bipush (v := 6) hx hb dX9_pass_51 (by decide) ?_
            refine lv_iload_n hx hb dX9_pass_53 rfl (lv_at hl 0 rfl) ?_
            obtain ⟨q12, hq12, hf⟩ := zb_e hf
            refine x_calli (x_runV (As := [.int 6, .int q9]) (rest := []) ⟨hx, hb, hml, hown, hts⟩ (c_X9_refused l G hG I J 6 q9 hq12) (cwV 2 hts gX9_pass_X9_refused rfl rfl rfl (by decide +kernel) ⟨Nat.le_of_ble_eq_true rfl, Nat.le_of_ble_eq_true rfl⟩) hK hP zkL_359 (by decide) rfl rfl hl.1 rfl (Nat.le_of_ble_eq_true rfl) dX9_pass_54 ⟨Nat.zero_le _, Nat.zero_le _⟩) hS (fun H locs hP hS => ?_)
            obtain rfl := Option.some.inj hf
            exact x_iret hx hb hr hlocks hK hP hS dX9_pass_57
        · have hf := zif_t c8 hf
          refine lv_bipush (v := (-5)) hx hb dX9_pass_36 (by decide) ?_
          obtain rfl := Option.some.inj hf
          exact x_iret hx hb hr hlocks hK hP hS dX9_pass_38
      · have hf := zif_t c6 hf
        refine lv_iconst (v := (-1)) hx hb dX9_pass_26 (by decide) ?_
        obtain rfl := Option.some.inj hf
        exact x_iret hx hb hr hlocks hK hP hS dX9_pass_27
set_option maxRecDepth 100000 in
set_option maxHeartbeats 4000000 in
theorem c_X9_mayBeSwapped (l : Launch) (G : zGT) (hG : zOK G) (I J : zM) (x1 : Int32) (x2 : Int32) {r : Int32} (hf : f_X9_mayBeSwapped J x1 x2 = some r) : Met l yX9_mayBeSwapped wsX9_mayBeSwapped (zrm 2 43) (va_Pc [.ref (G.2.1 359), .int x1, .int x2] (zS G I J)) (zQi G r I J) 0 0 (zA G) := by
  refine zMet (cc := cX9_mayBeSwapped) (n := 3) (ret := (some .boolean)) (by decide) rfl (Nat.le_of_ble_eq_true rfl) ?_
  intro p e s m args below meth c H locs ls F hK hP hS hl
  obtain ⟨hx, hb, hr, hml, hts, hown, hlocks⟩ := F
  have hown : s.vm.findClass RX9 = some m.cls := hown
  have hl : lv_has ls 3 [(0, .ref (G.2.1 359)), (1, .int x1), (2, .int x2)] := hl
  unfold f_X9_mayBeSwapped at hf
  refine lv_iload_n hx hb dX9_mayBeSwapped_0 rfl (lv_at hl 1 rfl) ?_
  refine lv_iload_n hx hb dX9_mayBeSwapped_1 rfl (lv_at hl 2 rfl) ?_
  refine lv_icmp_eq (tgt := 40) hx hb dX9_mayBeSwapped_2 (by decide) (fun c1 => ?_) (fun c1 => ?_)
  · have hf := zif_t c1 hf
    refine lv_iconst (v := 0) hx hb dX9_mayBeSwapped_40 (by decide) ?_
    obtain rfl := Option.some.inj hf
    exact x_zret (v := 0) rfl hx hb hr hlocks hK hP hS dX9_mayBeSwapped_41
  · have hf := zif_f c1 hf
    refine lv_aload_n hx hb dX9_mayBeSwapped_5 rfl (lv_at hl 0 rfl) ?_
    refine lv_iload_n hx hb dX9_mayBeSwapped_6 rfl (lv_at hl 1 rfl) ?_
    obtain ⟨q2, hq2, hf⟩ := zb_e hf
    refine x_calli (x_runV (As := [.int x1]) (rest := []) ⟨hx, hb, hml, hown, hts⟩ (c_X9_isOut l G hG I J x1 hq2) (cwV 1 hts gX9_mayBeSwapped_X9_isOut rfl rfl rfl (by decide +kernel) ⟨Nat.le_of_ble_eq_true rfl, Nat.le_of_ble_eq_true rfl⟩) hK hP zkL_359 (by decide) rfl rfl hl.1 rfl (Nat.le_of_ble_eq_true rfl) dX9_mayBeSwapped_7 ⟨Nat.zero_le _, Nat.zero_le _⟩) hS (fun H locs hP hS => ?_)
    refine lv_if_eq (tgt := 40) hx hb dX9_mayBeSwapped_10 (by decide) (fun c3 => ?_) (fun c3 => ?_)
    · have hf := zif_t c3 hf
      refine lv_iconst (v := 0) hx hb dX9_mayBeSwapped_40 (by decide) ?_
      obtain rfl := Option.some.inj hf
      exact x_zret (v := 0) rfl hx hb hr hlocks hK hP hS dX9_mayBeSwapped_41
    · have hf := zif_f c3 hf
      refine lv_aload_n hx hb dX9_mayBeSwapped_13 rfl (lv_at hl 0 rfl) ?_
      refine lv_iload_n hx hb dX9_mayBeSwapped_14 rfl (lv_at hl 2 rfl) ?_
      obtain ⟨q4, hq4, hf⟩ := zb_e hf
      refine x_calli (x_runV (As := [.int x2]) (rest := []) ⟨hx, hb, hml, hown, hts⟩ (c_X9_isOut l G hG I J x2 hq4) (cwV 1 hts gX9_mayBeSwapped_X9_isOut rfl rfl rfl (by decide +kernel) ⟨Nat.le_of_ble_eq_true rfl, Nat.le_of_ble_eq_true rfl⟩) hK hP zkL_359 (by decide) rfl rfl hl.1 rfl (Nat.le_of_ble_eq_true rfl) dX9_mayBeSwapped_15 ⟨Nat.zero_le _, Nat.zero_le _⟩) hS (fun H locs hP hS => ?_)
      refine lv_if_eq (tgt := 40) hx hb dX9_mayBeSwapped_18 (by decide) (fun c5 => ?_) (fun c5 => ?_)
      · have hf := zif_t c5 hf
        refine lv_iconst (v := 0) hx hb dX9_mayBeSwapped_40 (by decide) ?_
        obtain rfl := Option.some.inj hf
        exact x_zret (v := 0) rfl hx hb hr hlocks hK hP hS dX9_mayBeSwapped_41
      · have hf := zif_f c5 hf
        refine lv_aload_n hx hb dX9_mayBeSwapped_21 rfl (lv_at hl 0 rfl) ?_
        refine lv_iload_n hx hb dX9_mayBeSwapped_22 rfl (lv_at hl 1 rfl) ?_
        refine lv_iconst (v := 2) hx hb dX9_mayBeSwapped_23 (by decide) ?_
        obtain ⟨q6, hq6, hf⟩ := zb_e hf
        refine x_calli (x_runV (As := [.int x1, .int 2]) (rest := []) ⟨hx, hb, hml, hown, hts⟩ (c_X9_t l G hG I J x1 2 hq6) (cwV 2 hts gX9_mayBeSwapped_X9_t rfl rfl rfl (by decide +kernel) ⟨Nat.le_of_ble_eq_true rfl, Nat.le_of_ble_eq_true rfl⟩) hK hP zkL_359 (by decide) rfl rfl hl.1 rfl (Nat.le_of_ble_eq_true rfl) dX9_mayBeSwapped_24 ⟨Nat.zero_le _, Nat.zero_le _⟩) hS (fun H locs hP hS => ?_)
        refine lv_aload_n hx hb dX9_mayBeSwapped_27 rfl (lv_at hl 0 rfl) ?_
        refine lv_iload_n hx hb dX9_mayBeSwapped_28 rfl (lv_at hl 2 rfl) ?_
        refine lv_iconst (v := 2) hx hb dX9_mayBeSwapped_29 (by decide) ?_
        obtain ⟨q7, hq7, hf⟩ := zb_e hf
        refine x_calli (x_runV (As := [.int x2, .int 2]) (rest := [.int q6]) ⟨hx, hb, hml, hown, hts⟩ (c_X9_t l G hG I J x2 2 hq7) (cwV 2 hts gX9_mayBeSwapped_X9_t rfl rfl rfl (by decide +kernel) ⟨Nat.le_of_ble_eq_true rfl, Nat.le_of_ble_eq_true rfl⟩) hK hP zkL_359 (by decide) rfl rfl hl.1 rfl (Nat.le_of_ble_eq_true rfl) dX9_mayBeSwapped_30 ⟨Nat.zero_le _, Nat.zero_le _⟩) hS (fun H locs hP hS => ?_)
        refine lv_icmp_eq (tgt := 40) hx hb dX9_mayBeSwapped_33 (by decide) (fun c8 => ?_) (fun c8 => ?_)
        · have hf := zif_t c8 hf
          refine lv_iconst (v := 0) hx hb dX9_mayBeSwapped_40 (by decide) ?_
          obtain rfl := Option.some.inj hf
          exact x_zret (v := 0) rfl hx hb hr hlocks hK hP hS dX9_mayBeSwapped_41
        · have hf := zif_f c8 hf
          refine lv_iconst (v := 1) hx hb dX9_mayBeSwapped_36 (by decide) ?_
          refine lv_goto (tgt := 41) hx hb dX9_mayBeSwapped_37 (by decide) ?_
          obtain rfl := Option.some.inj hf
          exact x_zret (v := 1) rfl hx hb hr hlocks hK hP hS dX9_mayBeSwapped_41
set_option maxRecDepth 100000 in
set_option maxHeartbeats 4000000 in
theorem c_X9_more (l : Launch) (G : zGT) (hG : zOK G) (I J : zM) (x1 : Int32) (x2 : Int32) (x3 : Int32) {r : Int32} (hf : f_X9_more J x1 x2 x3 = some r) : Met l yX9_more wsX9_more (zrm 1 22) (va_Pc [.ref (G.2.1 359), .int x1, .int x2, .int x3] (zS G I J)) (zQi G r I J) 0 0 (zA G) := by
  refine zMet (cc := cX9_more) (n := 4) (ret := (some .int)) (by decide) rfl (Nat.le_of_ble_eq_true rfl) ?_
  intro p e s m args below meth c H locs ls F hK hP hS hl
  obtain ⟨hx, hb, hr, hml, hts, hown, hlocks⟩ := F
  have hown : s.vm.findClass RX9 = some m.cls := hown
  have hl : lv_has ls 4 [(0, .ref (G.2.1 359)), (1, .int x1), (2, .int x2), (3, .int x3)] := hl
  unfold f_X9_more at hf
  refine lv_aload_n hx hb dX9_more_0 rfl (lv_at hl 0 rfl) ?_
  refine lv_iload_n hx hb dX9_more_1 rfl (lv_at hl 1 rfl) ?_
  refine lv_iconst (v := 5) hx hb dX9_more_2 (by decide) ?_
  refine lv_iload_n hx hb dX9_more_3 rfl (lv_at hl 3 rfl) ?_
  refine lv_iadd hx hb dX9_more_4 ?_
  obtain ⟨q1, hq1, hf⟩ := zb_e hf
  refine x_calli (x_runV (As := [.int x1, .int (5 + x3)]) (rest := []) ⟨hx, hb, hml, hown, hts⟩ (c_X9_p l G hG I J x1 (5 + x3) hq1) (cwV 2 hts gX9_more_X9_p rfl rfl rfl (by decide +kernel) ⟨Nat.le_of_ble_eq_true rfl, Nat.le_of_ble_eq_true rfl⟩) hK hP zkL_359 (by decide) rfl rfl hl.1 rfl (Nat.le_of_ble_eq_true rfl) dX9_more_5 ⟨Nat.zero_le _, Nat.zero_le _⟩) hS (fun H locs hP hS => ?_)
  refine lv_aload_n hx hb dX9_more_8 rfl (lv_at hl 0 rfl) ?_
  refine lv_iload_n hx hb dX9_more_9 rfl (lv_at hl 1 rfl) ?_
  refine lv_iconst (v := 5) hx hb dX9_more_10 (by decide) ?_
  refine lv_iload_n hx hb dX9_more_11 rfl (lv_at hl 2 rfl) ?_
  refine lv_iadd hx hb dX9_more_12 ?_
  obtain ⟨q2, hq2, hf⟩ := zb_e hf
  refine x_calli (x_runV (As := [.int x1, .int (5 + x2)]) (rest := [.int q1]) ⟨hx, hb, hml, hown, hts⟩ (c_X9_p l G hG I J x1 (5 + x2) hq2) (cwV 2 hts gX9_more_X9_p rfl rfl rfl (by decide +kernel) ⟨Nat.le_of_ble_eq_true rfl, Nat.le_of_ble_eq_true rfl⟩) hK hP zkL_359 (by decide) rfl rfl hl.1 rfl (Nat.le_of_ble_eq_true rfl) dX9_more_13 ⟨Nat.zero_le _, Nat.zero_le _⟩) hS (fun H locs hP hS => ?_)
  refine lv_isub hx hb dX9_more_16 ?_
  obtain rfl := Option.some.inj hf
  exact x_iret hx hb hr hlocks hK hP hS dX9_more_17
set_option maxRecDepth 100000 in
set_option maxHeartbeats 4000000 in
theorem c_X9_gain (l : Launch) (G : zGT) (hG : zOK G) (I J : zM) (x1 : Int32) (x2 : Int32) {r : Int32} (hf : f_X9_gain J x1 x2 = some r) : Met l yX9_gain wsX9_gain (zrm 2 45) (va_Pc [.ref (G.2.1 359), .int x1, .int x2] (zS G I J)) (zQi G r I J) 0 0 (zA G) := by
  refine zMet (cc := cX9_gain) (n := 5) (ret := (some .int)) (by decide) rfl (Nat.le_of_ble_eq_true rfl) ?_
  intro p e s m args below meth c H locs ls F hK hP hS hl
  obtain ⟨hx, hb, hr, hml, hts, hown, hlocks⟩ := F
  have hown : s.vm.findClass RX9 = some m.cls := hown
  have hl : lv_has ls 5 [(0, .ref (G.2.1 359)), (1, .int x1), (2, .int x2)] := hl
  unfold f_X9_gain at hf
  refine lv_aload_n hx hb dX9_gain_0 rfl (lv_at hl 0 rfl) ?_
  refine lv_aload_n hx hb dX9_gain_1 rfl (lv_at hl 0 rfl) ?_
  refine lv_iload_n hx hb dX9_gain_2 rfl (lv_at hl 1 rfl) ?_
  refine lv_iconst (v := 2) hx hb dX9_gain_3 (by decide) ?_
  obtain ⟨q1, hq1, hf⟩ := zb_e hf
  refine x_calli (x_runV (As := [.int x1, .int 2]) (rest := [.ref (G.2.1 359)]) ⟨hx, hb, hml, hown, hts⟩ (c_X9_t l G hG I J x1 2 hq1) (cwV 2 hts gX9_gain_X9_t rfl rfl rfl (by decide +kernel) ⟨Nat.le_of_ble_eq_true rfl, Nat.le_of_ble_eq_true rfl⟩) hK hP zkL_359 (by decide) rfl rfl hl.1 rfl (Nat.le_of_ble_eq_true rfl) dX9_gain_4 ⟨Nat.zero_le _, Nat.zero_le _⟩) hS (fun H locs hP hS => ?_)
  refine lv_iload_n hx hb dX9_gain_7 rfl (lv_at hl 1 rfl) ?_
  refine lv_iload_n hx hb dX9_gain_8 rfl (lv_at hl 2 rfl) ?_
  obtain ⟨q2, hq2, hf⟩ := zb_e hf
  refine x_calli (x_runV (As := [.int q1, .int x1, .int x2]) (rest := []) ⟨hx, hb, hml, hown, hts⟩ (c_X9_more l G hG I J q1 x1 x2 hq2) (cwV 3 hts gX9_gain_X9_more rfl rfl rfl (by decide +kernel) ⟨Nat.le_of_ble_eq_true rfl, Nat.le_of_ble_eq_true rfl⟩) hK hP zkL_359 (by decide) rfl rfl hl.1 rfl (Nat.le_of_ble_eq_true rfl) dX9_gain_9 ⟨Nat.zero_le _, Nat.zero_le _⟩) hS (fun H locs hP hS => ?_)
  refine lv_istore_n (lv' := [(3, .int q2), (0, .ref (G.2.1 359)), (1, .int x1), (2, .int x2)]) hx hb dX9_gain_12 rfl hl (by decide) rfl (fun ls hl => ?_)
  refine lv_aload_n hx hb dX9_gain_13 rfl (lv_at hl 1 rfl) ?_
  refine lv_aload_n hx hb dX9_gain_14 rfl (lv_at hl 1 rfl) ?_
  refine lv_iload_n hx hb dX9_gain_15 rfl (lv_at hl 3 rfl) ?_
  refine lv_iconst (v := 2) hx hb dX9_gain_16 (by decide) ?_
  obtain ⟨q3, hq3, hf⟩ := zb_e hf
  refine x_calli (x_runV (As := [.int x2, .int 2]) (rest := [.ref (G.2.1 359)]) ⟨hx, hb, hml, hown, hts⟩ (c_X9_t l G hG I J x2 2 hq3) (cwV 2 hts gX9_gain_X9_t rfl rfl rfl (by decide +kernel) ⟨Nat.le_of_ble_eq_true rfl, Nat.le_of_ble_eq_true rfl⟩) hK hP zkL_359 (by decide) rfl rfl hl.1 rfl (Nat.le_of_ble_eq_true rfl) dX9_gain_17 ⟨Nat.zero_le _, Nat.zero_le _⟩) hS (fun H locs hP hS => ?_)
  refine lv_iload_n hx hb dX9_gain_20 rfl (lv_at hl 3 rfl) ?_
  refine lv_iload_n hx hb dX9_gain_21 rfl (lv_at hl 2 rfl) ?_
  obtain ⟨q4, hq4, hf⟩ := zb_e hf
  refine x_calli (x_runV (As := [.int q3, .int x2, .int x1]) (rest := []) ⟨hx, hb, hml, hown, hts⟩ (c_X9_more l G hG I J q3 x2 x1 hq4) (cwV 3 hts gX9_gain_X9_more rfl rfl rfl (by decide +kernel) ⟨Nat.le_of_ble_eq_true rfl, Nat.le_of_ble_eq_true rfl⟩) hK hP zkL_359 (by decide) rfl rfl hl.1 rfl (Nat.le_of_ble_eq_true rfl) dX9_gain_22 ⟨Nat.zero_le _, Nat.zero_le _⟩) hS (fun H locs hP hS => ?_)
  refine lv_istore (lv' := [(4, .int q4), (3, .int q2), (0, .ref (G.2.1 359)), (1, .int x1), (2, .int x2)]) hx hb dX9_gain_25 hl (by decide) rfl (fun ls hl => ?_)
  refine lv_iload_n hx hb dX9_gain_27 rfl (lv_at hl 1 rfl) ?_
  refine lv_if_le (tgt := 43) hx hb dX9_gain_28 (by decide) (fun c5 => ?_) (fun c5 => ?_)
  · have hf := zif_t c5 hf
    refine lv_iconst (v := 0) hx hb dX9_gain_43 (by decide) ?_
    obtain rfl := Option.some.inj hf
    exact x_iret hx hb hr hlocks hK hP hS dX9_gain_44
  · have hf := zif_f c5 hf
    refine lv_iload hx hb dX9_gain_31 (lv_at hl 0 rfl) ?_
    refine lv_if_le (tgt := 43) hx hb dX9_gain_33 (by decide) (fun c6 => ?_) (fun c6 => ?_)
    · have hf := zif_t c6 hf
      refine lv_iconst (v := 0) hx hb dX9_gain_43 (by decide) ?_
      obtain rfl := Option.some.inj hf
      exact x_iret hx hb hr hlocks hK hP hS dX9_gain_44
    · have hf := zif_f c6 hf
      refine lv_iload_n hx hb dX9_gain_36 rfl (lv_at hl 1 rfl) ?_
      refine lv_iload hx hb dX9_gain_37 (lv_at hl 0 rfl) ?_
      refine lv_iadd hx hb dX9_gain_39 ?_
      refine lv_goto (tgt := 44) hx hb dX9_gain_40 (by decide) ?_
      obtain rfl := Option.some.inj hf
      exact x_iret hx hb hr hlocks hK hP hS dX9_gain_44
set_option maxRecDepth 100000 in
set_option maxHeartbeats 4000000 in
theorem c_X9_swapped (l : Launch) (G : zGT) (hG : zOK G) (I J : zM) (x1 : Int32) (x2 : Int32) {r : Int32 × zM} (hf : f_X9_swapped J x1 x2 = some r) : Met l yX9_swapped wsX9_swapped (zrm 4 96) (va_Pc [.ref (G.2.1 359), .int x1, .int x2] (zS G I J)) (zQi G r.1 I r.2) 0 0 (zA G) := by
  refine zMet (cc := cX9_swapped) (n := 6) (ret := (some .int)) (by decide) rfl (Nat.le_of_ble_eq_true rfl) ?_
  intro p e s m args below meth c H locs ls F hK hP hS hl
  obtain ⟨hx, hb, hr, hml, hts, hown, hlocks⟩ := F
  have hown : s.vm.findClass RX9 = some m.cls := hown
  have hl : lv_has ls 6 [(0, .ref (G.2.1 359)), (1, .int x1), (2, .int x2)] := hl
  unfold f_X9_swapped at hf
  refine lv_aload_n hx hb dX9_swapped_0 rfl (lv_at hl 0 rfl) ?_
  refine lv_iload_n hx hb dX9_swapped_1 rfl (lv_at hl 1 rfl) ?_
  refine lv_iload_n hx hb dX9_swapped_2 rfl (lv_at hl 2 rfl) ?_
  obtain ⟨q1, hq1, hf⟩ := zb_e hf
  refine x_calli (x_runV (As := [.int x1, .int x2]) (rest := []) ⟨hx, hb, hml, hown, hts⟩ (c_X9_gain l G hG I J x1 x2 hq1) (cwV 2 hts gX9_swapped_X9_gain rfl rfl rfl (by decide +kernel) ⟨Nat.le_of_ble_eq_true rfl, Nat.le_of_ble_eq_true rfl⟩) hK hP zkL_359 (by decide) rfl rfl hl.1 rfl (Nat.le_of_ble_eq_true rfl) dX9_swapped_3 ⟨Nat.zero_le _, Nat.zero_le _⟩) hS (fun H locs hP hS => ?_)
  refine lv_if_ne (tgt := 12) hx hb dX9_swapped_6 (by decide) (fun c2 => ?_) (fun c2 => ?_)
  · have hf := zif_f c2 hf
    refine lv_aload_n hx hb dX9_swapped_12 rfl (lv_at hl 0 rfl) ?_
    refine lv_iload_n hx hb dX9_swapped_13 rfl (lv_at hl 1 rfl) ?_
    refine lv_iconst (v := 2) hx hb dX9_swapped_14 (by decide) ?_
    obtain ⟨q3, hq3, hf⟩ := zb_e hf
    refine x_calli (x_runV (As := [.int x1, .int 2]) (rest := []) ⟨hx, hb, hml, hown, hts⟩ (c_X9_t l G hG I J x1 2 hq3) (cwV 2 hts gX9_swapped_X9_t rfl rfl rfl (by decide +kernel) ⟨Nat.le_of_ble_eq_true rfl, Nat.le_of_ble_eq_true rfl⟩) hK hP zkL_359 (by decide) rfl rfl hl.1 rfl (Nat.le_of_ble_eq_true rfl) dX9_swapped_15 ⟨Nat.zero_le _, Nat.zero_le _⟩) hS (fun H locs hP hS => ?_)
    refine lv_istore_n (lv' := [(3, .int q3), (0, .ref (G.2.1 359)), (1, .int x1), (2, .int x2)]) hx hb dX9_swapped_18 rfl hl (by decide) rfl (fun ls hl => ?_)
    refine lv_aload_n hx hb dX9_swapped_19 rfl (lv_at hl 1 rfl) ?_
    refine lv_iload_n hx hb dX9_swapped_20 rfl (lv_at hl 3 rfl) ?_
    refine lv_iconst (v := 2) hx hb dX9_swapped_21 (by decide) ?_
    obtain ⟨q4, hq4, hf⟩ := zb_e hf
    refine x_calli (x_runV (As := [.int x2, .int 2]) (rest := []) ⟨hx, hb, hml, hown, hts⟩ (c_X9_t l G hG I J x2 2 hq4) (cwV 2 hts gX9_swapped_X9_t rfl rfl rfl (by decide +kernel) ⟨Nat.le_of_ble_eq_true rfl, Nat.le_of_ble_eq_true rfl⟩) hK hP zkL_359 (by decide) rfl rfl hl.1 rfl (Nat.le_of_ble_eq_true rfl) dX9_swapped_22 ⟨Nat.zero_le _, Nat.zero_le _⟩) hS (fun H locs hP hS => ?_)
    refine lv_istore (lv' := [(4, .int q4), (3, .int q3), (0, .ref (G.2.1 359)), (1, .int x1), (2, .int x2)]) hx hb dX9_swapped_25 hl (by decide) rfl (fun ls hl => ?_)
    refine lv_aload_n hx hb dX9_swapped_27 rfl (lv_at hl 2 rfl) ?_
    refine lv_iload_n hx hb dX9_swapped_28 rfl (lv_at hl 3 rfl) ?_
    refine lv_iload hx hb dX9_swapped_29 (lv_at hl 0 rfl) ?_
    obtain ⟨q5, hq5, hf⟩ := zb_e hf
    refine x_calli (x_runV (As := [.int x1, .int q4]) (rest := []) ⟨hx, hb, hml, hown, hts⟩ (c_X9_noPass l G hG I J x1 q4 hq5) (cwV 2 hts gX9_swapped_X9_noPass rfl rfl rfl (by decide +kernel) ⟨Nat.le_of_ble_eq_true rfl, Nat.le_of_ble_eq_true rfl⟩) hK hP zkL_359 (by decide) rfl rfl hl.1 rfl (Nat.le_of_ble_eq_true rfl) dX9_swapped_31 ⟨Nat.zero_le _, Nat.zero_le _⟩) hS (fun H locs hP hS => ?_)
    refine lv_istore (lv' := [(5, .int q5), (4, .int q4), (3, .int q3), (0, .ref (G.2.1 359)), (1, .int x1), (2, .int x2)]) hx hb dX9_swapped_34 hl (by decide) rfl (fun ls hl => ?_)
    refine lv_iload hx hb dX9_swapped_36 (lv_at hl 0 rfl) ?_
    refine lv_if_eq (tgt := 47) hx hb dX9_swapped_38 (by decide) (fun c6 => ?_) (fun c6 => ?_)
    · have hf := zif_t c6 hf
      refine lv_aload_n hx hb dX9_swapped_47 rfl (lv_at hl 3 rfl) ?_
      refine lv_iload_n hx hb dX9_swapped_48 rfl (lv_at hl 4 rfl) ?_
      refine lv_iload hx hb dX9_swapped_49 (lv_at hl 1 rfl) ?_
      obtain ⟨q7, hq7, hf⟩ := zb_e hf
      refine x_callv (x_runV (As := [.int x1, .int q4]) (rest := []) ⟨hx, hb, hml, hown, hts⟩ (c_X9_passes l G hG I J x1 q4 hq7) (cwV 2 hts gX9_swapped_X9_passes rfl rfl rfl (by decide +kernel) ⟨Nat.le_of_ble_eq_true rfl, Nat.le_of_ble_eq_true rfl⟩) hK hP zkL_359 (by decide) rfl rfl hl.1 rfl (Nat.le_of_ble_eq_true rfl) dX9_swapped_51 ⟨Nat.zero_le _, Nat.zero_le _⟩) hS (fun H locs hP hS => ?_)
      refine lv_aload_n hx hb dX9_swapped_54 rfl (lv_at hl 3 rfl) ?_
      refine lv_iload_n hx hb dX9_swapped_55 rfl (lv_at hl 5 rfl) ?_
      refine lv_iload_n hx hb dX9_swapped_56 rfl (lv_at hl 2 rfl) ?_
      obtain ⟨q8, hq8, hf⟩ := zb_e hf
      refine x_calli (x_runV (As := [.int x2, .int q3]) (rest := []) ⟨hx, hb, hml, hown, hts⟩ (c_X9_noPass l G hG I q7 x2 q3 hq8) (cwV 2 hts gX9_swapped_X9_noPass rfl rfl rfl (by decide +kernel) ⟨Nat.le_of_ble_eq_true rfl, Nat.le_of_ble_eq_true rfl⟩) hK hP zkL_359 (by decide) rfl rfl hl.1 rfl (Nat.le_of_ble_eq_true rfl) dX9_swapped_57 ⟨Nat.zero_le _, Nat.zero_le _⟩) hS (fun H locs hP hS => ?_)
      refine lv_istore (lv' := [(5, .int q8), (4, .int q4), (3, .int q3), (0, .ref (G.2.1 359)), (1, .int x1), (2, .int x2)]) hx hb dX9_swapped_60 hl (by decide) rfl (fun ls hl => ?_)
      refine lv_iload hx hb dX9_swapped_62 (lv_at hl 0 rfl) ?_
      refine lv_if_eq (tgt := 73) hx hb dX9_swapped_64 (by decide) (fun c9 => ?_) (fun c9 => ?_)
      · have hf := zif_t c9 hf
        refine lv_aload_n hx hb dX9_swapped_73 rfl (lv_at hl 3 rfl) ?_
        refine lv_iload_n hx hb dX9_swapped_74 rfl (lv_at hl 5 rfl) ?_
        refine lv_iload_n hx hb dX9_swapped_75 rfl (lv_at hl 2 rfl) ?_
        obtain ⟨q10, hq10, hf⟩ := zb_e hf
        refine x_callv (x_runV (As := [.int x2, .int q3]) (rest := []) ⟨hx, hb, hml, hown, hts⟩ (c_X9_passes l G hG I q7 x2 q3 hq10) (cwV 2 hts gX9_swapped_X9_passes rfl rfl rfl (by decide +kernel) ⟨Nat.le_of_ble_eq_true rfl, Nat.le_of_ble_eq_true rfl⟩) hK hP zkL_359 (by decide) rfl rfl hl.1 rfl (Nat.le_of_ble_eq_true rfl) dX9_swapped_76 ⟨Nat.zero_le _, Nat.zero_le _⟩) hS (fun H locs hP hS => ?_)
        refine lv_iconst (v := 0) hx hb dX9_swapped_79 (by decide) ?_
        obtain rfl := Option.some.inj hf
        exact x_iret hx hb hr hlocks hK hP hS dX9_swapped_80
      · have hf := zif_f c9 hf
        refine lv_bipush (v := 50) hx hb dX9_swapped_67 (by decide) ?_
        refine lv_iload hx hb dX9_swapped_69 (lv_at hl 0 rfl) ?_
        refine lv_iadd hx hb dX9_swapped_71 ?_
        obtain rfl := Option.some.inj hf
        exact x_iret hx hb hr hlocks hK hP hS dX9_swapped_72
    · have hf := zif_f c6 hf
      refine lv_bipush (v := 50) hx hb dX9_swapped_41 (by decide) ?_
      refine lv_iload hx hb dX9_swapped_43 (lv_at hl 0 rfl) ?_
      refine lv_iadd hx hb dX9_swapped_45 ?_
      obtain rfl := Option.some.inj hf
      exact x_iret hx hb hr hlocks hK hP hS dX9_swapped_46
  · have hf := zif_t c2 hf
    refine lv_bipush (v := 40) hx hb dX9_swapped_9 (by decide) ?_
    obtain rfl := Option.some.inj hf
    exact x_iret hx hb hr hlocks hK hP hS dX9_swapped_11
set_option maxRecDepth 100000 in
set_option maxHeartbeats 4000000 in
theorem c_X9_swap (l : Launch) (G : zGT) (hG : zOK G) (I J : zM) (x1 : Int32) (x2 : Int32) {r : Int32 × zM} (hf : f_X9_swap J x1 x2 = some r) : Met l yX9_swap wsX9_swap (zrm 5 121) (va_Pc [.ref (G.2.1 359), .int x1, .int x2] (zS G I J)) (zQi G r.1 I r.2) 0 0 (zA G) := by
  refine zMet (cc := cX9_swap) (n := 5) (ret := (some .int)) (by decide) rfl (Nat.le_of_ble_eq_true rfl) ?_
  intro p e s m args below meth c H locs ls F hK hP hS hl
  obtain ⟨hx, hb, hr, hml, hts, hown, hlocks⟩ := F
  have hown : s.vm.findClass RX9 = some m.cls := hown
  have hl : lv_has ls 5 [(0, .ref (G.2.1 359)), (1, .int x1), (2, .int x2)] := hl
  have hi9 : ∀ w ∈ wsX90, w ∈ wsX9_swap := fun _ h => List.mem_cons_of_mem _ (List.mem_append_right _ h)
  unfold f_X9_swap at hf
  refine lv_aload_n hx hb dX9_swap_0 rfl (lv_at hl 0 rfl) ?_
  refine lv_iload_n hx hb dX9_swap_1 rfl (lv_at hl 1 rfl) ?_
  obtain ⟨q1, hq1, hf⟩ := zb_e hf
  refine x_calli (x_runV (As := [.int x1]) (rest := []) ⟨hx, hb, hml, hown, hts⟩ (c_X9_isTool l G hG I J x1 hq1) (cwV 1 hts gX9_swap_X9_isTool rfl rfl rfl (by decide +kernel) ⟨Nat.le_of_ble_eq_true rfl, Nat.le_of_ble_eq_true rfl⟩) hK hP zkL_359 (by decide) rfl rfl hl.1 rfl (Nat.le_of_ble_eq_true rfl) dX9_swap_2 ⟨Nat.zero_le _, Nat.zero_le _⟩) hS (fun H locs hP hS => ?_)
  refine lv_if_eq (tgt := 25) hx hb dX9_swap_5 (by decide) (fun c2 => ?_) (fun c2 => ?_)
  · have hf := zif_t c2 hf
    refine lv_iconst (v := (-1)) hx hb dX9_swap_25 (by decide) ?_
    obtain rfl := Option.some.inj hf
    exact x_iret hx hb hr hlocks hK hP hS dX9_swap_26
  · have hf := zif_f c2 hf
    refine lv_aload_n hx hb dX9_swap_8 rfl (lv_at hl 0 rfl) ?_
    refine lv_iload_n hx hb dX9_swap_9 rfl (lv_at hl 2 rfl) ?_
    obtain ⟨q3, hq3, hf⟩ := zb_e hf
    refine x_calli (x_runV (As := [.int x2]) (rest := []) ⟨hx, hb, hml, hown, hts⟩ (c_X9_isTool l G hG I J x2 hq3) (cwV 1 hts gX9_swap_X9_isTool rfl rfl rfl (by decide +kernel) ⟨Nat.le_of_ble_eq_true rfl, Nat.le_of_ble_eq_true rfl⟩) hK hP zkL_359 (by decide) rfl rfl hl.1 rfl (Nat.le_of_ble_eq_true rfl) dX9_swap_10 ⟨Nat.zero_le _, Nat.zero_le _⟩) hS (fun H locs hP hS => ?_)
    refine lv_if_eq (tgt := 25) hx hb dX9_swap_13 (by decide) (fun c4 => ?_) (fun c4 => ?_)
    · have hf := zif_t c4 hf
      refine lv_iconst (v := (-1)) hx hb dX9_swap_25 (by decide) ?_
      obtain rfl := Option.some.inj hf
      exact x_iret hx hb hr hlocks hK hP hS dX9_swap_26
    · have hf := zif_f c4 hf
      refine lv_aload_n hx hb dX9_swap_16 rfl (lv_at hl 0 rfl) ?_
      refine lv_iload_n hx hb dX9_swap_17 rfl (lv_at hl 1 rfl) ?_
      refine lv_iload_n hx hb dX9_swap_18 rfl (lv_at hl 2 rfl) ?_
      obtain ⟨q5, hq5, hf⟩ := zb_e hf
      refine x_calli (x_runV (As := [.int x1, .int x2]) (rest := []) ⟨hx, hb, hml, hown, hts⟩ (c_X9_mayBeSwapped l G hG I J x1 x2 hq5) (cwV 2 hts gX9_swap_X9_mayBeSwapped rfl rfl rfl (by decide +kernel) ⟨Nat.le_of_ble_eq_true rfl, Nat.le_of_ble_eq_true rfl⟩) hK hP zkL_359 (by decide) rfl rfl hl.1 rfl (Nat.le_of_ble_eq_true rfl) dX9_swap_19 ⟨Nat.zero_le _, Nat.zero_le _⟩) hS (fun H locs hP hS => ?_)
      refine lv_if_ne (tgt := 27) hx hb dX9_swap_22 (by decide) (fun c6 => ?_) (fun c6 => ?_)
      · have hf := zif_f c6 hf
        refine lv_aload_n hx hb dX9_swap_27 rfl (lv_at hl 0 rfl) ?_
        refine lv_iload_n hx hb dX9_swap_28 rfl (lv_at hl 1 rfl) ?_
        refine lv_iload_n hx hb dX9_swap_29 rfl (lv_at hl 2 rfl) ?_
        obtain ⟨q7, hq7, hf⟩ := zb_e hf
        refine x_calli (x_runV (As := [.int x1, .int x2]) (rest := []) ⟨hx, hb, hml, hown, hts⟩ (c_X9_gain l G hG I J x1 x2 hq7) (cwV 2 hts gX9_swap_X9_gain rfl rfl rfl (by decide +kernel) ⟨Nat.le_of_ble_eq_true rfl, Nat.le_of_ble_eq_true rfl⟩) hK hP zkL_359 (by decide) rfl rfl hl.1 rfl (Nat.le_of_ble_eq_true rfl) dX9_swap_30 ⟨Nat.zero_le _, Nat.zero_le _⟩) hS (fun H locs hP hS => ?_)
        refine lv_istore_n (lv' := [(3, .int q7), (0, .ref (G.2.1 359)), (1, .int x1), (2, .int x2)]) hx hb dX9_swap_33 rfl hl (by decide) rfl (fun ls hl => ?_)
        refine lv_aload_n hx hb dX9_swap_34 rfl (lv_at hl 1 rfl) ?_
        refine x_get (j := 0) (v := .ref (G.2.1 360)) hx hb hts hi9 hown hK hP zkL_359 rfl (by decide) (hts (.fieldLink RX9 9 "LeaseOfficeModel" "g" "[I") (by decide +kernel)) rfl (by decide) dX9_swap_35 ?_
        refine lv_aload_n hx hb dX9_swap_38 rfl (lv_at hl 1 rfl) ?_
        refine x_get (j := 1) (v := .ref (G.2.1 361)) hx hb hts hi9 hown hK hP zkL_359 rfl (by decide) (hts (.fieldLink RX9 13 "LeaseOfficeModel" "saved" "[I") (by decide +kernel)) rfl (by decide) dX9_swap_39 ?_
        obtain ⟨q8, hq8, hf⟩ := zb_e hf
        refine x_callv (x_runS (As := [.ref (G.2.1 360), .ref (G.2.1 361)]) (rest := []) ⟨hx, hb, hml, hown, hts⟩ (c_X9_take l G hG I J 1 2 (by decide) (by decide) hq8) (va_cwS 2 hts gX9_swap_X9_take rfl rfl rfl (by decide +kernel) ⟨Nat.le_of_ble_eq_true rfl, Nat.le_of_ble_eq_true rfl⟩) hK hP rfl hl.1 rfl (Nat.le_of_ble_eq_true rfl) dX9_swap_42 ⟨Nat.zero_le _, Nat.zero_le _⟩) hS (fun H locs hP hS => ?_)
        refine lv_aload_n hx hb dX9_swap_45 rfl (lv_at hl 1 rfl) ?_
        refine lv_iload_n hx hb dX9_swap_46 rfl (lv_at hl 2 rfl) ?_
        refine lv_iload_n hx hb dX9_swap_47 rfl (lv_at hl 3 rfl) ?_
        obtain ⟨q9, hq9, hf⟩ := zb_e hf
        refine x_calli (x_runV (As := [.int x1, .int x2]) (rest := []) ⟨hx, hb, hml, hown, hts⟩ (c_X9_swapped l G hG I q8 x1 x2 hq9) (cwV 2 hts gX9_swap_X9_swapped rfl rfl rfl (by decide +kernel) ⟨Nat.le_of_ble_eq_true rfl, Nat.le_of_ble_eq_true rfl⟩) hK hP zkL_359 (by decide) rfl rfl hl.1 rfl (Nat.le_of_ble_eq_true rfl) dX9_swap_48 ⟨Nat.zero_le _, Nat.zero_le _⟩) hS (fun H locs hP hS => ?_)
        refine lv_istore (lv' := [(4, .int q9.1), (3, .int q7), (0, .ref (G.2.1 359)), (1, .int x1), (2, .int x2)]) hx hb dX9_swap_51 hl (by decide) rfl (fun ls hl => ?_)
        refine lv_iload hx hb dX9_swap_53 (lv_at hl 0 rfl) ?_
        refine lv_if_eq (tgt := 84) hx hb dX9_swap_55 (by decide) (fun c10 => ?_) (fun c10 => ?_)
        · have hf := zif_t c10 hf
          refine lv_iload_n hx hb dX9_swap_84 rfl (lv_at hl 1 rfl) ?_
          obtain rfl := Option.some.inj hf
          exact x_iret hx hb hr hlocks hK hP hS dX9_swap_85
        · have hf := zif_f c10 hf
          refine lv_aload_n hx hb dX9_swap_58 rfl (lv_at hl 2 rfl) ?_
          refine x_get (j := 1) (v := .ref (G.2.1 361)) hx hb hts hi9 hown hK hP zkL_359 rfl (by decide) (hts (.fieldLink RX9 13 "LeaseOfficeModel" "saved" "[I") (by decide +kernel)) rfl (by decide) dX9_swap_59 ?_
          refine lv_aload_n hx hb dX9_swap_62 rfl (lv_at hl 2 rfl) ?_
          refine x_get (j := 0) (v := .ref (G.2.1 360)) hx hb hts hi9 hown hK hP zkL_359 rfl (by decide) (hts (.fieldLink RX9 9 "LeaseOfficeModel" "g" "[I") (by decide +kernel)) rfl (by decide) dX9_swap_63 ?_
          obtain ⟨q11, hq11, hf⟩ := zb_e hf
          refine x_callv (x_runS (As := [.ref (G.2.1 361), .ref (G.2.1 360)]) (rest := []) ⟨hx, hb, hml, hown, hts⟩ (c_X9_take l G hG I q9.2 2 1 (by decide) (by decide) hq11) (va_cwS 2 hts gX9_swap_X9_take rfl rfl rfl (by decide +kernel) ⟨Nat.le_of_ble_eq_true rfl, Nat.le_of_ble_eq_true rfl⟩) hK hP rfl hl.1 rfl (Nat.le_of_ble_eq_true rfl) dX9_swap_66 ⟨Nat.zero_le _, Nat.zero_le _⟩) hS (fun H locs hP hS => ?_)
          refine lv_aload_n hx hb dX9_swap_69 rfl (lv_at hl 2 rfl) ?_
          refine lv_iload hx hb dX9_swap_70 (lv_at hl 0 rfl) ?_
          refine lv_bipush (v := 10) hx hb dX9_swap_72 (by decide) ?_
          refine lv_idiv hx hb dX9_swap_74 (by decide) ?_
          refine lv_iload hx hb dX9_swap_75 (lv_at hl 0 rfl) ?_
          refine lv_bipush (v := 10) hx hb dX9_swap_77 (by decide) ?_
          refine lv_irem hx hb dX9_swap_79 (by decide) ?_
          obtain ⟨q12, hq12, hf⟩ := zb_e hf
          refine x_calli (x_runV (As := [.int (q9.1 / 10), .int (q9.1 - q9.1 / 10 * 10)]) (rest := []) ⟨hx, hb, hml, hown, hts⟩ (c_X9_refused l G hG I q11 (q9.1 / 10) (q9.1 - q9.1 / 10 * 10) hq12) (cwV 2 hts gX9_swap_X9_refused rfl rfl rfl (by decide +kernel) ⟨Nat.le_of_ble_eq_true rfl, Nat.le_of_ble_eq_true rfl⟩) hK hP zkL_359 (by decide) rfl rfl hl.1 rfl (Nat.le_of_ble_eq_true rfl) dX9_swap_80 ⟨Nat.zero_le _, Nat.zero_le _⟩) hS (fun H locs hP hS => ?_)
          obtain rfl := Option.some.inj hf
          exact x_iret hx hb hr hlocks hK hP hS dX9_swap_83
      · have hf := zif_t c6 hf
        refine lv_iconst (v := (-1)) hx hb dX9_swap_25 (by decide) ?_
        obtain rfl := Option.some.inj hf
        exact x_iret hx hb hr hlocks hK hP hS dX9_swap_26
set_option maxRecDepth 100000 in
set_option maxHeartbeats 4000000 in
theorem c_X9_use (l : Launch) (G : zGT) (hG : zOK G) (I J : zM) (x1 : Int32) (x2 : Int32) {r : Int32 × zM} (hf : f_X9_use J x1 x2 = some r) : Met l yX9_use wsX9_use (zrm 2 43) (va_Pc [.ref (G.2.1 359), .int x1, .int x2] (zS G I J)) (zQi G r.1 I r.2) 0 0 (zA G) := by
  refine zMet (cc := cX9_use) (n := 3) (ret := (some .int)) (by decide) rfl (Nat.le_of_ble_eq_true rfl) ?_
  intro p e s m args below meth c H locs ls F hK hP hS hl
  obtain ⟨hx, hb, hr, hml, hts, hown, hlocks⟩ := F
  have hown : s.vm.findClass RX9 = some m.cls := hown
  have hl : lv_has ls 3 [(0, .ref (G.2.1 359)), (1, .int x1), (2, .int x2)] := hl
  unfold f_X9_use at hf
  refine lv_aload_n hx hb dX9_use_0 rfl (lv_at hl 0 rfl) ?_
  refine lv_iload_n hx hb dX9_use_1 rfl (lv_at hl 1 rfl) ?_
  obtain ⟨q1, hq1, hf⟩ := zb_e hf
  refine x_calli (x_runV (As := [.int x1]) (rest := []) ⟨hx, hb, hml, hown, hts⟩ (c_X9_isTool l G hG I J x1 hq1) (cwV 1 hts gX9_use_X9_isTool rfl rfl rfl (by decide +kernel) ⟨Nat.le_of_ble_eq_true rfl, Nat.le_of_ble_eq_true rfl⟩) hK hP zkL_359 (by decide) rfl rfl hl.1 rfl (Nat.le_of_ble_eq_true rfl) dX9_use_2 ⟨Nat.zero_le _, Nat.zero_le _⟩) hS (fun H locs hP hS => ?_)
  refine lv_if_eq (tgt := 18) hx hb dX9_use_5 (by decide) (fun c2 => ?_) (fun c2 => ?_)
  · have hf := zif_t c2 hf
    refine lv_iconst (v := (-1)) hx hb dX9_use_18 (by decide) ?_
    obtain rfl := Option.some.inj hf
    exact x_iret hx hb hr hlocks hK hP hS dX9_use_19
  · have hf := zif_f c2 hf
    refine lv_iload_n hx hb dX9_use_8 rfl (lv_at hl 2 rfl) ?_
    refine lv_iconst (v := 1) hx hb dX9_use_9 (by decide) ?_
    refine lv_bipush (v := 9) hx hb dX9_use_10 (by decide) ?_
    obtain ⟨q3, hq3, hf⟩ := zb_e hf
    refine x_calli (x_runS (As := [.int x2, .int 1, .int 9]) (rest := []) ⟨hx, hb, hml, hown, hts⟩ (c_X9_in l G hG I J x2 1 9 hq3) (va_cwS 3 hts gX9_use_X9_in rfl rfl rfl (by decide +kernel) ⟨Nat.le_of_ble_eq_true rfl, Nat.le_of_ble_eq_true rfl⟩) hK hP rfl hl.1 rfl (Nat.le_of_ble_eq_true rfl) dX9_use_12 ⟨Nat.zero_le _, Nat.zero_le _⟩) hS (fun H locs hP hS => ?_)
    refine lv_if_ne (tgt := 20) hx hb dX9_use_15 (by decide) (fun c4 => ?_) (fun c4 => ?_)
    · have hf := zif_f c4 hf
      refine lv_aload_n hx hb dX9_use_20 rfl (lv_at hl 0 rfl) ?_
      refine lv_iload_n hx hb dX9_use_21 rfl (lv_at hl 1 rfl) ?_
      obtain ⟨q5, hq5, hf⟩ := zb_e hf
      refine x_calli (x_runV (As := [.int x1]) (rest := []) ⟨hx, hb, hml, hown, hts⟩ (c_X9_isOut l G hG I J x1 hq5) (cwV 1 hts gX9_use_X9_isOut rfl rfl rfl (by decide +kernel) ⟨Nat.le_of_ble_eq_true rfl, Nat.le_of_ble_eq_true rfl⟩) hK hP zkL_359 (by decide) rfl rfl hl.1 rfl (Nat.le_of_ble_eq_true rfl) dX9_use_22 ⟨Nat.zero_le _, Nat.zero_le _⟩) hS (fun H locs hP hS => ?_)
      refine lv_if_ne (tgt := 31) hx hb dX9_use_25 (by decide) (fun c6 => ?_) (fun c6 => ?_)
      · have hf := zif_f c6 hf
        refine lv_aload_n hx hb dX9_use_31 rfl (lv_at hl 0 rfl) ?_
        refine lv_iload_n hx hb dX9_use_32 rfl (lv_at hl 1 rfl) ?_
        refine lv_iconst (v := 1) hx hb dX9_use_33 (by decide) ?_
        refine lv_aload_n hx hb dX9_use_34 rfl (lv_at hl 0 rfl) ?_
        refine lv_iload_n hx hb dX9_use_35 rfl (lv_at hl 1 rfl) ?_
        refine lv_iconst (v := 1) hx hb dX9_use_36 (by decide) ?_
        obtain ⟨q7, hq7, hf⟩ := zb_e hf
        refine x_calli (x_runV (As := [.int x1, .int 1]) (rest := [.int 1, .int x1, .ref (G.2.1 359)]) ⟨hx, hb, hml, hown, hts⟩ (c_X9_t l G hG I J x1 1 hq7) (cwV 2 hts gX9_use_X9_t rfl rfl rfl (by decide +kernel) ⟨Nat.le_of_ble_eq_true rfl, Nat.le_of_ble_eq_true rfl⟩) hK hP zkL_359 (by decide) rfl rfl hl.1 rfl (Nat.le_of_ble_eq_true rfl) dX9_use_37 ⟨Nat.zero_le _, Nat.zero_le _⟩) hS (fun H locs hP hS => ?_)
        refine lv_iload_n hx hb dX9_use_40 rfl (lv_at hl 2 rfl) ?_
        refine lv_iadd hx hb dX9_use_41 ?_
        refine lv_iconst (v := 0) hx hb dX9_use_42 (by decide) ?_
        refine lv_bipush (v := 9) hx hb dX9_use_43 (by decide) ?_
        obtain ⟨q8, hq8, hf⟩ := zb_e hf
        refine x_calli (x_runS (As := [.int (q7 + x2), .int 0, .int 9]) (rest := [.int 1, .int x1, .ref (G.2.1 359)]) ⟨hx, hb, hml, hown, hts⟩ (c_X9_cut l G hG I J (q7 + x2) 0 9 hq8) (va_cwS 3 hts gX9_use_X9_cut rfl rfl rfl (by decide +kernel) ⟨Nat.le_of_ble_eq_true rfl, Nat.le_of_ble_eq_true rfl⟩) hK hP rfl hl.1 rfl (Nat.le_of_ble_eq_true rfl) dX9_use_45 ⟨Nat.zero_le _, Nat.zero_le _⟩) hS (fun H locs hP hS => ?_)
        obtain ⟨q9, hq9, hf⟩ := zb_e hf
        refine x_callv (x_runV (As := [.int x1, .int 1, .int q8]) (rest := []) ⟨hx, hb, hml, hown, hts⟩ (c_X9_setT l G hG I J x1 1 q8 hq9) (cwV 3 hts gX9_use_X9_setT rfl rfl rfl (by decide +kernel) ⟨Nat.le_of_ble_eq_true rfl, Nat.le_of_ble_eq_true rfl⟩) hK hP zkL_359 (by decide) rfl rfl hl.1 rfl (Nat.le_of_ble_eq_true rfl) dX9_use_48 ⟨Nat.zero_le _, Nat.zero_le _⟩) hS (fun H locs hP hS => ?_)
        refine lv_aload_n hx hb dX9_use_51 rfl (lv_at hl 0 rfl) ?_
        refine lv_iload_n hx hb dX9_use_52 rfl (lv_at hl 1 rfl) ?_
        refine lv_iconst (v := 1) hx hb dX9_use_53 (by decide) ?_
        obtain ⟨q10, hq10, hf⟩ := zb_e hf
        refine x_calli (x_runV (As := [.int x1, .int 1]) (rest := []) ⟨hx, hb, hml, hown, hts⟩ (c_X9_t l G hG I q9 x1 1 hq10) (cwV 2 hts gX9_use_X9_t rfl rfl rfl (by decide +kernel) ⟨Nat.le_of_ble_eq_true rfl, Nat.le_of_ble_eq_true rfl⟩) hK hP zkL_359 (by decide) rfl rfl hl.1 rfl (Nat.le_of_ble_eq_true rfl) dX9_use_54 ⟨Nat.zero_le _, Nat.zero_le _⟩) hS (fun H locs hP hS => ?_)
        obtain rfl := Option.some.inj hf
        exact x_iret hx hb hr hlocks hK hP hS dX9_use_57
      · have hf := zif_t c6 hf
        refine lv_bipush (v := (-5)) hx hb dX9_use_28 (by decide) ?_
        obtain rfl := Option.some.inj hf
        exact x_iret hx hb hr hlocks hK hP hS dX9_use_30
    · have hf := zif_t c4 hf
      refine lv_iconst (v := (-1)) hx hb dX9_use_18 (by decide) ?_
      obtain rfl := Option.some.inj hf
      exact x_iret hx hb hr hlocks hK hP hS dX9_use_19
set_option maxRecDepth 100000 in
set_option maxHeartbeats 4000000 in
theorem c_X9_look (l : Launch) (G : zGT) (hG : zOK G) (I J : zM) (x1 : Int32) {r : Int32 × zM} (hf : f_X9_look J x1 = some r) : Met l yX9_look wsX9_look (zrm 4 99) (va_Pc [.ref (G.2.1 359), .int x1] (zS G I J)) (zQi G r.1 I r.2) 0 0 (zA G) := by
  refine zMet (cc := cX9_look) (n := 2) (ret := (some .int)) (by decide) rfl (Nat.le_of_ble_eq_true rfl) ?_
  intro p e s m args below meth c H locs ls F hK hP hS hl
  obtain ⟨hx, hb, hr, hml, hts, hown, hlocks⟩ := F
  have hown : s.vm.findClass RX9 = some m.cls := hown
  have hl : lv_has ls 2 [(0, .ref (G.2.1 359)), (1, .int x1)] := hl
  unfold f_X9_look at hf
  refine lv_aload_n hx hb dX9_look_0 rfl (lv_at hl 0 rfl) ?_
  refine lv_iload_n hx hb dX9_look_1 rfl (lv_at hl 1 rfl) ?_
  obtain ⟨q1, hq1, hf⟩ := zb_e hf
  refine x_calli (x_runV (As := [.int x1]) (rest := []) ⟨hx, hb, hml, hown, hts⟩ (c_X9_isTool l G hG I J x1 hq1) (cwV 1 hts gX9_look_X9_isTool rfl rfl rfl (by decide +kernel) ⟨Nat.le_of_ble_eq_true rfl, Nat.le_of_ble_eq_true rfl⟩) hK hP zkL_359 (by decide) rfl rfl hl.1 rfl (Nat.le_of_ble_eq_true rfl) dX9_look_2 ⟨Nat.zero_le _, Nat.zero_le _⟩) hS (fun H locs hP hS => ?_)
  refine lv_if_eq (tgt := 16) hx hb dX9_look_5 (by decide) (fun c2 => ?_) (fun c2 => ?_)
  · have hf := zif_t c2 hf
    refine lv_iconst (v := (-1)) hx hb dX9_look_16 (by decide) ?_
    obtain rfl := Option.some.inj hf
    exact x_iret hx hb hr hlocks hK hP hS dX9_look_17
  · have hf := zif_f c2 hf
    refine lv_aload_n hx hb dX9_look_8 rfl (lv_at hl 0 rfl) ?_
    refine lv_iload_n hx hb dX9_look_9 rfl (lv_at hl 1 rfl) ?_
    obtain ⟨q3, hq3, hf⟩ := zb_e hf
    refine x_calli (x_runV (As := [.int x1]) (rest := []) ⟨hx, hb, hml, hown, hts⟩ (c_X9_looks l G hG I J x1 hq3) (cwV 1 hts gX9_look_X9_looks rfl rfl rfl (by decide +kernel) ⟨Nat.le_of_ble_eq_true rfl, Nat.le_of_ble_eq_true rfl⟩) hK hP zkL_359 (by decide) rfl rfl hl.1 rfl (Nat.le_of_ble_eq_true rfl) dX9_look_10 ⟨Nat.zero_le _, Nat.zero_le _⟩) hS (fun H locs hP hS => ?_)
    refine lv_goto (tgt := 17) hx hb dX9_look_13 (by decide) ?_
    obtain rfl := Option.some.inj hf
    exact x_iret hx hb hr hlocks hK hP hS dX9_look_17
set_option maxRecDepth 100000 in
set_option maxHeartbeats 4000000 in
theorem c_X9_does (l : Launch) (G : zGT) (hG : zOK G) (I J : zM) (x1 : Int32) {r : Int32 × zM} (hf : f_X9_does J x1 = some r) : Met l yX9_does wsX9_does (zrm 8 186) (va_Pc [.ref (G.2.1 359), .int x1] (zS G I J)) (zQi G r.1 I r.2) 0 0 (zA G) := by
  refine zMet (cc := cX9_does) (n := 4) (ret := (some .int)) (by decide) rfl (Nat.le_of_ble_eq_true rfl) ?_
  intro p e s m args below meth c H locs ls F hK hP hS hl
  obtain ⟨hx, hb, hr, hml, hts, hown, hlocks⟩ := F
  have hown : s.vm.findClass RX9 = some m.cls := hown
  have hl : lv_has ls 4 [(0, .ref (G.2.1 359)), (1, .int x1)] := hl
  have hi9 : ∀ w ∈ wsX90, w ∈ wsX9_does := fun _ h => List.mem_cons_of_mem _ (List.mem_append_right _ h)
  unfold f_X9_does at hf
  refine lv_aload_n hx hb dX9_does_0 rfl (lv_at hl 0 rfl) ?_
  refine x_get (j := 15) (v := .ref (G.2.1 376)) hx hb hts hi9 hown hK hP zkL_359 rfl (by decide) (hts (.fieldLink RX9 42 "LeaseOfficeModel" "told" "[I") (by decide +kernel)) rfl (by decide) dX9_does_1 ?_
  refine lv_iconst (v := 0) hx hb dX9_does_4 (by decide) ?_
  refine x_ialdL (j := 0) hx hb hK hP (zK_lt zkL_376 (by decide)) (zE_15 (j := 17) zkL_376 zlL_376 rfl) (by decide) (by decide) dX9_does_5 ?_
  refine lv_istore_n (lv' := [(2, .int (J 17 0)), (0, .ref (G.2.1 359)), (1, .int x1)]) hx hb dX9_does_6 rfl hl (by decide) rfl (fun ls hl => ?_)
  refine lv_aload_n hx hb dX9_does_7 rfl (lv_at hl 1 rfl) ?_
  refine x_get (j := 15) (v := .ref (G.2.1 376)) hx hb hts hi9 hown hK hP zkL_359 rfl (by decide) (hts (.fieldLink RX9 42 "LeaseOfficeModel" "told" "[I") (by decide +kernel)) rfl (by decide) dX9_does_8 ?_
  refine lv_iconst (v := 1) hx hb dX9_does_11 (by decide) ?_
  refine x_ialdL (j := 1) hx hb hK hP (zK_lt zkL_376 (by decide)) (zE_15 (j := 17) zkL_376 zlL_376 rfl) (by decide) (by decide) dX9_does_12 ?_
  refine lv_istore_n (lv' := [(3, .int (J 17 1)), (2, .int (J 17 0)), (0, .ref (G.2.1 359)), (1, .int x1)]) hx hb dX9_does_13 rfl hl (by decide) rfl (fun ls hl => ?_)
  refine lv_iload_n hx hb dX9_does_14 rfl (lv_at hl 3 rfl) ?_
  rcases Classical.em (x1 = 99) with c16 | c16
  · have hf := zif_t c16 hf
    refine lv_tableIn (off := 136) (tgt := 151) hx hb dX9_does_15 (by rw [c16]; decide) (by rw [c16]; decide) (by rw [c16]; decide) (by decide) ?_
    refine lv_aload_n hx hb dX9_does_151 rfl (lv_at hl 2 rfl) ?_
    refine x_get (j := 15) (v := .ref (G.2.1 376)) hx hb hts hi9 hown hK hP zkL_359 rfl (by decide) (hts (.fieldLink RX9 42 "LeaseOfficeModel" "told" "[I") (by decide +kernel)) rfl (by decide) dX9_does_152 ?_
    refine lv_iconst (v := 2) hx hb dX9_does_155 (by decide) ?_
    refine x_ialdL (j := 2) hx hb hK hP (zK_lt zkL_376 (by decide)) (zE_15 (j := 17) zkL_376 zlL_376 rfl) (by decide) (by decide) dX9_does_156 ?_
    refine lv_iconst (v := 0) hx hb dX9_does_157 (by decide) ?_
    refine lv_bipush (v := 9) hx hb dX9_does_158 (by decide) ?_
    obtain ⟨q1, hq1, hf⟩ := zb_e hf
    refine x_calli (x_runS (As := [.int (J 17 2), .int 0, .int 9]) (rest := []) ⟨hx, hb, hml, hown, hts⟩ (c_X9_in l G hG I J (J 17 2) 0 9 hq1) (va_cwS 3 hts gX9_does_X9_in rfl rfl rfl (by decide +kernel) ⟨Nat.le_of_ble_eq_true rfl, Nat.le_of_ble_eq_true rfl⟩) hK hP rfl hl.1 rfl (Nat.le_of_ble_eq_true rfl) dX9_does_160 ⟨Nat.zero_le _, Nat.zero_le _⟩) hS (fun H locs hP hS => ?_)
    refine lv_if_eq (tgt := 206) hx hb dX9_does_163 (by decide) (fun c2 => ?_) (fun c2 => ?_)
    · have hf := zif_t c2 hf
      refine lv_iconst (v := (-1)) hx hb dX9_does_206 (by decide) ?_
      obtain rfl := Option.some.inj hf
      exact x_iret hx hb hr hlocks hK hP hS dX9_does_207
    · have hf := zif_f c2 hf
      refine lv_aload_n hx hb dX9_does_166 rfl (lv_at hl 2 rfl) ?_
      refine x_get (j := 15) (v := .ref (G.2.1 376)) hx hb hts hi9 hown hK hP zkL_359 rfl (by decide) (hts (.fieldLink RX9 42 "LeaseOfficeModel" "told" "[I") (by decide +kernel)) rfl (by decide) dX9_does_167 ?_
      refine lv_iconst (v := 3) hx hb dX9_does_170 (by decide) ?_
      refine x_ialdL (j := 3) hx hb hK hP (zK_lt zkL_376 (by decide)) (zE_15 (j := 17) zkL_376 zlL_376 rfl) (by decide) (by decide) dX9_does_171 ?_
      refine lv_iconst (v := 1) hx hb dX9_does_172 (by decide) ?_
      refine lv_bipush (v := 30) hx hb dX9_does_173 (by decide) ?_
      obtain ⟨q3, hq3, hf⟩ := zb_e hf
      refine x_calli (x_runS (As := [.int (J 17 3), .int 1, .int 30]) (rest := []) ⟨hx, hb, hml, hown, hts⟩ (c_X9_in l G hG I J (J 17 3) 1 30 hq3) (va_cwS 3 hts gX9_does_X9_in rfl rfl rfl (by decide +kernel) ⟨Nat.le_of_ble_eq_true rfl, Nat.le_of_ble_eq_true rfl⟩) hK hP rfl hl.1 rfl (Nat.le_of_ble_eq_true rfl) dX9_does_175 ⟨Nat.zero_le _, Nat.zero_le _⟩) hS (fun H locs hP hS => ?_)
      refine lv_if_eq (tgt := 206) hx hb dX9_does_178 (by decide) (fun c4 => ?_) (fun c4 => ?_)
      · have hf := zif_t c4 hf
        refine lv_iconst (v := (-1)) hx hb dX9_does_206 (by decide) ?_
        obtain rfl := Option.some.inj hf
        exact x_iret hx hb hr hlocks hK hP hS dX9_does_207
      · have hf := zif_f c4 hf
        refine lv_aload_n hx hb dX9_does_181 rfl (lv_at hl 2 rfl) ?_
        refine lv_iload_n hx hb dX9_does_182 rfl (lv_at hl 1 rfl) ?_
        refine lv_iload_n hx hb dX9_does_183 rfl (lv_at hl 0 rfl) ?_
        refine lv_bipush (v := 100) hx hb dX9_does_184 (by decide) ?_
        refine lv_aload_n hx hb dX9_does_186 rfl (lv_at hl 2 rfl) ?_
        refine x_get (j := 15) (v := .ref (G.2.1 376)) hx hb hts hi9 hown hK hP zkL_359 rfl (by decide) (hts (.fieldLink RX9 42 "LeaseOfficeModel" "told" "[I") (by decide +kernel)) rfl (by decide) dX9_does_187 ?_
        refine lv_iconst (v := 2) hx hb dX9_does_190 (by decide) ?_
        refine x_ialdL (j := 2) hx hb hK hP (zK_lt zkL_376 (by decide)) (zE_15 (j := 17) zkL_376 zlL_376 rfl) (by decide) (by decide) dX9_does_191 ?_
        refine lv_imul hx hb dX9_does_192 ?_
        refine lv_aload_n hx hb dX9_does_193 rfl (lv_at hl 2 rfl) ?_
        refine x_get (j := 15) (v := .ref (G.2.1 376)) hx hb hts hi9 hown hK hP zkL_359 rfl (by decide) (hts (.fieldLink RX9 42 "LeaseOfficeModel" "told" "[I") (by decide +kernel)) rfl (by decide) dX9_does_194 ?_
        refine lv_iconst (v := 3) hx hb dX9_does_197 (by decide) ?_
        refine x_ialdL (j := 3) hx hb hK hP (zK_lt zkL_376 (by decide)) (zE_15 (j := 17) zkL_376 zlL_376 rfl) (by decide) (by decide) dX9_does_198 ?_
        refine lv_iadd hx hb dX9_does_199 ?_
        obtain ⟨q5, hq5, hf⟩ := zb_e hf
        refine x_calli (x_runV (As := [.int (J 17 0), .int (J 17 1), .int ((100 * (J 17 2)) + (J 17 3))]) (rest := []) ⟨hx, hb, hml, hown, hts⟩ (c_X9_claim l G hG I J (J 17 0) (J 17 1) ((100 * (J 17 2)) + (J 17 3)) hq5) (cwV 3 hts gX9_does_X9_claim rfl rfl rfl (by decide +kernel) ⟨Nat.le_of_ble_eq_true rfl, Nat.le_of_ble_eq_true rfl⟩) hK hP zkL_359 (by decide) rfl rfl hl.1 rfl (Nat.le_of_ble_eq_true rfl) dX9_does_200 ⟨Nat.zero_le _, Nat.zero_le _⟩) hS (fun H locs hP hS => ?_)
        refine lv_goto (tgt := 207) hx hb dX9_does_203 (by decide) ?_
        obtain rfl := Option.some.inj hf
        exact x_iret hx hb hr hlocks hK hP hS dX9_does_207
  · have hf := zif_f c16 hf
    rcases Classical.em (x1 = 103) with c17 | c17
    · have hf := zif_t c17 hf
      refine lv_tableIn (off := 199) (tgt := 214) hx hb dX9_does_15 (by rw [c17]; decide) (by rw [c17]; decide) (by rw [c17]; decide) (by decide) ?_
      refine lv_aload_n hx hb dX9_does_214 rfl (lv_at hl 2 rfl) ?_
      refine lv_iload_n hx hb dX9_does_215 rfl (lv_at hl 1 rfl) ?_
      refine lv_iload_n hx hb dX9_does_216 rfl (lv_at hl 0 rfl) ?_
      obtain ⟨q6, hq6, hf⟩ := zb_e hf
      refine x_calli (x_runV (As := [.int (J 17 0), .int (J 17 1)]) (rest := []) ⟨hx, hb, hml, hown, hts⟩ (c_X9_pass l G hG I J (J 17 0) (J 17 1) hq6) (cwV 2 hts gX9_does_X9_pass rfl rfl rfl (by decide +kernel) ⟨Nat.le_of_ble_eq_true rfl, Nat.le_of_ble_eq_true rfl⟩) hK hP zkL_359 (by decide) rfl rfl hl.1 rfl (Nat.le_of_ble_eq_true rfl) dX9_does_217 ⟨Nat.zero_le _, Nat.zero_le _⟩) hS (fun H locs hP hS => ?_)
      obtain rfl := Option.some.inj hf
      exact x_iret hx hb hr hlocks hK hP hS dX9_does_220
    · have hf := zif_f c17 hf
      rcases Classical.em (x1 = 107) with c18 | c18
      · have hf := zif_t c18 hf
        refine lv_tableIn (off := 220) (tgt := 235) hx hb dX9_does_15 (by rw [c18]; decide) (by rw [c18]; decide) (by rw [c18]; decide) (by decide) ?_
        refine lv_aload_n hx hb dX9_does_235 rfl (lv_at hl 2 rfl) ?_
        refine lv_iload_n hx hb dX9_does_236 rfl (lv_at hl 1 rfl) ?_
        obtain ⟨q7, hq7, hf⟩ := zb_e hf
        refine x_calli (x_runV (As := [.int (J 17 0)]) (rest := []) ⟨hx, hb, hml, hown, hts⟩ (c_X9_look l G hG I J (J 17 0) hq7) (cwV 1 hts gX9_does_X9_look rfl rfl rfl (by decide +kernel) ⟨Nat.le_of_ble_eq_true rfl, Nat.le_of_ble_eq_true rfl⟩) hK hP zkL_359 (by decide) rfl rfl hl.1 rfl (Nat.le_of_ble_eq_true rfl) dX9_does_237 ⟨Nat.zero_le _, Nat.zero_le _⟩) hS (fun H locs hP hS => ?_)
        obtain rfl := Option.some.inj hf
        exact x_iret hx hb hr hlocks hK hP hS dX9_does_240
      · have hf := zif_f c18 hf
        rcases Classical.em (x1 = 108) with c19 | c19
        · have hf := zif_t c19 hf
          refine lv_tableIn (off := 123) (tgt := 138) hx hb dX9_does_15 (by rw [c19]; decide) (by rw [c19]; decide) (by rw [c19]; decide) (by decide) ?_
          refine lv_aload_n hx hb dX9_does_138 rfl (lv_at hl 2 rfl) ?_
          refine lv_iload_n hx hb dX9_does_139 rfl (lv_at hl 1 rfl) ?_
          refine lv_iload_n hx hb dX9_does_140 rfl (lv_at hl 0 rfl) ?_
          refine lv_aload_n hx hb dX9_does_141 rfl (lv_at hl 2 rfl) ?_
          refine x_get (j := 15) (v := .ref (G.2.1 376)) hx hb hts hi9 hown hK hP zkL_359 rfl (by decide) (hts (.fieldLink RX9 42 "LeaseOfficeModel" "told" "[I") (by decide +kernel)) rfl (by decide) dX9_does_142 ?_
          refine lv_iconst (v := 2) hx hb dX9_does_145 (by decide) ?_
          refine x_ialdL (j := 2) hx hb hK hP (zK_lt zkL_376 (by decide)) (zE_15 (j := 17) zkL_376 zlL_376 rfl) (by decide) (by decide) dX9_does_146 ?_
          obtain ⟨q8, hq8, hf⟩ := zb_e hf
          refine x_calli (x_runV (As := [.int (J 17 0), .int (J 17 1), .int (J 17 2)]) (rest := []) ⟨hx, hb, hml, hown, hts⟩ (c_X9_lease l G hG I J (J 17 0) (J 17 1) (J 17 2) hq8) (cwV 3 hts gX9_does_X9_lease rfl rfl rfl (by decide +kernel) ⟨Nat.le_of_ble_eq_true rfl, Nat.le_of_ble_eq_true rfl⟩) hK hP zkL_359 (by decide) rfl rfl hl.1 rfl (Nat.le_of_ble_eq_true rfl) dX9_does_147 ⟨Nat.zero_le _, Nat.zero_le _⟩) hS (fun H locs hP hS => ?_)
          obtain rfl := Option.some.inj hf
          exact x_iret hx hb hr hlocks hK hP hS dX9_does_150
        · have hf := zif_f c19 hf
          rcases Classical.em (x1 = 112) with c20 | c20
          · have hf := zif_t c20 hf
            refine lv_tableIn (off := 97) (tgt := 112) hx hb dX9_does_15 (by rw [c20]; decide) (by rw [c20]; decide) (by rw [c20]; decide) (by decide) ?_
            refine lv_aload_n hx hb dX9_does_112 rfl (lv_at hl 2 rfl) ?_
            refine lv_iload_n hx hb dX9_does_113 rfl (lv_at hl 1 rfl) ?_
            refine lv_iload_n hx hb dX9_does_114 rfl (lv_at hl 0 rfl) ?_
            obtain ⟨q9, hq9, hf⟩ := zb_e hf
            refine x_calli (x_runV (As := [.int (J 17 0), .int (J 17 1)]) (rest := []) ⟨hx, hb, hml, hown, hts⟩ (c_X9_person l G hG I J (J 17 0) (J 17 1) hq9) (cwV 2 hts gX9_does_X9_person rfl rfl rfl (by decide +kernel) ⟨Nat.le_of_ble_eq_true rfl, Nat.le_of_ble_eq_true rfl⟩) hK hP zkL_359 (by decide) rfl rfl hl.1 rfl (Nat.le_of_ble_eq_true rfl) dX9_does_115 ⟨Nat.zero_le _, Nat.zero_le _⟩) hS (fun H locs hP hS => ?_)
            obtain rfl := Option.some.inj hf
            exact x_iret hx hb hr hlocks hK hP hS dX9_does_118
          · have hf := zif_f c20 hf
            rcases Classical.em (x1 = 114) with c21 | c21
            · have hf := zif_t c21 hf
              refine lv_tableIn (off := 193) (tgt := 208) hx hb dX9_does_15 (by rw [c21]; decide) (by rw [c21]; decide) (by rw [c21]; decide) (by decide) ?_
              refine lv_aload_n hx hb dX9_does_208 rfl (lv_at hl 2 rfl) ?_
              refine lv_iload_n hx hb dX9_does_209 rfl (lv_at hl 1 rfl) ?_
              obtain ⟨q10, hq10, hf⟩ := zb_e hf
              refine x_calli (x_runV (As := [.int (J 17 0)]) (rest := []) ⟨hx, hb, hml, hown, hts⟩ (c_X9_returned l G hG I J (J 17 0) hq10) (cwV 1 hts gX9_does_X9_returned rfl rfl rfl (by decide +kernel) ⟨Nat.le_of_ble_eq_true rfl, Nat.le_of_ble_eq_true rfl⟩) hK hP zkL_359 (by decide) rfl rfl hl.1 rfl (Nat.le_of_ble_eq_true rfl) dX9_does_210 ⟨Nat.zero_le _, Nat.zero_le _⟩) hS (fun H locs hP hS => ?_)
              obtain rfl := Option.some.inj hf
              exact x_iret hx hb hr hlocks hK hP hS dX9_does_213
            · have hf := zif_f c21 hf
              rcases Classical.em (x1 = 115) with c22 | c22
              · have hf := zif_t c22 hf
                refine lv_tableIn (off := 206) (tgt := 221) hx hb dX9_does_15 (by rw [c22]; decide) (by rw [c22]; decide) (by rw [c22]; decide) (by decide) ?_
                refine lv_aload_n hx hb dX9_does_221 rfl (lv_at hl 2 rfl) ?_
                refine lv_iload_n hx hb dX9_does_222 rfl (lv_at hl 1 rfl) ?_
                refine lv_iload_n hx hb dX9_does_223 rfl (lv_at hl 0 rfl) ?_
                obtain ⟨q11, hq11, hf⟩ := zb_e hf
                refine x_calli (x_runV (As := [.int (J 17 0), .int (J 17 1)]) (rest := []) ⟨hx, hb, hml, hown, hts⟩ (c_X9_swap l G hG I J (J 17 0) (J 17 1) hq11) (cwV 2 hts gX9_does_X9_swap rfl rfl rfl (by decide +kernel) ⟨Nat.le_of_ble_eq_true rfl, Nat.le_of_ble_eq_true rfl⟩) hK hP zkL_359 (by decide) rfl rfl hl.1 rfl (Nat.le_of_ble_eq_true rfl) dX9_does_224 ⟨Nat.zero_le _, Nat.zero_le _⟩) hS (fun H locs hP hS => ?_)
                obtain rfl := Option.some.inj hf
                exact x_iret hx hb hr hlocks hK hP hS dX9_does_227
              · have hf := zif_f c22 hf
                rcases Classical.em (x1 = 116) with c23 | c23
                · have hf := zif_t c23 hf
                  refine lv_tableIn (off := 104) (tgt := 119) hx hb dX9_does_15 (by rw [c23]; decide) (by rw [c23]; decide) (by rw [c23]; decide) (by decide) ?_
                  refine lv_aload_n hx hb dX9_does_119 rfl (lv_at hl 2 rfl) ?_
                  refine lv_iload_n hx hb dX9_does_120 rfl (lv_at hl 1 rfl) ?_
                  obtain ⟨q12, hq12, hf⟩ := zb_e hf
                  refine x_calli (x_runV (As := [.int (J 17 0)]) (rest := []) ⟨hx, hb, hml, hown, hts⟩ (c_X9_tool l G hG I J (J 17 0) hq12) (cwV 1 hts gX9_does_X9_tool rfl rfl rfl (by decide +kernel) ⟨Nat.le_of_ble_eq_true rfl, Nat.le_of_ble_eq_true rfl⟩) hK hP zkL_359 (by decide) rfl rfl hl.1 rfl (Nat.le_of_ble_eq_true rfl) dX9_does_121 ⟨Nat.zero_le _, Nat.zero_le _⟩) hS (fun H locs hP hS => ?_)
                  obtain rfl := Option.some.inj hf
                  exact x_iret hx hb hr hlocks hK hP hS dX9_does_124
                · have hf := zif_f c23 hf
                  rcases Classical.em (x1 = 117) with c24 | c24
                  · have hf := zif_t c24 hf
                    refine lv_tableIn (off := 213) (tgt := 228) hx hb dX9_does_15 (by rw [c24]; decide) (by rw [c24]; decide) (by rw [c24]; decide) (by decide) ?_
                    refine lv_aload_n hx hb dX9_does_228 rfl (lv_at hl 2 rfl) ?_
                    refine lv_iload_n hx hb dX9_does_229 rfl (lv_at hl 1 rfl) ?_
                    refine lv_iload_n hx hb dX9_does_230 rfl (lv_at hl 0 rfl) ?_
                    obtain ⟨q13, hq13, hf⟩ := zb_e hf
                    refine x_calli (x_runV (As := [.int (J 17 0), .int (J 17 1)]) (rest := []) ⟨hx, hb, hml, hown, hts⟩ (c_X9_use l G hG I J (J 17 0) (J 17 1) hq13) (cwV 2 hts gX9_does_X9_use rfl rfl rfl (by decide +kernel) ⟨Nat.le_of_ble_eq_true rfl, Nat.le_of_ble_eq_true rfl⟩) hK hP zkL_359 (by decide) rfl rfl hl.1 rfl (Nat.le_of_ble_eq_true rfl) dX9_does_231 ⟨Nat.zero_le _, Nat.zero_le _⟩) hS (fun H locs hP hS => ?_)
                    obtain rfl := Option.some.inj hf
                    exact x_iret hx hb hr hlocks hK hP hS dX9_does_234
                  · have hf := zif_f c24 hf
                    rcases Classical.em (x1 = 119) with c25 | c25
                    · have hf := zif_t c25 hf
                      refine lv_tableIn (off := 110) (tgt := 125) hx hb dX9_does_15 (by rw [c25]; decide) (by rw [c25]; decide) (by rw [c25]; decide) (by decide) ?_
                      refine lv_aload_n hx hb dX9_does_125 rfl (lv_at hl 2 rfl) ?_
                      refine lv_iload_n hx hb dX9_does_126 rfl (lv_at hl 1 rfl) ?_
                      refine lv_iload_n hx hb dX9_does_127 rfl (lv_at hl 0 rfl) ?_
                      refine lv_aload_n hx hb dX9_does_128 rfl (lv_at hl 2 rfl) ?_
                      refine x_get (j := 15) (v := .ref (G.2.1 376)) hx hb hts hi9 hown hK hP zkL_359 rfl (by decide) (hts (.fieldLink RX9 42 "LeaseOfficeModel" "told" "[I") (by decide +kernel)) rfl (by decide) dX9_does_129 ?_
                      refine lv_iconst (v := 2) hx hb dX9_does_132 (by decide) ?_
                      refine x_ialdL (j := 2) hx hb hK hP (zK_lt zkL_376 (by decide)) (zE_15 (j := 17) zkL_376 zlL_376 rfl) (by decide) (by decide) dX9_does_133 ?_
                      obtain ⟨q14, hq14, hf⟩ := zb_e hf
                      refine x_calli (x_runV (As := [.int (J 17 0), .int (J 17 1), .int (J 17 2)]) (rest := []) ⟨hx, hb, hml, hown, hts⟩ (c_X9_wish l G hG I J (J 17 0) (J 17 1) (J 17 2) hq14) (cwV 3 hts gX9_does_X9_wish rfl rfl rfl (by decide +kernel) ⟨Nat.le_of_ble_eq_true rfl, Nat.le_of_ble_eq_true rfl⟩) hK hP zkL_359 (by decide) rfl rfl hl.1 rfl (Nat.le_of_ble_eq_true rfl) dX9_does_134 ⟨Nat.zero_le _, Nat.zero_le _⟩) hS (fun H locs hP hS => ?_)
                      obtain rfl := Option.some.inj hf
                      exact x_iret hx hb hr hlocks hK hP hS dX9_does_137
                    · have hf := zif_f c25 hf
                      have hD : W p l e (zrm 8 186) s m args below meth c H locs 0 0 (MQ below (zQi G r.1 I r.2) args s 0 0 (zA G)) (F0 m 241 ls []) := by
                        refine lv_aload_n hx hb dX9_does_241 rfl (lv_at hl 2 rfl) ?_
                        refine lv_iload_n hx hb dX9_does_242 rfl (lv_at hl 1 rfl) ?_
                        obtain ⟨q15, hq15, hf⟩ := zb_e hf
                        refine x_calli (x_runV (As := [.int (J 17 0)]) (rest := []) ⟨hx, hb, hml, hown, hts⟩ (c_X9_days l G hG I J (J 17 0) hq15) (cwV 1 hts gX9_does_X9_days rfl rfl rfl (by decide +kernel) ⟨Nat.le_of_ble_eq_true rfl, Nat.le_of_ble_eq_true rfl⟩) hK hP zkL_359 (by decide) rfl rfl hl.1 rfl (Nat.le_of_ble_eq_true rfl) dX9_does_243 ⟨Nat.zero_le _, Nat.zero_le _⟩) hS (fun H locs hP hS => ?_)
                        obtain rfl := Option.some.inj hf
                        exact x_iret hx hb hr hlocks hK hP hS dX9_does_246
                      rcases z_sw x1 99 119 21 (by decide) with h | ⟨k, hk, e⟩
                      · exact lv_tableOut hx hb dX9_does_15 h (by decide) hD
                      · match k, hk, e with
                        | 0, _, e => exact absurd (e.trans (by decide)) c16
                        | 1, _, e => exact lv_tableIn (off := 226) (tgt := 241) hx hb dX9_does_15 (by rw [e]; decide) (by rw [e]; decide) (by rw [e]; decide) (by decide) hD
                        | 2, _, e => exact lv_tableIn (off := 226) (tgt := 241) hx hb dX9_does_15 (by rw [e]; decide) (by rw [e]; decide) (by rw [e]; decide) (by decide) hD
                        | 3, _, e => exact lv_tableIn (off := 226) (tgt := 241) hx hb dX9_does_15 (by rw [e]; decide) (by rw [e]; decide) (by rw [e]; decide) (by decide) hD
                        | 4, _, e => exact absurd (e.trans (by decide)) c17
                        | 5, _, e => exact lv_tableIn (off := 226) (tgt := 241) hx hb dX9_does_15 (by rw [e]; decide) (by rw [e]; decide) (by rw [e]; decide) (by decide) hD
                        | 6, _, e => exact lv_tableIn (off := 226) (tgt := 241) hx hb dX9_does_15 (by rw [e]; decide) (by rw [e]; decide) (by rw [e]; decide) (by decide) hD
                        | 7, _, e => exact lv_tableIn (off := 226) (tgt := 241) hx hb dX9_does_15 (by rw [e]; decide) (by rw [e]; decide) (by rw [e]; decide) (by decide) hD
                        | 8, _, e => exact absurd (e.trans (by decide)) c18
                        | 9, _, e => exact absurd (e.trans (by decide)) c19
                        | 10, _, e => exact lv_tableIn (off := 226) (tgt := 241) hx hb dX9_does_15 (by rw [e]; decide) (by rw [e]; decide) (by rw [e]; decide) (by decide) hD
                        | 11, _, e => exact lv_tableIn (off := 226) (tgt := 241) hx hb dX9_does_15 (by rw [e]; decide) (by rw [e]; decide) (by rw [e]; decide) (by decide) hD
                        | 12, _, e => exact lv_tableIn (off := 226) (tgt := 241) hx hb dX9_does_15 (by rw [e]; decide) (by rw [e]; decide) (by rw [e]; decide) (by decide) hD
                        | 13, _, e => exact absurd (e.trans (by decide)) c20
                        | 14, _, e => exact lv_tableIn (off := 226) (tgt := 241) hx hb dX9_does_15 (by rw [e]; decide) (by rw [e]; decide) (by rw [e]; decide) (by decide) hD
                        | 15, _, e => exact absurd (e.trans (by decide)) c21
                        | 16, _, e => exact absurd (e.trans (by decide)) c22
                        | 17, _, e => exact absurd (e.trans (by decide)) c23
                        | 18, _, e => exact absurd (e.trans (by decide)) c24
                        | 19, _, e => exact lv_tableIn (off := 226) (tgt := 241) hx hb dX9_does_15 (by rw [e]; decide) (by rw [e]; decide) (by rw [e]; decide) (by decide) hD
                        | 20, _, e => exact absurd (e.trans (by decide)) c25
                        | _ + 21, hk, _ => exact absurd hk (by omega)
set_option maxRecDepth 100000 in
set_option maxHeartbeats 4000000 in
theorem c_X9_feed (l : Launch) (G : zGT) (hG : zOK G) (I J : zM) (x1 : Int32) {r : Int32 × zM} (hf : f_X9_feed J x1 = some r) : Met l yX9_feed wsX9_feed (zrm 1 22) (va_Pc [.ref (G.2.1 359), .int x1] (zS G I J)) (zQi G r.1 I r.2) 0 0 (zA G) := by
  refine zMet (cc := cX9_feed) (n := 2) (ret := (some .int)) (by decide) rfl (Nat.le_of_ble_eq_true rfl) ?_
  intro p e s m args below meth c H locs ls F hK hP hS hl
  obtain ⟨hx, hb, hr, hml, hts, hown, hlocks⟩ := F
  have hown : s.vm.findClass RX9 = some m.cls := hown
  have hl : lv_has ls 2 [(0, .ref (G.2.1 359)), (1, .int x1)] := hl
  have hi9 : ∀ w ∈ wsX90, w ∈ wsX9_feed := fun _ h => List.mem_cons_of_mem _ (List.mem_append_right _ h)
  unfold f_X9_feed at hf
  refine lv_iload_n hx hb dX9_feed_0 rfl (lv_at hl 1 rfl) ?_
  refine lv_iconst (v := 0) hx hb dX9_feed_1 (by decide) ?_
  refine lv_sipush (v := 255) hx hb dX9_feed_2 (by decide) ?_
  obtain ⟨q1, hq1, hf⟩ := zb_e hf
  refine x_calli (x_runS (As := [.int x1, .int 0, .int 255]) (rest := []) ⟨hx, hb, hml, hown, hts⟩ (c_X9_in l G hG I J x1 0 255 hq1) (va_cwS 3 hts gX9_feed_X9_in rfl rfl rfl (by decide +kernel) ⟨Nat.le_of_ble_eq_true rfl, Nat.le_of_ble_eq_true rfl⟩) hK hP rfl hl.1 rfl (Nat.le_of_ble_eq_true rfl) dX9_feed_5 ⟨Nat.zero_le _, Nat.zero_le _⟩) hS (fun H locs hP hS => ?_)
  refine lv_if_ne (tgt := 13) hx hb dX9_feed_8 (by decide) (fun c2 => ?_) (fun c2 => ?_)
  · have hf := zif_f c2 hf
    refine lv_aload_n hx hb dX9_feed_13 rfl (lv_at hl 0 rfl) ?_
    refine x_get (j := 8) (v := .int (J 0 8)) hx hb hts hi9 hown hK hP zkL_359 rfl (by decide) (hts (.fieldLink RX9 208 "LeaseOfficeModel" "tapeMany" "I") (by decide +kernel)) rfl (by decide) dX9_feed_14 ?_
    refine lv_bipush (v := 120) hx hb dX9_feed_17 (by decide) ?_
    refine lv_icmp_ne (tgt := 25) hx hb dX9_feed_19 (by decide) (fun c3 => ?_) (fun c3 => ?_)
    · have hf := zif_f c3 hf
      refine lv_aload_n hx hb dX9_feed_25 rfl (lv_at hl 0 rfl) ?_
      refine x_get (j := 7) (v := .ref (G.2.1 365)) hx hb hts hi9 hown hK hP zkL_359 rfl (by decide) (hts (.fieldLink RX9 25 "LeaseOfficeModel" "tape" "[I") (by decide +kernel)) rfl (by decide) dX9_feed_26 ?_
      refine lv_aload_n hx hb dX9_feed_29 rfl (lv_at hl 0 rfl) ?_
      refine lv_dup hx hb dX9_feed_30 rfl ?_
      refine x_get (j := 8) (v := .int (J 0 8)) hx hb hts hi9 hown hK hP zkL_359 rfl (by decide) (hts (.fieldLink RX9 208 "LeaseOfficeModel" "tapeMany" "I") (by decide +kernel)) rfl (by decide) dX9_feed_31 ?_
      refine lv_dup_x1 hx hb dX9_feed_34 rfl rfl ?_
      refine lv_iconst (v := 1) hx hb dX9_feed_35 (by decide) ?_
      refine lv_iadd hx hb dX9_feed_36 ?_
      obtain ⟨M4, eM4, hf⟩ := zlet_e hf
      refine x_put (j := 8) (I2 := I) (J2 := M4) (ty0 := tyX9) (ty := .int) hx hb hts hi9 hown hG hK hP hS zkL_359 rfl tyX9_ok nmX9 (by decide) (hts (.fieldLink RX9 208 "LeaseOfficeModel" "tapeMany" "I") (by decide +kernel)) rfl (by decide +kernel) rfl rfl (Nat.le_of_ble_eq_true rfl) (by rw [eM4]; exact zs_9_8 _) (by rw [eM4]; exact zo_M (k := 0)) (by decide) dX9_feed_37 (fun H locs hP hS => ?_)
      refine lv_iload_n hx hb dX9_feed_40 rfl (lv_at hl 1 rfl) ?_
      obtain ⟨h6, hf⟩ := zck_e hf
      obtain ⟨M5, eM5, hf⟩ := zlet_e hf
      refine x_iastM (j := 6) (a := (J 0 8).toNatClampNeg) eM5 rfl hx hb hG hK hP hS zkL_365 zlL_365 (zin_e h6) dX9_feed_41 (fun H locs hP hS => ?_)
      refine lv_aload_n hx hb dX9_feed_42 rfl (lv_at hl 0 rfl) ?_
      refine x_get (j := 8) (v := .int (M5 0 8)) hx hb hts hi9 hown hK hP zkL_359 rfl (by decide) (hts (.fieldLink RX9 208 "LeaseOfficeModel" "tapeMany" "I") (by decide +kernel)) rfl (by decide) dX9_feed_43 ?_
      obtain rfl := Option.some.inj hf
      exact x_iret hx hb hr hlocks hK hP hS dX9_feed_46
    · have hf := zif_t c3 hf
      refine lv_bipush (v := (-3)) hx hb dX9_feed_22 (by decide) ?_
      obtain rfl := Option.some.inj hf
      exact x_iret hx hb hr hlocks hK hP hS dX9_feed_24
  · have hf := zif_t c2 hf
    refine lv_iconst (v := (-1)) hx hb dX9_feed_11 (by decide) ?_
    obtain rfl := Option.some.inj hf
    exact x_iret hx hb hr hlocks hK hP hS dX9_feed_12
set_option maxRecDepth 100000 in
set_option maxHeartbeats 4000000 in
theorem c_X9_fund (l : Launch) (G : zGT) (hG : zOK G) (I J : zM) (x1 : Int32) (x2 : Int32) {r : Int32 × zM} (hf : f_X9_fund J x1 x2 = some r) : Met l yX9_fund wsX9_fund (zrm 2 43) (va_Pc [.ref (G.2.1 359), .int x1, .int x2] (zS G I J)) (zQi G r.1 I r.2) 0 0 (zA G) := by
  refine zMet (cc := cX9_fund) (n := 5) (ret := (some .int)) (by decide) rfl (Nat.le_of_ble_eq_true rfl) ?_
  intro p e s m args below meth c H locs ls F hK hP hS hl
  obtain ⟨hx, hb, hr, hml, hts, hown, hlocks⟩ := F
  have hown : s.vm.findClass RX9 = some m.cls := hown
  have hl : lv_has ls 5 [(0, .ref (G.2.1 359)), (1, .int x1), (2, .int x2)] := hl
  have hi9 : ∀ w ∈ wsX90, w ∈ wsX9_fund := fun _ h => List.mem_cons_of_mem _ (List.mem_append_right _ h)
  have J41 : ∀ (M : zM) (s0 : Int32) (H : Heap) (locs : List Loc) (ls : Array Slot), f_X9_fund_j41 M x1 x2 s0 = some r → va_P G.1 vwCl (zW G I M) H → va_S (zA G) s.heap H locs → lv_has ls 5 [(0, .ref (G.2.1 359)), (1, .int x1), (2, .int x2)] → W p l e (zrm 2 43) s m args below meth c H locs 0 0 (MQ below (zQi G r.1 I r.2) args s 0 0 (zA G)) (F0 m 41 ls [.int s0]) := by
    intro M s0 H locs ls hf hP hS hl
    unfold f_X9_fund_j41 at hf
    refine lv_istore_n (lv' := [(3, .int s0), (0, .ref (G.2.1 359)), (1, .int x1), (2, .int x2)]) hx hb dX9_fund_41 rfl hl (by decide) rfl (fun ls hl => ?_)
    refine lv_aload_n hx hb dX9_fund_42 rfl (lv_at hl 1 rfl) ?_
    refine lv_iload_n hx hb dX9_fund_43 rfl (lv_at hl 2 rfl) ?_
    refine lv_iconst (v := 1) hx hb dX9_fund_44 (by decide) ?_
    obtain ⟨q7, hq7, hf⟩ := zb_e hf
    refine x_calli (x_runV (As := [.int x1, .int 1]) (rest := []) ⟨hx, hb, hml, hown, hts⟩ (c_X9_p l G hG I M x1 1 hq7) (cwV 2 hts gX9_fund_X9_p rfl rfl rfl (by decide +kernel) ⟨Nat.le_of_ble_eq_true rfl, Nat.le_of_ble_eq_true rfl⟩) hK hP zkL_359 (by decide) rfl rfl hl.1 rfl (Nat.le_of_ble_eq_true rfl) dX9_fund_45 ⟨Nat.zero_le _, Nat.zero_le _⟩) hS (fun H locs hP hS => ?_)
    refine lv_iload_n hx hb dX9_fund_48 rfl (lv_at hl 3 rfl) ?_
    refine lv_iadd hx hb dX9_fund_49 ?_
    refine lv_iload_n hx hb dX9_fund_50 rfl (lv_at hl 0 rfl) ?_
    refine lv_isub hx hb dX9_fund_51 ?_
    obtain ⟨w8, ew8, hf⟩ := zlet_e hf
    refine z_topi ew8 ?_
    refine lv_istore (lv' := [(4, .int w8), (3, .int s0), (0, .ref (G.2.1 359)), (1, .int x1), (2, .int x2)]) hx hb dX9_fund_52 hl (by decide) rfl (fun ls hl => ?_)
    refine lv_iload hx hb dX9_fund_54 (lv_at hl 0 rfl) ?_
    refine lv_sipush (v := 9999) hx hb dX9_fund_56 (by decide) ?_
    refine lv_icmp_le (tgt := 65) hx hb dX9_fund_59 (by decide) (fun c9 => ?_) (fun c9 => ?_)
    · have hf := zif_t c9 hf
      refine lv_aload_n hx hb dX9_fund_65 rfl (lv_at hl 2 rfl) ?_
      refine lv_iload_n hx hb dX9_fund_66 rfl (lv_at hl 3 rfl) ?_
      refine lv_iconst (v := 4) hx hb dX9_fund_67 (by decide) ?_
      refine lv_aload_n hx hb dX9_fund_68 rfl (lv_at hl 2 rfl) ?_
      refine lv_iload_n hx hb dX9_fund_69 rfl (lv_at hl 3 rfl) ?_
      refine lv_iconst (v := 4) hx hb dX9_fund_70 (by decide) ?_
      obtain ⟨q10, hq10, hf⟩ := zb_e hf
      refine x_calli (x_runV (As := [.int x1, .int 4]) (rest := [.int 4, .int x1, .ref (G.2.1 359)]) ⟨hx, hb, hml, hown, hts⟩ (c_X9_p l G hG I M x1 4 hq10) (cwV 2 hts gX9_fund_X9_p rfl rfl rfl (by decide +kernel) ⟨Nat.le_of_ble_eq_true rfl, Nat.le_of_ble_eq_true rfl⟩) hK hP zkL_359 (by decide) rfl rfl hl.1 rfl (Nat.le_of_ble_eq_true rfl) dX9_fund_71 ⟨Nat.zero_le _, Nat.zero_le _⟩) hS (fun H locs hP hS => ?_)
      refine lv_iload_n hx hb dX9_fund_74 rfl (lv_at hl 1 rfl) ?_
      refine lv_isub hx hb dX9_fund_75 ?_
      obtain ⟨q11, hq11, hf⟩ := zb_e hf
      refine x_callv (x_runV (As := [.int x1, .int 4, .int (q10 - s0)]) (rest := []) ⟨hx, hb, hml, hown, hts⟩ (c_X9_setP l G hG I M x1 4 (q10 - s0) hq11) (cwV 3 hts gX9_fund_X9_setP rfl rfl rfl (by decide +kernel) ⟨Nat.le_of_ble_eq_true rfl, Nat.le_of_ble_eq_true rfl⟩) hK hP zkL_359 (by decide) rfl rfl hl.1 rfl (Nat.le_of_ble_eq_true rfl) dX9_fund_76 ⟨Nat.zero_le _, Nat.zero_le _⟩) hS (fun H locs hP hS => ?_)
      refine lv_aload_n hx hb dX9_fund_79 rfl (lv_at hl 2 rfl) ?_
      refine x_get (j := 0) (v := .ref (G.2.1 360)) hx hb hts hi9 hown hK hP zkL_359 rfl (by decide) (hts (.fieldLink RX9 9 "LeaseOfficeModel" "g" "[I") (by decide +kernel)) rfl (by decide) dX9_fund_80 ?_
      refine lv_sipush (v := 1083) hx hb dX9_fund_83 (by decide) ?_
      refine lv_dup2_11 hx hb dX9_fund_86 rfl rfl ?_
      refine x_ialdL (j := 1083) hx hb hK hP (zK_lt zkL_360 (by decide)) (zE_15 (j := 1) zkL_360 zlL_360 rfl) (by decide) (by decide) dX9_fund_87 ?_
      refine lv_iload_n hx hb dX9_fund_88 rfl (lv_at hl 1 rfl) ?_
      refine lv_iadd hx hb dX9_fund_89 ?_
      obtain ⟨M12, eM12, hf⟩ := zlet_e hf
      refine x_iastM (j := 1) (a := 1083) eM12 (by decide) hx hb hG hK hP hS zkL_360 zlL_360 (zin_e (by decide)) dX9_fund_90 (fun H locs hP hS => ?_)
      refine lv_aload_n hx hb dX9_fund_91 rfl (lv_at hl 2 rfl) ?_
      refine lv_iload_n hx hb dX9_fund_92 rfl (lv_at hl 3 rfl) ?_
      refine lv_iconst (v := 1) hx hb dX9_fund_93 (by decide) ?_
      refine lv_iload hx hb dX9_fund_94 (lv_at hl 0 rfl) ?_
      obtain ⟨q13, hq13, hf⟩ := zb_e hf
      refine x_callv (x_runV (As := [.int x1, .int 1, .int w8]) (rest := []) ⟨hx, hb, hml, hown, hts⟩ (c_X9_setP l G hG I M12 x1 1 w8 hq13) (cwV 3 hts gX9_fund_X9_setP rfl rfl rfl (by decide +kernel) ⟨Nat.le_of_ble_eq_true rfl, Nat.le_of_ble_eq_true rfl⟩) hK hP zkL_359 (by decide) rfl rfl hl.1 rfl (Nat.le_of_ble_eq_true rfl) dX9_fund_96 ⟨Nat.zero_le _, Nat.zero_le _⟩) hS (fun H locs hP hS => ?_)
      refine lv_iload hx hb dX9_fund_99 (lv_at hl 0 rfl) ?_
      obtain rfl := Option.some.inj hf
      exact x_iret hx hb hr hlocks hK hP hS dX9_fund_101
    · have hf := zif_f c9 hf
      refine lv_bipush (v := (-5)) hx hb dX9_fund_62 (by decide) ?_
      obtain rfl := Option.some.inj hf
      exact x_iret hx hb hr hlocks hK hP hS dX9_fund_64
  unfold f_X9_fund at hf
  refine lv_aload_n hx hb dX9_fund_0 rfl (lv_at hl 0 rfl) ?_
  refine lv_iload_n hx hb dX9_fund_1 rfl (lv_at hl 1 rfl) ?_
  obtain ⟨q1, hq1, hf⟩ := zb_e hf
  refine x_calli (x_runV (As := [.int x1]) (rest := []) ⟨hx, hb, hml, hown, hts⟩ (c_X9_isPerson l G hG I J x1 hq1) (cwV 1 hts gX9_fund_X9_isPerson rfl rfl rfl (by decide +kernel) ⟨Nat.le_of_ble_eq_true rfl, Nat.le_of_ble_eq_true rfl⟩) hK hP zkL_359 (by decide) rfl rfl hl.1 rfl (Nat.le_of_ble_eq_true rfl) dX9_fund_2 ⟨Nat.zero_le _, Nat.zero_le _⟩) hS (fun H locs hP hS => ?_)
  refine lv_if_eq (tgt := 19) hx hb dX9_fund_5 (by decide) (fun c2 => ?_) (fun c2 => ?_)
  · have hf := zif_t c2 hf
    refine lv_iconst (v := (-1)) hx hb dX9_fund_19 (by decide) ?_
    obtain rfl := Option.some.inj hf
    exact x_iret hx hb hr hlocks hK hP hS dX9_fund_20
  · have hf := zif_f c2 hf
    refine lv_iload_n hx hb dX9_fund_8 rfl (lv_at hl 2 rfl) ?_
    refine lv_iconst (v := 1) hx hb dX9_fund_9 (by decide) ?_
    refine lv_sipush (v := 999) hx hb dX9_fund_10 (by decide) ?_
    obtain ⟨q3, hq3, hf⟩ := zb_e hf
    refine x_calli (x_runS (As := [.int x2, .int 1, .int 999]) (rest := []) ⟨hx, hb, hml, hown, hts⟩ (c_X9_in l G hG I J x2 1 999 hq3) (va_cwS 3 hts gX9_fund_X9_in rfl rfl rfl (by decide +kernel) ⟨Nat.le_of_ble_eq_true rfl, Nat.le_of_ble_eq_true rfl⟩) hK hP rfl hl.1 rfl (Nat.le_of_ble_eq_true rfl) dX9_fund_13 ⟨Nat.zero_le _, Nat.zero_le _⟩) hS (fun H locs hP hS => ?_)
    refine lv_if_ne (tgt := 21) hx hb dX9_fund_16 (by decide) (fun c4 => ?_) (fun c4 => ?_)
    · have hf := zif_f c4 hf
      refine lv_aload_n hx hb dX9_fund_21 rfl (lv_at hl 0 rfl) ?_
      refine lv_iload_n hx hb dX9_fund_22 rfl (lv_at hl 1 rfl) ?_
      refine lv_iconst (v := 4) hx hb dX9_fund_23 (by decide) ?_
      obtain ⟨q5, hq5, hf⟩ := zb_e hf
      refine x_calli (x_runV (As := [.int x1, .int 4]) (rest := []) ⟨hx, hb, hml, hown, hts⟩ (c_X9_p l G hG I J x1 4 hq5) (cwV 2 hts gX9_fund_X9_p rfl rfl rfl (by decide +kernel) ⟨Nat.le_of_ble_eq_true rfl, Nat.le_of_ble_eq_true rfl⟩) hK hP zkL_359 (by decide) rfl rfl hl.1 rfl (Nat.le_of_ble_eq_true rfl) dX9_fund_24 ⟨Nat.zero_le _, Nat.zero_le _⟩) hS (fun H locs hP hS => ?_)
      refine lv_iload_n hx hb dX9_fund_27 rfl (lv_at hl 2 rfl) ?_
      refine lv_icmp_ge (tgt := 40) hx hb dX9_fund_28 (by decide) (fun c6 => ?_) (fun c6 => ?_)
      · have hf := zif_t c6 hf
        refine lv_iload_n hx hb dX9_fund_40 rfl (lv_at hl 2 rfl) ?_
        exact J41 J x2 H locs ls hf hP hS (lv_sub hl [0, 1, 2] rfl)
      · have hf := zif_f c6 hf
        refine lv_aload_n hx hb dX9_fund_31 rfl (lv_at hl 0 rfl) ?_
        refine lv_iload_n hx hb dX9_fund_32 rfl (lv_at hl 1 rfl) ?_
        refine lv_iconst (v := 4) hx hb dX9_fund_33 (by decide) ?_
        obtain ⟨q14, hq14, hf⟩ := zb_e hf
        refine x_calli (x_runV (As := [.int x1, .int 4]) (rest := []) ⟨hx, hb, hml, hown, hts⟩ (c_X9_p l G hG I J x1 4 hq14) (cwV 2 hts gX9_fund_X9_p rfl rfl rfl (by decide +kernel) ⟨Nat.le_of_ble_eq_true rfl, Nat.le_of_ble_eq_true rfl⟩) hK hP zkL_359 (by decide) rfl rfl hl.1 rfl (Nat.le_of_ble_eq_true rfl) dX9_fund_34 ⟨Nat.zero_le _, Nat.zero_le _⟩) hS (fun H locs hP hS => ?_)
        refine lv_goto (tgt := 41) hx hb dX9_fund_37 (by decide) ?_
        exact J41 J q14 H locs ls hf hP hS (lv_sub hl [0, 1, 2] rfl)
    · have hf := zif_t c4 hf
      refine lv_iconst (v := (-1)) hx hb dX9_fund_19 (by decide) ?_
      obtain rfl := Option.some.inj hf
      exact x_iret hx hb hr hlocks hK hP hS dX9_fund_20
set_option maxRecDepth 100000 in
set_option maxHeartbeats 4000000 in
theorem c_X9_isHolder (l : Launch) (G : zGT) (hG : zOK G) (I J : zM) (x1 : Int32) {r : Int32} (hf : f_X9_isHolder J x1 = some r) : Met l yX9_isHolder wsX9_isHolder (zrm 1 22) (va_Pc [.ref (G.2.1 359), .int x1] (zS G I J)) (zQi G r I J) 0 0 (zA G) := by
  refine zMet (cc := cX9_isHolder) (n := 2) (ret := (some .boolean)) (by decide) rfl (Nat.le_of_ble_eq_true rfl) ?_
  intro p e s m args below meth c H locs ls F hK hP hS hl
  obtain ⟨hx, hb, hr, hml, hts, hown, hlocks⟩ := F
  have hown : s.vm.findClass RX9 = some m.cls := hown
  have hl : lv_has ls 2 [(0, .ref (G.2.1 359)), (1, .int x1)] := hl
  unfold f_X9_isHolder at hf
  refine lv_iload_n hx hb dX9_isHolder_0 rfl (lv_at hl 1 rfl) ?_
  refine lv_iconst (v := 0) hx hb dX9_isHolder_1 (by decide) ?_
  refine lv_iconst (v := 5) hx hb dX9_isHolder_2 (by decide) ?_
  obtain ⟨q1, hq1, hf⟩ := zb_e hf
  refine x_calli (x_runS (As := [.int x1, .int 0, .int 5]) (rest := []) ⟨hx, hb, hml, hown, hts⟩ (c_X9_in l G hG I J x1 0 5 hq1) (va_cwS 3 hts gX9_isHolder_X9_in rfl rfl rfl (by decide +kernel) ⟨Nat.le_of_ble_eq_true rfl, Nat.le_of_ble_eq_true rfl⟩) hK hP rfl hl.1 rfl (Nat.le_of_ble_eq_true rfl) dX9_isHolder_3 ⟨Nat.zero_le _, Nat.zero_le _⟩) hS (fun H locs hP hS => ?_)
  obtain ⟨h2, hf⟩ := zck_e hf
  obtain rfl := Option.some.inj hf
  exact x_zret (v := q1) (zbo_e h2) hx hb hr hlocks hK hP hS dX9_isHolder_6
set_option maxRecDepth 100000 in
set_option maxHeartbeats 4000000 in
theorem c_X9_hold (l : Launch) (G : zGT) (hG : zOK G) (I J : zM) (x1 : Int32) (x2 : Int32) (x3 : Int32) {r : Int32 × zM} (hf : f_X9_hold J x1 x2 x3 = some r) : Met l yX9_hold wsX9_hold (zrm 2 43) (va_Pc [.ref (G.2.1 359), .int x1, .int x2, .int x3] (zS G I J)) (zQi G r.1 I r.2) 0 0 (zA G) := by
  refine zMet (cc := cX9_hold) (n := 4) (ret := (some .int)) (by decide) rfl (Nat.le_of_ble_eq_true rfl) ?_
  intro p e s m args below meth c H locs ls F hK hP hS hl
  obtain ⟨hx, hb, hr, hml, hts, hown, hlocks⟩ := F
  have hown : s.vm.findClass RX9 = some m.cls := hown
  have hl : lv_has ls 4 [(0, .ref (G.2.1 359)), (1, .int x1), (2, .int x2), (3, .int x3)] := hl
  have hi9 : ∀ w ∈ wsX90, w ∈ wsX9_hold := fun _ h => List.mem_cons_of_mem _ (List.mem_append_right _ h)
  have J45 : ∀ (M : zM) (H : Heap) (locs : List Loc) (ls : Array Slot), f_X9_hold_j45 M x1 x2 x3 = some r → va_P G.1 vwCl (zW G I M) H → va_S (zA G) s.heap H locs → lv_has ls 4 [(0, .ref (G.2.1 359)), (1, .int x1), (2, .int x2), (3, .int x3)] → W p l e (zrm 2 43) s m args below meth c H locs 0 0 (MQ below (zQi G r.1 I r.2) args s 0 0 (zA G)) (F0 m 45 ls []) := by
    intro M H locs ls hf hP hS hl
    unfold f_X9_hold_j45 at hf
    refine lv_aload_n hx hb dX9_hold_45 rfl (lv_at hl 0 rfl) ?_
    refine x_get (j := 9) (v := .ref (G.2.1 366)) hx hb hts hi9 hown hK hP zkL_359 rfl (by decide) (hts (.fieldLink RX9 28 "LeaseOfficeModel" "held" "[I") (by decide +kernel)) rfl (by decide) dX9_hold_46 ?_
    refine lv_iload_n hx hb dX9_hold_49 rfl (lv_at hl 1 rfl) ?_
    refine lv_iload_n hx hb dX9_hold_50 rfl (lv_at hl 2 rfl) ?_
    obtain ⟨h10, hf⟩ := zck_e hf
    obtain ⟨M7, eM7, hf⟩ := zlet_e hf
    refine x_iastM (j := 7) (a := x1.toNatClampNeg) eM7 rfl hx hb hG hK hP hS zkL_366 zlL_366 (zin_e h10) dX9_hold_51 (fun H locs hP hS => ?_)
    refine lv_aload_n hx hb dX9_hold_52 rfl (lv_at hl 0 rfl) ?_
    refine x_get (j := 10) (v := .ref (G.2.1 367)) hx hb hts hi9 hown hK hP zkL_359 rfl (by decide) (hts (.fieldLink RX9 31 "LeaseOfficeModel" "heldNumber" "[I") (by decide +kernel)) rfl (by decide) dX9_hold_53 ?_
    refine lv_iload_n hx hb dX9_hold_56 rfl (lv_at hl 1 rfl) ?_
    refine lv_iload_n hx hb dX9_hold_57 rfl (lv_at hl 3 rfl) ?_
    obtain ⟨h9, hf⟩ := zck_e hf
    obtain ⟨M8, eM8, hf⟩ := zlet_e hf
    refine x_iastM (j := 8) (a := x1.toNatClampNeg) eM8 rfl hx hb hG hK hP hS zkL_367 zlL_367 (zin_e h9) dX9_hold_58 (fun H locs hP hS => ?_)
    refine lv_iconst (v := 1) hx hb dX9_hold_59 (by decide) ?_
    obtain rfl := Option.some.inj hf
    exact x_iret hx hb hr hlocks hK hP hS dX9_hold_60
  have J30 : ∀ (M : zM) (H : Heap) (locs : List Loc) (ls : Array Slot), f_X9_hold_j30 M x1 x2 x3 = some r → va_P G.1 vwCl (zW G I M) H → va_S (zA G) s.heap H locs → lv_has ls 4 [(0, .ref (G.2.1 359)), (1, .int x1), (2, .int x2), (3, .int x3)] → W p l e (zrm 2 43) s m args below meth c H locs 0 0 (MQ below (zQi G r.1 I r.2) args s 0 0 (zA G)) (F0 m 30 ls []) := by
    intro M H locs ls hf hP hS hl
    unfold f_X9_hold_j30 at hf
    refine lv_iload_n hx hb dX9_hold_30 rfl (lv_at hl 2 rfl) ?_
    refine lv_iconst (v := 2) hx hb dX9_hold_31 (by decide) ?_
    refine lv_icmp_ne (tgt := 45) hx hb dX9_hold_32 (by decide) (fun c6 => ?_) (fun c6 => ?_)
    · have hf := zif_f c6 hf
      exact J45 M H locs ls hf hP hS (lv_sub hl [0, 1, 2, 3] rfl)
    · have hf := zif_t c6 hf
      refine lv_aload_n hx hb dX9_hold_35 rfl (lv_at hl 0 rfl) ?_
      refine lv_iload_n hx hb dX9_hold_36 rfl (lv_at hl 3 rfl) ?_
      obtain ⟨q11, hq11, hf⟩ := zb_e hf
      refine x_calli (x_runV (As := [.int x3]) (rest := []) ⟨hx, hb, hml, hown, hts⟩ (c_X9_isTool l G hG I M x3 hq11) (cwV 1 hts gX9_hold_X9_isTool rfl rfl rfl (by decide +kernel) ⟨Nat.le_of_ble_eq_true rfl, Nat.le_of_ble_eq_true rfl⟩) hK hP zkL_359 (by decide) rfl rfl hl.1 rfl (Nat.le_of_ble_eq_true rfl) dX9_hold_37 ⟨Nat.zero_le _, Nat.zero_le _⟩) hS (fun H locs hP hS => ?_)
      refine lv_if_ne (tgt := 45) hx hb dX9_hold_40 (by decide) (fun c12 => ?_) (fun c12 => ?_)
      · have hf := zif_f c12 hf
        exact J45 M H locs ls hf hP hS (lv_sub hl [0, 1, 2, 3] rfl)
      · have hf := zif_t c12 hf
        refine lv_iconst (v := (-1)) hx hb dX9_hold_43 (by decide) ?_
        obtain rfl := Option.some.inj hf
        exact x_iret hx hb hr hlocks hK hP hS dX9_hold_44
  unfold f_X9_hold at hf
  refine lv_aload_n hx hb dX9_hold_0 rfl (lv_at hl 0 rfl) ?_
  refine lv_iload_n hx hb dX9_hold_1 rfl (lv_at hl 1 rfl) ?_
  obtain ⟨q1, hq1, hf⟩ := zb_e hf
  refine x_calli (x_runV (As := [.int x1]) (rest := []) ⟨hx, hb, hml, hown, hts⟩ (c_X9_isHolder l G hG I J x1 hq1) (cwV 1 hts gX9_hold_X9_isHolder rfl rfl rfl (by decide +kernel) ⟨Nat.le_of_ble_eq_true rfl, Nat.le_of_ble_eq_true rfl⟩) hK hP zkL_359 (by decide) rfl rfl hl.1 rfl (Nat.le_of_ble_eq_true rfl) dX9_hold_2 ⟨Nat.zero_le _, Nat.zero_le _⟩) hS (fun H locs hP hS => ?_)
  refine lv_if_eq (tgt := 43) hx hb dX9_hold_5 (by decide) (fun c2 => ?_) (fun c2 => ?_)
  · have hf := zif_t c2 hf
    refine lv_iconst (v := (-1)) hx hb dX9_hold_43 (by decide) ?_
    obtain rfl := Option.some.inj hf
    exact x_iret hx hb hr hlocks hK hP hS dX9_hold_44
  · have hf := zif_f c2 hf
    refine lv_iload_n hx hb dX9_hold_8 rfl (lv_at hl 2 rfl) ?_
    refine lv_iconst (v := 0) hx hb dX9_hold_9 (by decide) ?_
    refine lv_iconst (v := 2) hx hb dX9_hold_10 (by decide) ?_
    obtain ⟨q3, hq3, hf⟩ := zb_e hf
    refine x_calli (x_runS (As := [.int x2, .int 0, .int 2]) (rest := []) ⟨hx, hb, hml, hown, hts⟩ (c_X9_in l G hG I J x2 0 2 hq3) (va_cwS 3 hts gX9_hold_X9_in rfl rfl rfl (by decide +kernel) ⟨Nat.le_of_ble_eq_true rfl, Nat.le_of_ble_eq_true rfl⟩) hK hP rfl hl.1 rfl (Nat.le_of_ble_eq_true rfl) dX9_hold_11 ⟨Nat.zero_le _, Nat.zero_le _⟩) hS (fun H locs hP hS => ?_)
    refine lv_if_eq (tgt := 43) hx hb dX9_hold_14 (by decide) (fun c4 => ?_) (fun c4 => ?_)
    · have hf := zif_t c4 hf
      refine lv_iconst (v := (-1)) hx hb dX9_hold_43 (by decide) ?_
      obtain rfl := Option.some.inj hf
      exact x_iret hx hb hr hlocks hK hP hS dX9_hold_44
    · have hf := zif_f c4 hf
      refine lv_iload_n hx hb dX9_hold_17 rfl (lv_at hl 2 rfl) ?_
      refine lv_iconst (v := 1) hx hb dX9_hold_18 (by decide) ?_
      refine lv_icmp_ne (tgt := 30) hx hb dX9_hold_19 (by decide) (fun c5 => ?_) (fun c5 => ?_)
      · have hf := zif_f c5 hf
        exact J30 J H locs ls hf hP hS (lv_sub hl [0, 1, 2, 3] rfl)
      · have hf := zif_t c5 hf
        refine lv_aload_n hx hb dX9_hold_22 rfl (lv_at hl 0 rfl) ?_
        refine lv_iload_n hx hb dX9_hold_23 rfl (lv_at hl 3 rfl) ?_
        obtain ⟨q13, hq13, hf⟩ := zb_e hf
        refine x_calli (x_runV (As := [.int x3]) (rest := []) ⟨hx, hb, hml, hown, hts⟩ (c_X9_isPerson l G hG I J x3 hq13) (cwV 1 hts gX9_hold_X9_isPerson rfl rfl rfl (by decide +kernel) ⟨Nat.le_of_ble_eq_true rfl, Nat.le_of_ble_eq_true rfl⟩) hK hP zkL_359 (by decide) rfl rfl hl.1 rfl (Nat.le_of_ble_eq_true rfl) dX9_hold_24 ⟨Nat.zero_le _, Nat.zero_le _⟩) hS (fun H locs hP hS => ?_)
        refine lv_if_eq (tgt := 43) hx hb dX9_hold_27 (by decide) (fun c14 => ?_) (fun c14 => ?_)
        · have hf := zif_t c14 hf
          refine lv_iconst (v := (-1)) hx hb dX9_hold_43 (by decide) ?_
          obtain rfl := Option.some.inj hf
          exact x_iret hx hb hr hlocks hK hP hS dX9_hold_44
        · have hf := zif_f c14 hf
          exact J30 J H locs ls hf hP hS (lv_sub hl [0, 1, 2, 3] rfl)
set_option maxRecDepth 100000 in
set_option maxHeartbeats 4000000 in
theorem c_X9_image (l : Launch) (G : zGT) (hG : zOK G) (I J : zM) {r : Int32 × zM} (hf : f_X9_image J = some r) : Met l yX9_image wsX9_image (zrm 1 22) (va_Pc [.ref (G.2.1 359)] (zS G I J)) (zQi G r.1 I r.2) 0 0 (zA G) := by
  refine zMet (cc := cX9_image) (n := 1) (ret := (some .int)) (by decide) rfl (Nat.le_of_ble_eq_true rfl) ?_
  intro p e s m args below meth c H locs ls F hK hP hS hl
  obtain ⟨hx, hb, hr, hml, hts, hown, hlocks⟩ := F
  have hown : s.vm.findClass RX9 = some m.cls := hown
  have hl : lv_has ls 1 [(0, .ref (G.2.1 359))] := hl
  have hi9 : ∀ w ∈ wsX90, w ∈ wsX9_image := fun _ h => List.mem_cons_of_mem _ (List.mem_append_right _ h)
  unfold f_X9_image at hf
  refine lv_aload_n hx hb dX9_image_0 rfl (lv_at hl 0 rfl) ?_
  refine x_get (j := 0) (v := .ref (G.2.1 360)) hx hb hts hi9 hown hK hP zkL_359 rfl (by decide) (hts (.fieldLink RX9 9 "LeaseOfficeModel" "g" "[I") (by decide +kernel)) rfl (by decide) dX9_image_1 ?_
  refine lv_aload_n hx hb dX9_image_4 rfl (lv_at hl 0 rfl) ?_
  refine x_get (j := 3) (v := .ref (G.2.1 363)) hx hb hts hi9 hown hK hP zkL_359 rfl (by decide) (hts (.fieldLink RX9 19 "LeaseOfficeModel" "kept" "[I") (by decide +kernel)) rfl (by decide) dX9_image_5 ?_
  obtain ⟨q1, hq1, hf⟩ := zb_e hf
  refine x_callv (x_runS (As := [.ref (G.2.1 360), .ref (G.2.1 363)]) (rest := []) ⟨hx, hb, hml, hown, hts⟩ (c_X9_take l G hG I J 1 4 (by decide) (by decide) hq1) (va_cwS 2 hts gX9_image_X9_take rfl rfl rfl (by decide +kernel) ⟨Nat.le_of_ble_eq_true rfl, Nat.le_of_ble_eq_true rfl⟩) hK hP rfl hl.1 rfl (Nat.le_of_ble_eq_true rfl) dX9_image_8 ⟨Nat.zero_le _, Nat.zero_le _⟩) hS (fun H locs hP hS => ?_)
  refine lv_aload_n hx hb dX9_image_11 rfl (lv_at hl 0 rfl) ?_
  refine lv_iconst (v := 1) hx hb dX9_image_12 (by decide) ?_
  obtain ⟨M2, eM2, hf⟩ := zlet_e hf
  refine x_put (j := 4) (I2 := I) (J2 := M2) (ty0 := tyX9) (ty := .boolean) hx hb hts hi9 hown hG hK hP hS zkL_359 rfl tyX9_ok nmX9 (by decide) (hts (.fieldLink RX9 275 "LeaseOfficeModel" "isKept" "Z") (by decide +kernel)) rfl (by decide +kernel) rfl rfl (Nat.le_of_ble_eq_true rfl) (by rw [eM2]; exact zs_9_4 _) (by rw [eM2]; exact zo_M (k := 0)) (by decide) dX9_image_13 (fun H locs hP hS => ?_)
  refine lv_aload_n hx hb dX9_image_16 rfl (lv_at hl 0 rfl) ?_
  refine x_get (j := 0) (v := .ref (G.2.1 360)) hx hb hts hi9 hown hK hP zkL_359 rfl (by decide) (hts (.fieldLink RX9 9 "LeaseOfficeModel" "g" "[I") (by decide +kernel)) rfl (by decide) dX9_image_17 ?_
  refine lv_sipush (v := 1082) hx hb dX9_image_20 (by decide) ?_
  refine x_ialdL (j := 1082) hx hb hK hP (zK_lt zkL_360 (by decide)) (zE_15 (j := 1) zkL_360 zlL_360 rfl) (by decide) (by decide) dX9_image_23 ?_
  obtain rfl := Option.some.inj hf
  exact x_iret hx hb hr hlocks hK hP hS dX9_image_24
set_option maxRecDepth 100000 in
set_option maxHeartbeats 4000000 in
theorem c_X9_spread (l : Launch) (G : zGT) (hG : zOK G) (I J : zM) (x0 : Int32) {r : Int32} (hf : f_X9_spread J x0 = some r) : Met l yX9_spread wsX9_spread (zrm 0 0) (va_Pc [.int x0] (zS G I J)) (zQi G r I J) 0 0 (zA G) := by
  refine zMet (cc := cX9_spread) (n := 1) (ret := (some .int)) (by decide) rfl (Nat.le_of_ble_eq_true rfl) ?_
  intro p e s m args below meth c H locs ls F hK hP hS hl
  obtain ⟨hx, hb, hr, hml, hts, hown, hlocks⟩ := F
  have hown : s.vm.findClass RX9 = some m.cls := hown
  have hl : lv_has ls 1 [(0, .int x0)] := hl
  unfold f_X9_spread at hf
  refine lv_iload_n hx hb dX9_spread_0 rfl (lv_at hl 0 rfl) ?_
  refine lv_bipush (v := 27) hx hb dX9_spread_1 (by decide) ?_
  refine lv_icmp_ge (tgt := 14) hx hb dX9_spread_3 (by decide) (fun c1 => ?_) (fun c1 => ?_)
  · have hf := zif_t c1 hf
    refine lv_iload_n hx hb dX9_spread_14 rfl (lv_at hl 0 rfl) ?_
    refine lv_sipush (v := 729) hx hb dX9_spread_15 (by decide) ?_
    refine lv_icmp_ge (tgt := 28) hx hb dX9_spread_18 (by decide) (fun c2 => ?_) (fun c2 => ?_)
    · have hf := zif_t c2 hf
      refine lv_iload_n hx hb dX9_spread_28 rfl (lv_at hl 0 rfl) ?_
      obtain rfl := Option.some.inj hf
      exact x_iret hx hb hr hlocks hK hP hS dX9_spread_29
    · have hf := zif_f c2 hf
      refine lv_iload_n hx hb dX9_spread_21 rfl (lv_at hl 0 rfl) ?_
      refine lv_bipush (v := 27) hx hb dX9_spread_22 (by decide) ?_
      refine lv_imul hx hb dX9_spread_24 ?_
      refine lv_goto (tgt := 29) hx hb dX9_spread_25 (by decide) ?_
      obtain rfl := Option.some.inj hf
      exact x_iret hx hb hr hlocks hK hP hS dX9_spread_29
  · have hf := zif_f c1 hf
    refine lv_iload_n hx hb dX9_spread_6 rfl (lv_at hl 0 rfl) ?_
    refine lv_sipush (v := 729) hx hb dX9_spread_7 (by decide) ?_
    refine lv_imul hx hb dX9_spread_10 ?_
    refine lv_goto (tgt := 29) hx hb dX9_spread_11 (by decide) ?_
    obtain rfl := Option.some.inj hf
    exact x_iret hx hb hr hlocks hK hP hS dX9_spread_29
set_option maxRecDepth 100000 in
set_option maxHeartbeats 4000000 in
theorem c_X9_isAhead (l : Launch) (G : zGT) (hG : zOK G) (I J : zM) (x1 : Int32) (x2 : Int32) {r : Int32} (hf : f_X9_isAhead J x1 x2 = some r) : Met l yX9_isAhead wsX9_isAhead (zrm 1 22) (va_Pc [.ref (G.2.1 359), .int x1, .int x2] (zS G I J)) (zQi G r I J) 0 0 (zA G) := by
  refine zMet (cc := cX9_isAhead) (n := 3) (ret := (some .boolean)) (by decide) rfl (Nat.le_of_ble_eq_true rfl) ?_
  intro p e s m args below meth c H locs ls F hK hP hS hl
  obtain ⟨hx, hb, hr, hml, hts, hown, hlocks⟩ := F
  have hown : s.vm.findClass RX9 = some m.cls := hown
  have hl : lv_has ls 3 [(0, .ref (G.2.1 359)), (1, .int x1), (2, .int x2)] := hl
  unfold f_X9_isAhead at hf
  refine lv_aload_n hx hb dX9_isAhead_0 rfl (lv_at hl 0 rfl) ?_
  refine lv_iload_n hx hb dX9_isAhead_1 rfl (lv_at hl 1 rfl) ?_
  refine lv_iconst (v := 2) hx hb dX9_isAhead_2 (by decide) ?_
  obtain ⟨q1, hq1, hf⟩ := zb_e hf
  refine x_calli (x_runV (As := [.int x1, .int 2]) (rest := []) ⟨hx, hb, hml, hown, hts⟩ (c_X9_p l G hG I J x1 2 hq1) (cwV 2 hts gX9_isAhead_X9_p rfl rfl rfl (by decide +kernel) ⟨Nat.le_of_ble_eq_true rfl, Nat.le_of_ble_eq_true rfl⟩) hK hP zkL_359 (by decide) rfl rfl hl.1 rfl (Nat.le_of_ble_eq_true rfl) dX9_isAhead_3 ⟨Nat.zero_le _, Nat.zero_le _⟩) hS (fun H locs hP hS => ?_)
  refine lv_aload_n hx hb dX9_isAhead_6 rfl (lv_at hl 0 rfl) ?_
  refine lv_iload_n hx hb dX9_isAhead_7 rfl (lv_at hl 2 rfl) ?_
  refine lv_iconst (v := 2) hx hb dX9_isAhead_8 (by decide) ?_
  obtain ⟨q2, hq2, hf⟩ := zb_e hf
  refine x_calli (x_runV (As := [.int x2, .int 2]) (rest := [.int q1]) ⟨hx, hb, hml, hown, hts⟩ (c_X9_p l G hG I J x2 2 hq2) (cwV 2 hts gX9_isAhead_X9_p rfl rfl rfl (by decide +kernel) ⟨Nat.le_of_ble_eq_true rfl, Nat.le_of_ble_eq_true rfl⟩) hK hP zkL_359 (by decide) rfl rfl hl.1 rfl (Nat.le_of_ble_eq_true rfl) dX9_isAhead_9 ⟨Nat.zero_le _, Nat.zero_le _⟩) hS (fun H locs hP hS => ?_)
  refine lv_icmp_eq (tgt := 36) hx hb dX9_isAhead_12 (by decide) (fun c3 => ?_) (fun c3 => ?_)
  · have hf := zif_t c3 hf
    refine lv_aload_n hx hb dX9_isAhead_36 rfl (lv_at hl 0 rfl) ?_
    refine lv_iload_n hx hb dX9_isAhead_37 rfl (lv_at hl 1 rfl) ?_
    refine lv_iconst (v := 3) hx hb dX9_isAhead_38 (by decide) ?_
    obtain ⟨q4, hq4, hf⟩ := zb_e hf
    refine x_calli (x_runV (As := [.int x1, .int 3]) (rest := []) ⟨hx, hb, hml, hown, hts⟩ (c_X9_p l G hG I J x1 3 hq4) (cwV 2 hts gX9_isAhead_X9_p rfl rfl rfl (by decide +kernel) ⟨Nat.le_of_ble_eq_true rfl, Nat.le_of_ble_eq_true rfl⟩) hK hP zkL_359 (by decide) rfl rfl hl.1 rfl (Nat.le_of_ble_eq_true rfl) dX9_isAhead_39 ⟨Nat.zero_le _, Nat.zero_le _⟩) hS (fun H locs hP hS => ?_)
    refine lv_aload_n hx hb dX9_isAhead_42 rfl (lv_at hl 0 rfl) ?_
    refine lv_iload_n hx hb dX9_isAhead_43 rfl (lv_at hl 2 rfl) ?_
    refine lv_iconst (v := 3) hx hb dX9_isAhead_44 (by decide) ?_
    obtain ⟨q5, hq5, hf⟩ := zb_e hf
    refine x_calli (x_runV (As := [.int x2, .int 3]) (rest := [.int q4]) ⟨hx, hb, hml, hown, hts⟩ (c_X9_p l G hG I J x2 3 hq5) (cwV 2 hts gX9_isAhead_X9_p rfl rfl rfl (by decide +kernel) ⟨Nat.le_of_ble_eq_true rfl, Nat.le_of_ble_eq_true rfl⟩) hK hP zkL_359 (by decide) rfl rfl hl.1 rfl (Nat.le_of_ble_eq_true rfl) dX9_isAhead_45 ⟨Nat.zero_le _, Nat.zero_le _⟩) hS (fun H locs hP hS => ?_)
    refine lv_icmp_eq (tgt := 72) hx hb dX9_isAhead_48 (by decide) (fun c6 => ?_) (fun c6 => ?_)
    · have hf := zif_t c6 hf
      refine lv_aload_n hx hb dX9_isAhead_72 rfl (lv_at hl 0 rfl) ?_
      refine lv_iload_n hx hb dX9_isAhead_73 rfl (lv_at hl 1 rfl) ?_
      refine lv_iconst (v := 0) hx hb dX9_isAhead_74 (by decide) ?_
      obtain ⟨q7, hq7, hf⟩ := zb_e hf
      refine x_calli (x_runV (As := [.int x1, .int 0]) (rest := []) ⟨hx, hb, hml, hown, hts⟩ (c_X9_p l G hG I J x1 0 hq7) (cwV 2 hts gX9_isAhead_X9_p rfl rfl rfl (by decide +kernel) ⟨Nat.le_of_ble_eq_true rfl, Nat.le_of_ble_eq_true rfl⟩) hK hP zkL_359 (by decide) rfl rfl hl.1 rfl (Nat.le_of_ble_eq_true rfl) dX9_isAhead_75 ⟨Nat.zero_le _, Nat.zero_le _⟩) hS (fun H locs hP hS => ?_)
      obtain ⟨q8, hq8, hf⟩ := zb_e hf
      refine x_calli (x_runS (As := [.int q7]) (rest := []) ⟨hx, hb, hml, hown, hts⟩ (c_X9_spread l G hG I J q7 hq8) (va_cwS 1 hts gX9_isAhead_X9_spread rfl rfl rfl (by decide +kernel) ⟨Nat.le_of_ble_eq_true rfl, Nat.le_of_ble_eq_true rfl⟩) hK hP rfl hl.1 rfl (Nat.le_of_ble_eq_true rfl) dX9_isAhead_78 ⟨Nat.zero_le _, Nat.zero_le _⟩) hS (fun H locs hP hS => ?_)
      refine lv_aload_n hx hb dX9_isAhead_81 rfl (lv_at hl 0 rfl) ?_
      refine lv_iload_n hx hb dX9_isAhead_82 rfl (lv_at hl 2 rfl) ?_
      refine lv_iconst (v := 0) hx hb dX9_isAhead_83 (by decide) ?_
      obtain ⟨q9, hq9, hf⟩ := zb_e hf
      refine x_calli (x_runV (As := [.int x2, .int 0]) (rest := [.int q8]) ⟨hx, hb, hml, hown, hts⟩ (c_X9_p l G hG I J x2 0 hq9) (cwV 2 hts gX9_isAhead_X9_p rfl rfl rfl (by decide +kernel) ⟨Nat.le_of_ble_eq_true rfl, Nat.le_of_ble_eq_true rfl⟩) hK hP zkL_359 (by decide) rfl rfl hl.1 rfl (Nat.le_of_ble_eq_true rfl) dX9_isAhead_84 ⟨Nat.zero_le _, Nat.zero_le _⟩) hS (fun H locs hP hS => ?_)
      obtain ⟨q10, hq10, hf⟩ := zb_e hf
      refine x_calli (x_runS (As := [.int q9]) (rest := [.int q8]) ⟨hx, hb, hml, hown, hts⟩ (c_X9_spread l G hG I J q9 hq10) (va_cwS 1 hts gX9_isAhead_X9_spread rfl rfl rfl (by decide +kernel) ⟨Nat.le_of_ble_eq_true rfl, Nat.le_of_ble_eq_true rfl⟩) hK hP rfl hl.1 rfl (Nat.le_of_ble_eq_true rfl) dX9_isAhead_87 ⟨Nat.zero_le _, Nat.zero_le _⟩) hS (fun H locs hP hS => ?_)
      refine lv_icmp_ge (tgt := 97) hx hb dX9_isAhead_90 (by decide) (fun c11 => ?_) (fun c11 => ?_)
      · have hf := zif_t c11 hf
        refine lv_iconst (v := 0) hx hb dX9_isAhead_97 (by decide) ?_
        obtain rfl := Option.some.inj hf
        exact x_zret (v := 0) rfl hx hb hr hlocks hK hP hS dX9_isAhead_98
      · have hf := zif_f c11 hf
        refine lv_iconst (v := 1) hx hb dX9_isAhead_93 (by decide) ?_
        refine lv_goto (tgt := 98) hx hb dX9_isAhead_94 (by decide) ?_
        obtain rfl := Option.some.inj hf
        exact x_zret (v := 1) rfl hx hb hr hlocks hK hP hS dX9_isAhead_98
    · have hf := zif_f c6 hf
      refine lv_aload_n hx hb dX9_isAhead_51 rfl (lv_at hl 0 rfl) ?_
      refine lv_iload_n hx hb dX9_isAhead_52 rfl (lv_at hl 1 rfl) ?_
      refine lv_iconst (v := 3) hx hb dX9_isAhead_53 (by decide) ?_
      obtain ⟨q12, hq12, hf⟩ := zb_e hf
      refine x_calli (x_runV (As := [.int x1, .int 3]) (rest := []) ⟨hx, hb, hml, hown, hts⟩ (c_X9_p l G hG I J x1 3 hq12) (cwV 2 hts gX9_isAhead_X9_p rfl rfl rfl (by decide +kernel) ⟨Nat.le_of_ble_eq_true rfl, Nat.le_of_ble_eq_true rfl⟩) hK hP zkL_359 (by decide) rfl rfl hl.1 rfl (Nat.le_of_ble_eq_true rfl) dX9_isAhead_54 ⟨Nat.zero_le _, Nat.zero_le _⟩) hS (fun H locs hP hS => ?_)
      refine lv_aload_n hx hb dX9_isAhead_57 rfl (lv_at hl 0 rfl) ?_
      refine lv_iload_n hx hb dX9_isAhead_58 rfl (lv_at hl 2 rfl) ?_
      refine lv_iconst (v := 3) hx hb dX9_isAhead_59 (by decide) ?_
      obtain ⟨q13, hq13, hf⟩ := zb_e hf
      refine x_calli (x_runV (As := [.int x2, .int 3]) (rest := [.int q12]) ⟨hx, hb, hml, hown, hts⟩ (c_X9_p l G hG I J x2 3 hq13) (cwV 2 hts gX9_isAhead_X9_p rfl rfl rfl (by decide +kernel) ⟨Nat.le_of_ble_eq_true rfl, Nat.le_of_ble_eq_true rfl⟩) hK hP zkL_359 (by decide) rfl rfl hl.1 rfl (Nat.le_of_ble_eq_true rfl) dX9_isAhead_60 ⟨Nat.zero_le _, Nat.zero_le _⟩) hS (fun H locs hP hS => ?_)
      refine lv_icmp_ge (tgt := 70) hx hb dX9_isAhead_63 (by decide) (fun c14 => ?_) (fun c14 => ?_)
      · have hf := zif_t c14 hf
        refine lv_iconst (v := 0) hx hb dX9_isAhead_70 (by decide) ?_
        obtain rfl := Option.some.inj hf
        exact x_zret (v := 0) rfl hx hb hr hlocks hK hP hS dX9_isAhead_71
      · have hf := zif_f c14 hf
        refine lv_iconst (v := 1) hx hb dX9_isAhead_66 (by decide) ?_
        refine lv_goto (tgt := 71) hx hb dX9_isAhead_67 (by decide) ?_
        obtain rfl := Option.some.inj hf
        exact x_zret (v := 1) rfl hx hb hr hlocks hK hP hS dX9_isAhead_71
  · have hf := zif_f c3 hf
    refine lv_aload_n hx hb dX9_isAhead_15 rfl (lv_at hl 0 rfl) ?_
    refine lv_iload_n hx hb dX9_isAhead_16 rfl (lv_at hl 1 rfl) ?_
    refine lv_iconst (v := 2) hx hb dX9_isAhead_17 (by decide) ?_
    obtain ⟨q15, hq15, hf⟩ := zb_e hf
    refine x_calli (x_runV (As := [.int x1, .int 2]) (rest := []) ⟨hx, hb, hml, hown, hts⟩ (c_X9_p l G hG I J x1 2 hq15) (cwV 2 hts gX9_isAhead_X9_p rfl rfl rfl (by decide +kernel) ⟨Nat.le_of_ble_eq_true rfl, Nat.le_of_ble_eq_true rfl⟩) hK hP zkL_359 (by decide) rfl rfl hl.1 rfl (Nat.le_of_ble_eq_true rfl) dX9_isAhead_18 ⟨Nat.zero_le _, Nat.zero_le _⟩) hS (fun H locs hP hS => ?_)
    refine lv_aload_n hx hb dX9_isAhead_21 rfl (lv_at hl 0 rfl) ?_
    refine lv_iload_n hx hb dX9_isAhead_22 rfl (lv_at hl 2 rfl) ?_
    refine lv_iconst (v := 2) hx hb dX9_isAhead_23 (by decide) ?_
    obtain ⟨q16, hq16, hf⟩ := zb_e hf
    refine x_calli (x_runV (As := [.int x2, .int 2]) (rest := [.int q15]) ⟨hx, hb, hml, hown, hts⟩ (c_X9_p l G hG I J x2 2 hq16) (cwV 2 hts gX9_isAhead_X9_p rfl rfl rfl (by decide +kernel) ⟨Nat.le_of_ble_eq_true rfl, Nat.le_of_ble_eq_true rfl⟩) hK hP zkL_359 (by decide) rfl rfl hl.1 rfl (Nat.le_of_ble_eq_true rfl) dX9_isAhead_24 ⟨Nat.zero_le _, Nat.zero_le _⟩) hS (fun H locs hP hS => ?_)
    refine lv_icmp_le (tgt := 34) hx hb dX9_isAhead_27 (by decide) (fun c17 => ?_) (fun c17 => ?_)
    · have hf := zif_t c17 hf
      refine lv_iconst (v := 0) hx hb dX9_isAhead_34 (by decide) ?_
      obtain rfl := Option.some.inj hf
      exact x_zret (v := 0) rfl hx hb hr hlocks hK hP hS dX9_isAhead_35
    · have hf := zif_f c17 hf
      refine lv_iconst (v := 1) hx hb dX9_isAhead_30 (by decide) ?_
      refine lv_goto (tgt := 35) hx hb dX9_isAhead_31 (by decide) ?_
      obtain rfl := Option.some.inj hf
      exact x_zret (v := 1) rfl hx hb hr hlocks hK hP hS dX9_isAhead_35
set_option maxRecDepth 100000 in
set_option maxHeartbeats 4000000 in
theorem c_X9_partsOf (l : Launch) (G : zGT) (hG : zOK G) (I J : zM) (x0 : Int32) {r : Int32} (hf : f_X9_partsOf J x0 = some r) : Met l yX9_partsOf wsX9_partsOf (zrm 0 0) (va_Pc [.int x0] (zS G I J)) (zQi G r I J) 0 0 (zA G) := by
  refine zMet (cc := cX9_partsOf) (n := 1) (ret := (some .int)) (by decide) rfl (Nat.le_of_ble_eq_true rfl) ?_
  intro p e s m args below meth c H locs ls F hK hP hS hl
  obtain ⟨hx, hb, hr, hml, hts, hown, hlocks⟩ := F
  have hown : s.vm.findClass RX9 = some m.cls := hown
  have hl : lv_has ls 1 [(0, .int x0)] := hl
  unfold f_X9_partsOf at hf
  refine lv_iload_n hx hb dX9_partsOf_0 rfl (lv_at hl 0 rfl) ?_
  rcases Classical.em (x0 = 99) with c1 | c1
  · have hf := zif_t c1 hf
    refine lv_tableIn (off := 99) (tgt := 100) hx hb dX9_partsOf_1 (by rw [c1]; decide) (by rw [c1]; decide) (by rw [c1]; decide) (by decide) ?_
    refine lv_iconst (v := 4) hx hb dX9_partsOf_100 (by decide) ?_
    obtain rfl := Option.some.inj hf
    exact x_iret hx hb hr hlocks hK hP hS dX9_partsOf_101
  · have hf := zif_f c1 hf
    rcases Classical.em (x0 = 100) with c2 | c2
    · have hf := zif_t c2 hf
      refine lv_tableIn (off := 105) (tgt := 106) hx hb dX9_partsOf_1 (by rw [c2]; decide) (by rw [c2]; decide) (by rw [c2]; decide) (by decide) ?_
      refine lv_iconst (v := 1) hx hb dX9_partsOf_106 (by decide) ?_
      obtain rfl := Option.some.inj hf
      exact x_iret hx hb hr hlocks hK hP hS dX9_partsOf_107
    · have hf := zif_f c2 hf
      rcases Classical.em (x0 = 103) with c3 | c3
      · have hf := zif_t c3 hf
        refine lv_tableIn (off := 103) (tgt := 104) hx hb dX9_partsOf_1 (by rw [c3]; decide) (by rw [c3]; decide) (by rw [c3]; decide) (by decide) ?_
        refine lv_iconst (v := 2) hx hb dX9_partsOf_104 (by decide) ?_
        obtain rfl := Option.some.inj hf
        exact x_iret hx hb hr hlocks hK hP hS dX9_partsOf_105
      · have hf := zif_f c3 hf
        rcases Classical.em (x0 = 107) with c4 | c4
        · have hf := zif_t c4 hf
          refine lv_tableIn (off := 105) (tgt := 106) hx hb dX9_partsOf_1 (by rw [c4]; decide) (by rw [c4]; decide) (by rw [c4]; decide) (by decide) ?_
          refine lv_iconst (v := 1) hx hb dX9_partsOf_106 (by decide) ?_
          obtain rfl := Option.some.inj hf
          exact x_iret hx hb hr hlocks hK hP hS dX9_partsOf_107
        · have hf := zif_f c4 hf
          rcases Classical.em (x0 = 108) with c5 | c5
          · have hf := zif_t c5 hf
            refine lv_tableIn (off := 101) (tgt := 102) hx hb dX9_partsOf_1 (by rw [c5]; decide) (by rw [c5]; decide) (by rw [c5]; decide) (by decide) ?_
            refine lv_iconst (v := 3) hx hb dX9_partsOf_102 (by decide) ?_
            obtain rfl := Option.some.inj hf
            exact x_iret hx hb hr hlocks hK hP hS dX9_partsOf_103
          · have hf := zif_f c5 hf
            rcases Classical.em (x0 = 112) with c6 | c6
            · have hf := zif_t c6 hf
              refine lv_tableIn (off := 103) (tgt := 104) hx hb dX9_partsOf_1 (by rw [c6]; decide) (by rw [c6]; decide) (by rw [c6]; decide) (by decide) ?_
              refine lv_iconst (v := 2) hx hb dX9_partsOf_104 (by decide) ?_
              obtain rfl := Option.some.inj hf
              exact x_iret hx hb hr hlocks hK hP hS dX9_partsOf_105
            · have hf := zif_f c6 hf
              rcases Classical.em (x0 = 114) with c7 | c7
              · have hf := zif_t c7 hf
                refine lv_tableIn (off := 105) (tgt := 106) hx hb dX9_partsOf_1 (by rw [c7]; decide) (by rw [c7]; decide) (by rw [c7]; decide) (by decide) ?_
                refine lv_iconst (v := 1) hx hb dX9_partsOf_106 (by decide) ?_
                obtain rfl := Option.some.inj hf
                exact x_iret hx hb hr hlocks hK hP hS dX9_partsOf_107
              · have hf := zif_f c7 hf
                rcases Classical.em (x0 = 115) with c8 | c8
                · have hf := zif_t c8 hf
                  refine lv_tableIn (off := 103) (tgt := 104) hx hb dX9_partsOf_1 (by rw [c8]; decide) (by rw [c8]; decide) (by rw [c8]; decide) (by decide) ?_
                  refine lv_iconst (v := 2) hx hb dX9_partsOf_104 (by decide) ?_
                  obtain rfl := Option.some.inj hf
                  exact x_iret hx hb hr hlocks hK hP hS dX9_partsOf_105
                · have hf := zif_f c8 hf
                  rcases Classical.em (x0 = 116) with c9 | c9
                  · have hf := zif_t c9 hf
                    refine lv_tableIn (off := 105) (tgt := 106) hx hb dX9_partsOf_1 (by rw [c9]; decide) (by rw [c9]; decide) (by rw [c9]; decide) (by decide) ?_
                    refine lv_iconst (v := 1) hx hb dX9_partsOf_106 (by decide) ?_
                    obtain rfl := Option.some.inj hf
                    exact x_iret hx hb hr hlocks hK hP hS dX9_partsOf_107
                  · have hf := zif_f c9 hf
                    rcases Classical.em (x0 = 117) with c10 | c10
                    · have hf := zif_t c10 hf
                      refine lv_tableIn (off := 103) (tgt := 104) hx hb dX9_partsOf_1 (by rw [c10]; decide) (by rw [c10]; decide) (by rw [c10]; decide) (by decide) ?_
                      refine lv_iconst (v := 2) hx hb dX9_partsOf_104 (by decide) ?_
                      obtain rfl := Option.some.inj hf
                      exact x_iret hx hb hr hlocks hK hP hS dX9_partsOf_105
                    · have hf := zif_f c10 hf
                      rcases Classical.em (x0 = 119) with c11 | c11
                      · have hf := zif_t c11 hf
                        refine lv_tableIn (off := 101) (tgt := 102) hx hb dX9_partsOf_1 (by rw [c11]; decide) (by rw [c11]; decide) (by rw [c11]; decide) (by decide) ?_
                        refine lv_iconst (v := 3) hx hb dX9_partsOf_102 (by decide) ?_
                        obtain rfl := Option.some.inj hf
                        exact x_iret hx hb hr hlocks hK hP hS dX9_partsOf_103
                      · have hf := zif_f c11 hf
                        have hD : W p l e (zrm 0 0) s m args below meth c H locs 0 0 (MQ below (zQi G r I J) args s 0 0 (zA G)) (F0 m 108 ls []) := by
                          refine lv_bipush (v := (-2)) hx hb dX9_partsOf_108 (by decide) ?_
                          obtain rfl := Option.some.inj hf
                          exact x_iret hx hb hr hlocks hK hP hS dX9_partsOf_110
                        rcases z_sw x0 99 119 21 (by decide) with h | ⟨k, hk, e⟩
                        · exact lv_tableOut hx hb dX9_partsOf_1 h (by decide) hD
                        · match k, hk, e with
                          | 0, _, e => exact absurd (e.trans (by decide)) c1
                          | 1, _, e => exact absurd (e.trans (by decide)) c2
                          | 2, _, e => exact lv_tableIn (off := 107) (tgt := 108) hx hb dX9_partsOf_1 (by rw [e]; decide) (by rw [e]; decide) (by rw [e]; decide) (by decide) hD
                          | 3, _, e => exact lv_tableIn (off := 107) (tgt := 108) hx hb dX9_partsOf_1 (by rw [e]; decide) (by rw [e]; decide) (by rw [e]; decide) (by decide) hD
                          | 4, _, e => exact absurd (e.trans (by decide)) c3
                          | 5, _, e => exact lv_tableIn (off := 107) (tgt := 108) hx hb dX9_partsOf_1 (by rw [e]; decide) (by rw [e]; decide) (by rw [e]; decide) (by decide) hD
                          | 6, _, e => exact lv_tableIn (off := 107) (tgt := 108) hx hb dX9_partsOf_1 (by rw [e]; decide) (by rw [e]; decide) (by rw [e]; decide) (by decide) hD
                          | 7, _, e => exact lv_tableIn (off := 107) (tgt := 108) hx hb dX9_partsOf_1 (by rw [e]; decide) (by rw [e]; decide) (by rw [e]; decide) (by decide) hD
                          | 8, _, e => exact absurd (e.trans (by decide)) c4
                          | 9, _, e => exact absurd (e.trans (by decide)) c5
                          | 10, _, e => exact lv_tableIn (off := 107) (tgt := 108) hx hb dX9_partsOf_1 (by rw [e]; decide) (by rw [e]; decide) (by rw [e]; decide) (by decide) hD
                          | 11, _, e => exact lv_tableIn (off := 107) (tgt := 108) hx hb dX9_partsOf_1 (by rw [e]; decide) (by rw [e]; decide) (by rw [e]; decide) (by decide) hD
                          | 12, _, e => exact lv_tableIn (off := 107) (tgt := 108) hx hb dX9_partsOf_1 (by rw [e]; decide) (by rw [e]; decide) (by rw [e]; decide) (by decide) hD
                          | 13, _, e => exact absurd (e.trans (by decide)) c6
                          | 14, _, e => exact lv_tableIn (off := 107) (tgt := 108) hx hb dX9_partsOf_1 (by rw [e]; decide) (by rw [e]; decide) (by rw [e]; decide) (by decide) hD
                          | 15, _, e => exact absurd (e.trans (by decide)) c7
                          | 16, _, e => exact absurd (e.trans (by decide)) c8
                          | 17, _, e => exact absurd (e.trans (by decide)) c9
                          | 18, _, e => exact absurd (e.trans (by decide)) c10
                          | 19, _, e => exact lv_tableIn (off := 107) (tgt := 108) hx hb dX9_partsOf_1 (by rw [e]; decide) (by rw [e]; decide) (by rw [e]; decide) (by decide) hD
                          | 20, _, e => exact absurd (e.trans (by decide)) c11
                          | _ + 21, hk, _ => exact absurd hk (by omega)
set_option maxRecDepth 100000 in
set_option maxHeartbeats 4000000 in
theorem c_X9_sees (l : Launch) (G : zGT) (hG : zOK G) (I J : zM) (x1 : Int32) (x2 : Int32) {r : Int32} (hf : f_X9_sees J x1 x2 = some r) : Met l yX9_sees wsX9_sees (zrm 1 22) (va_Pc [.ref (G.2.1 359), .int x1, .int x2] (zS G I J)) (zQi G r I J) 0 0 (zA G) := by
  refine zMet (cc := cX9_sees) (n := 3) (ret := (some .boolean)) (by decide) rfl (Nat.le_of_ble_eq_true rfl) ?_
  intro p e s m args below meth c H locs ls F hK hP hS hl
  obtain ⟨hx, hb, hr, hml, hts, hown, hlocks⟩ := F
  have hown : s.vm.findClass RX9 = some m.cls := hown
  have hl : lv_has ls 3 [(0, .ref (G.2.1 359)), (1, .int x1), (2, .int x2)] := hl
  have hi9 : ∀ w ∈ wsX90, w ∈ wsX9_sees := fun _ h => List.mem_cons_of_mem _ (List.mem_append_right _ h)
  unfold f_X9_sees at hf
  refine lv_aload_n hx hb dX9_sees_0 rfl (lv_at hl 0 rfl) ?_
  refine x_get (j := 14) (v := .int (J 0 14)) hx hb hts hi9 hown hK hP zkL_359 rfl (by decide) (hts (.fieldLink RX9 211 "LeaseOfficeModel" "fault" "I") (by decide +kernel)) rfl (by decide) dX9_sees_1 ?_
  refine lv_if_ge (tgt := 39) hx hb dX9_sees_4 (by decide) (fun c1 => ?_) (fun c1 => ?_)
  · have hf := zif_t c1 hf
    refine lv_iconst (v := 0) hx hb dX9_sees_39 (by decide) ?_
    obtain rfl := Option.some.inj hf
    exact x_zret (v := 0) rfl hx hb hr hlocks hK hP hS dX9_sees_40
  · have hf := zif_f c1 hf
    refine lv_aload_n hx hb dX9_sees_7 rfl (lv_at hl 0 rfl) ?_
    refine x_get (j := 13) (v := .int (J 0 13)) hx hb hts hi9 hown hK hP zkL_359 rfl (by decide) (hts (.fieldLink RX9 214 "LeaseOfficeModel" "spot" "I") (by decide +kernel)) rfl (by decide) dX9_sees_8 ?_
    refine lv_aload_n hx hb dX9_sees_11 rfl (lv_at hl 0 rfl) ?_
    refine x_get (j := 8) (v := .int (J 0 8)) hx hb hts hi9 hown hK hP zkL_359 rfl (by decide) (hts (.fieldLink RX9 208 "LeaseOfficeModel" "tapeMany" "I") (by decide +kernel)) rfl (by decide) dX9_sees_12 ?_
    refine lv_icmp_ge (tgt := 39) hx hb dX9_sees_15 (by decide) (fun c2 => ?_) (fun c2 => ?_)
    · have hf := zif_t c2 hf
      refine lv_iconst (v := 0) hx hb dX9_sees_39 (by decide) ?_
      obtain rfl := Option.some.inj hf
      exact x_zret (v := 0) rfl hx hb hr hlocks hK hP hS dX9_sees_40
    · have hf := zif_f c2 hf
      refine lv_aload_n hx hb dX9_sees_18 rfl (lv_at hl 0 rfl) ?_
      refine x_get (j := 7) (v := .ref (G.2.1 365)) hx hb hts hi9 hown hK hP zkL_359 rfl (by decide) (hts (.fieldLink RX9 25 "LeaseOfficeModel" "tape" "[I") (by decide +kernel)) rfl (by decide) dX9_sees_19 ?_
      refine lv_aload_n hx hb dX9_sees_22 rfl (lv_at hl 0 rfl) ?_
      refine x_get (j := 13) (v := .int (J 0 13)) hx hb hts hi9 hown hK hP zkL_359 rfl (by decide) (hts (.fieldLink RX9 214 "LeaseOfficeModel" "spot" "I") (by decide +kernel)) rfl (by decide) dX9_sees_23 ?_
      obtain ⟨h3, hf⟩ := zck_e hf
      refine x_iald hx hb hK hP (zK_lt zkL_365 (by decide)) (zE_15 (j := 6) zkL_365 zlL_365 rfl) (zin_e h3) dX9_sees_26 ?_
      refine lv_iload_n hx hb dX9_sees_27 rfl (lv_at hl 1 rfl) ?_
      refine lv_iload_n hx hb dX9_sees_28 rfl (lv_at hl 2 rfl) ?_
      obtain ⟨q4, hq4, hf⟩ := zb_e hf
      refine x_calli (x_runS (As := [.int (J 6 (J 0 13).toNatClampNeg), .int x1, .int x2]) (rest := []) ⟨hx, hb, hml, hown, hts⟩ (c_X9_in l G hG I J (J 6 (J 0 13).toNatClampNeg) x1 x2 hq4) (va_cwS 3 hts gX9_sees_X9_in rfl rfl rfl (by decide +kernel) ⟨Nat.le_of_ble_eq_true rfl, Nat.le_of_ble_eq_true rfl⟩) hK hP rfl hl.1 rfl (Nat.le_of_ble_eq_true rfl) dX9_sees_29 ⟨Nat.zero_le _, Nat.zero_le _⟩) hS (fun H locs hP hS => ?_)
      refine lv_if_eq (tgt := 39) hx hb dX9_sees_32 (by decide) (fun c5 => ?_) (fun c5 => ?_)
      · have hf := zif_t c5 hf
        refine lv_iconst (v := 0) hx hb dX9_sees_39 (by decide) ?_
        obtain rfl := Option.some.inj hf
        exact x_zret (v := 0) rfl hx hb hr hlocks hK hP hS dX9_sees_40
      · have hf := zif_f c5 hf
        refine lv_iconst (v := 1) hx hb dX9_sees_35 (by decide) ?_
        refine lv_goto (tgt := 40) hx hb dX9_sees_36 (by decide) ?_
        obtain rfl := Option.some.inj hf
        exact x_zret (v := 1) rfl hx hb hr hlocks hK hP hS dX9_sees_40
set_option maxRecDepth 100000 in
set_option maxHeartbeats 4000000 in
theorem c_X9_must (l : Launch) (G : zGT) (hG : zOK G) (I J : zM) (x1 : Int32) (x2 : Int32) {r : Int32 × zM} (hf : f_X9_must J x1 x2 = some r) : Met l yX9_must wsX9_must (zrm 2 44) (va_Pc [.ref (G.2.1 359), .int x1, .int x2] (zS G I J)) (zQi G r.1 I r.2) 0 0 (zA G) := by
  refine zMet (cc := cX9_must) (n := 3) (ret := (some .int)) (by decide) rfl (Nat.le_of_ble_eq_true rfl) ?_
  intro p e s m args below meth c H locs ls F hK hP hS hl
  obtain ⟨hx, hb, hr, hml, hts, hown, hlocks⟩ := F
  have hown : s.vm.findClass RX9 = some m.cls := hown
  have hl : lv_has ls 3 [(0, .ref (G.2.1 359)), (1, .int x1), (2, .int x2)] := hl
  have hi9 : ∀ w ∈ wsX90, w ∈ wsX9_must := fun _ h => List.mem_cons_of_mem _ (List.mem_append_right _ h)
  unfold f_X9_must at hf
  refine lv_aload_n hx hb dX9_must_0 rfl (lv_at hl 0 rfl) ?_
  refine lv_iload_n hx hb dX9_must_1 rfl (lv_at hl 1 rfl) ?_
  refine lv_iload_n hx hb dX9_must_2 rfl (lv_at hl 2 rfl) ?_
  obtain ⟨q1, hq1, hf⟩ := zb_e hf
  refine x_calli (x_runV (As := [.int x1, .int x2]) (rest := []) ⟨hx, hb, hml, hown, hts⟩ (c_X9_sees l G hG I J x1 x2 hq1) (cwV 2 hts gX9_must_X9_sees rfl rfl rfl (by decide +kernel) ⟨Nat.le_of_ble_eq_true rfl, Nat.le_of_ble_eq_true rfl⟩) hK hP zkL_359 (by decide) rfl rfl hl.1 rfl (Nat.le_of_ble_eq_true rfl) dX9_must_3 ⟨Nat.zero_le _, Nat.zero_le _⟩) hS (fun H locs hP hS => ?_)
  refine lv_if_ne (tgt := 33) hx hb dX9_must_6 (by decide) (fun c2 => ?_) (fun c2 => ?_)
  · have hf := zif_f c2 hf
    refine lv_aload_n hx hb dX9_must_33 rfl (lv_at hl 0 rfl) ?_
    refine x_get (j := 7) (v := .ref (G.2.1 365)) hx hb hts hi9 hown hK hP zkL_359 rfl (by decide) (hts (.fieldLink RX9 25 "LeaseOfficeModel" "tape" "[I") (by decide +kernel)) rfl (by decide) dX9_must_34 ?_
    refine lv_aload_n hx hb dX9_must_37 rfl (lv_at hl 0 rfl) ?_
    refine lv_dup hx hb dX9_must_38 rfl ?_
    refine x_get (j := 13) (v := .int (J 0 13)) hx hb hts hi9 hown hK hP zkL_359 rfl (by decide) (hts (.fieldLink RX9 214 "LeaseOfficeModel" "spot" "I") (by decide +kernel)) rfl (by decide) dX9_must_39 ?_
    refine lv_dup_x1 hx hb dX9_must_42 rfl rfl ?_
    refine lv_iconst (v := 1) hx hb dX9_must_43 (by decide) ?_
    refine lv_iadd hx hb dX9_must_44 ?_
    obtain ⟨M3, eM3, hf⟩ := zlet_e hf
    refine x_put (j := 13) (I2 := I) (J2 := M3) (ty0 := tyX9) (ty := .int) hx hb hts hi9 hown hG hK hP hS zkL_359 rfl tyX9_ok nmX9 (by decide) (hts (.fieldLink RX9 214 "LeaseOfficeModel" "spot" "I") (by decide +kernel)) rfl (by decide +kernel) rfl rfl (Nat.le_of_ble_eq_true rfl) (by rw [eM3]; exact zs_9_13 _) (by rw [eM3]; exact zo_M (k := 0)) (by decide) dX9_must_45 (fun H locs hP hS => ?_)
    obtain ⟨h4, hf⟩ := zck_e hf
    refine x_iald hx hb hK hP (zK_lt zkL_365 (by decide)) (zE_15 (j := 6) zkL_365 zlL_365 rfl) (zin_e h4) dX9_must_48 ?_
    obtain rfl := Option.some.inj hf
    exact x_iret hx hb hr hlocks hK hP hS dX9_must_49
  · have hf := zif_t c2 hf
    refine lv_aload_n hx hb dX9_must_9 rfl (lv_at hl 0 rfl) ?_
    refine lv_aload_n hx hb dX9_must_10 rfl (lv_at hl 0 rfl) ?_
    refine x_get (j := 14) (v := .int (J 0 14)) hx hb hts hi9 hown hK hP zkL_359 rfl (by decide) (hts (.fieldLink RX9 211 "LeaseOfficeModel" "fault" "I") (by decide +kernel)) rfl (by decide) dX9_must_11 ?_
    refine lv_if_ge (tgt := 24) hx hb dX9_must_14 (by decide) (fun c5 => ?_) (fun c5 => ?_)
    · have hf := zif_t c5 hf
      refine lv_aload_n hx hb dX9_must_24 rfl (lv_at hl 0 rfl) ?_
      refine x_get (j := 14) (v := .int (J 0 14)) hx hb hts hi9 hown hK hP zkL_359 rfl (by decide) (hts (.fieldLink RX9 211 "LeaseOfficeModel" "fault" "I") (by decide +kernel)) rfl (by decide) dX9_must_25 ?_
      obtain ⟨M6, eM6, hf⟩ := zlet_e hf
      refine x_put (j := 14) (I2 := I) (J2 := M6) (ty0 := tyX9) (ty := .int) hx hb hts hi9 hown hG hK hP hS zkL_359 rfl tyX9_ok nmX9 (by decide) (hts (.fieldLink RX9 211 "LeaseOfficeModel" "fault" "I") (by decide +kernel)) rfl (by decide +kernel) rfl rfl (Nat.le_of_ble_eq_true rfl) (by rw [eM6]; exact zs_9_14 _) (by rw [eM6]; exact zo_M (k := 0)) (by decide) dX9_must_28 (fun H locs hP hS => ?_)
      refine lv_iload_n hx hb dX9_must_31 rfl (lv_at hl 1 rfl) ?_
      obtain rfl := Option.some.inj hf
      exact x_iret hx hb hr hlocks hK hP hS dX9_must_32
    · have hf := zif_f c5 hf
      refine lv_aload_n hx hb dX9_must_17 rfl (lv_at hl 0 rfl) ?_
      refine x_get (j := 13) (v := .int (J 0 13)) hx hb hts hi9 hown hK hP zkL_359 rfl (by decide) (hts (.fieldLink RX9 214 "LeaseOfficeModel" "spot" "I") (by decide +kernel)) rfl (by decide) dX9_must_18 ?_
      refine lv_goto (tgt := 28) hx hb dX9_must_21 (by decide) ?_
      obtain ⟨M7, eM7, hf⟩ := zlet_e hf
      refine x_put (j := 14) (I2 := I) (J2 := M7) (ty0 := tyX9) (ty := .int) hx hb hts hi9 hown hG hK hP hS zkL_359 rfl tyX9_ok nmX9 (by decide) (hts (.fieldLink RX9 211 "LeaseOfficeModel" "fault" "I") (by decide +kernel)) rfl (by decide +kernel) rfl rfl (Nat.le_of_ble_eq_true rfl) (by rw [eM7]; exact zs_9_14 _) (by rw [eM7]; exact zo_M (k := 0)) (by decide) dX9_must_28 (fun H locs hP hS => ?_)
      refine lv_iload_n hx hb dX9_must_31 rfl (lv_at hl 1 rfl) ?_
      obtain rfl := Option.some.inj hf
      exact x_iret hx hb hr hlocks hK hP hS dX9_must_32
