set_option maxRecDepth 100000 in
set_option maxHeartbeats 4000000 in
theorem c_X8_told (l : Launch) (G : zGT) (hG : zOK G) (I J : zM) (x1 : Int32) (x2 : Int32) {r : Int32 × zM} (hf : f_X8_told I x1 x2 = some r) : Met l yX8_told wsX8_told (zrm 4 91) (va_Pc [.ref (G.2.1 0), .int x1, .int x2] (zS G I J)) (zQi G r.1 r.2 J) 0 0 (zA G) := by
  refine zMet (cc := cX8_told) (n := 3) (ret := (some .int)) (by decide) rfl (Nat.le_of_ble_eq_true rfl) ?_
  intro p e s m args below meth c H locs ls F hK hP hS hl
  obtain ⟨hx, hb, hr, hml, hts, hown, hlocks⟩ := F
  have hown : s.vm.findClass RX8 = some m.cls := hown
  have hl : lv_has ls 3 [(0, .ref (G.2.1 0)), (1, .int x1), (2, .int x2)] := hl
  have hi2 : ∀ w ∈ wsX20, w ∈ wsX8_told := fun _ h => List.mem_cons_of_mem _ (List.mem_append_left _ (List.mem_append_left _ (List.mem_append_left _ (List.mem_append_left _ (List.mem_append_left _ (List.mem_append_right _ h))))))
  have hi8 : ∀ w ∈ wsX80, w ∈ wsX8_told := fun _ h => List.mem_cons_of_mem _ (List.mem_append_left _ (List.mem_append_left _ (List.mem_append_left _ (List.mem_append_left _ (List.mem_append_left _ (List.mem_append_left _ (List.mem_append_right _ h)))))))
  unfold f_X8_told at hf
  refine lv_aload_n hx hb dX8_told_0 rfl (lv_at hl 0 rfl) ?_
  refine x_get (j := 1) (v := .ref (G.2.1 1)) hx hb hts hi8 hown hK hP zkL_0 rfl (by decide) (hts (.fieldLink RX8 20 "LeaseOffice" "office" "LLeaseOffice$Office;") (by decide +kernel)) rfl (by decide) dX8_told_1 ?_
  refine lv_iload_n hx hb dX8_told_4 rfl (lv_at hl 1 rfl) ?_
  obtain ⟨q1, hq1, hf⟩ := zb_e hf
  refine x_calli (x_runV (As := [.int x1]) (rest := []) ⟨hx, hb, hml, hown, hts⟩ (c_X2_isTool l G hG I J 1 x1 zkL_1 hq1) (cwV 1 hts gX8_told_X2_isTool rfl rfl rfl (by decide +kernel) ⟨Nat.le_of_ble_eq_true rfl, Nat.le_of_ble_eq_true rfl⟩) hK hP zkL_1 (by decide) rfl rfl hl.1 rfl (Nat.le_of_ble_eq_true rfl) dX8_told_5 ⟨Nat.zero_le _, Nat.zero_le _⟩) hS (fun H locs hP hS => ?_)
  refine lv_if_ne (tgt := 13) hx hb dX8_told_8 (by decide) (fun c2 => ?_) (fun c2 => ?_)
  · have hf := zif_f c2 hf
    refine lv_iload_n hx hb dX8_told_13 rfl (lv_at hl 2 rfl) ?_
    rcases Classical.em (x2 = 0) with c7 | c7
    · have hf := zif_t c7 hf
      refine lv_tableIn (off := 26) (tgt := 40) hx hb dX8_told_14 (by rw [c7]; decide) (by rw [c7]; decide) (by rw [c7]; decide) (by decide) ?_
      refine lv_aload_n hx hb dX8_told_40 rfl (lv_at hl 0 rfl) ?_
      refine x_get (j := 0) (v := .ref (G.2.1 328)) hx hb hts hi8 hown hK hP zkL_0 rfl (by decide) (hts (.fieldLink RX8 12 "LeaseOffice" "thought" "LLeaseOffice$Thought;") (by decide +kernel)) rfl (by decide) dX8_told_41 ?_
      refine lv_iload_n hx hb dX8_told_44 rfl (lv_at hl 1 rfl) ?_
      obtain ⟨q3, hq3, hf⟩ := zb_e hf
      refine x_calli (x_runV (As := [.int x1]) (rest := []) ⟨hx, hb, hml, hown, hts⟩ (c_X6_nextOf l G hG I J x1 hq3) (cwV 1 hts gX8_told_X6_nextOf rfl rfl rfl (by decide +kernel) ⟨Nat.le_of_ble_eq_true rfl, Nat.le_of_ble_eq_true rfl⟩) hK hP zkL_328 (by decide) rfl rfl hl.1 rfl (Nat.le_of_ble_eq_true rfl) dX8_told_45 ⟨Nat.zero_le _, Nat.zero_le _⟩) hS (fun H locs hP hS => ?_)
      obtain rfl := Option.some.inj hf
      exact x_iret hx hb hr hlocks hK hP hS dX8_told_48
    · have hf := zif_f c7 hf
      rcases Classical.em (x2 = 1) with c8 | c8
      · have hf := zif_t c8 hf
        refine lv_tableIn (off := 35) (tgt := 49) hx hb dX8_told_14 (by rw [c8]; decide) (by rw [c8]; decide) (by rw [c8]; decide) (by decide) ?_
        refine lv_aload_n hx hb dX8_told_49 rfl (lv_at hl 0 rfl) ?_
        refine x_get (j := 0) (v := .ref (G.2.1 328)) hx hb hts hi8 hown hK hP zkL_0 rfl (by decide) (hts (.fieldLink RX8 12 "LeaseOffice" "thought" "LLeaseOffice$Thought;") (by decide +kernel)) rfl (by decide) dX8_told_50 ?_
        refine lv_iload_n hx hb dX8_told_53 rfl (lv_at hl 1 rfl) ?_
        obtain ⟨q4, hq4, hf⟩ := zb_e hf
        refine x_calli (x_runV (As := [.int x1]) (rest := []) ⟨hx, hb, hml, hown, hts⟩ (c_X6_suspectsOf l G hG I J x1 hq4) (cwV 1 hts gX8_told_X6_suspectsOf rfl rfl rfl (by decide +kernel) ⟨Nat.le_of_ble_eq_true rfl, Nat.le_of_ble_eq_true rfl⟩) hK hP zkL_328 (by decide) rfl rfl hl.1 rfl (Nat.le_of_ble_eq_true rfl) dX8_told_54 ⟨Nat.zero_le _, Nat.zero_le _⟩) hS (fun H locs hP hS => ?_)
        obtain rfl := Option.some.inj hf
        exact x_iret hx hb hr hlocks hK hP hS dX8_told_57
      · have hf := zif_f c8 hf
        rcases Classical.em (x2 = 2) with c9 | c9
        · have hf := zif_t c9 hf
          refine lv_tableIn (off := 44) (tgt := 58) hx hb dX8_told_14 (by rw [c9]; decide) (by rw [c9]; decide) (by rw [c9]; decide) (by decide) ?_
          refine lv_aload_n hx hb dX8_told_58 rfl (lv_at hl 0 rfl) ?_
          refine x_get (j := 1) (v := .ref (G.2.1 1)) hx hb hts hi8 hown hK hP zkL_0 rfl (by decide) (hts (.fieldLink RX8 20 "LeaseOffice" "office" "LLeaseOffice$Office;") (by decide +kernel)) rfl (by decide) dX8_told_59 ?_
          refine lv_iload_n hx hb dX8_told_62 rfl (lv_at hl 1 rfl) ?_
          obtain ⟨q5, hq5, hf⟩ := zb_e hf
          refine x_callr (x_runV (As := [.int x1]) (rest := []) ⟨hx, hb, hml, hown, hts⟩ (c_X2_toolAt l G hG I J 1 x1 zkL_1 hq5) (cwV 1 hts gX8_told_X2_toolAt rfl rfl rfl (by decide +kernel) ⟨Nat.le_of_ble_eq_true rfl, Nat.le_of_ble_eq_true rfl⟩) hK hP zkL_1 (by decide) rfl rfl hl.1 rfl (Nat.le_of_ble_eq_true rfl) dX8_told_63 ⟨Nat.zero_le _, Nat.zero_le _⟩) hS (fun H locs hP hS => ?_)
          refine lv_aload_n hx hb dX8_told_66 rfl (lv_at hl 0 rfl) ?_
          refine x_get (j := 1) (v := .ref (G.2.1 1)) hx hb hts hi8 hown hK hP zkL_0 rfl (by decide) (hts (.fieldLink RX8 20 "LeaseOffice" "office" "LLeaseOffice$Office;") (by decide +kernel)) rfl (by decide) dX8_told_67 ?_
          refine x_get (j := 7) (v := .int (I 1 7)) hx hb hts hi2 hown hK hP zkL_1 rfl (by decide) (hts (.fieldLink RX8 195 "LeaseOffice$Office" "day" "I") (by decide +kernel)) rfl (by decide) dX8_told_70 ?_
          obtain ⟨q6, hq6, hf⟩ := zb_e hf
          refine x_calli (x_runV (As := [.int (I 1 7)]) (rest := []) ⟨hx, hb, hml, hown, hts⟩ (c_X7_feeOn l G hG I J q5 (I 1 7) (kd_X2_toolAt zkL_1 hq5) hq6) (cwV 1 hts gX8_told_X7_feeOn rfl rfl rfl (by decide +kernel) ⟨Nat.le_of_ble_eq_true rfl, Nat.le_of_ble_eq_true rfl⟩) hK hP (kd_X2_toolAt zkL_1 hq5) (by decide) rfl rfl hl.1 rfl (Nat.le_of_ble_eq_true rfl) dX8_told_73 ⟨Nat.zero_le _, Nat.zero_le _⟩) hS (fun H locs hP hS => ?_)
          obtain rfl := Option.some.inj hf
          exact x_iret hx hb hr hlocks hK hP hS dX8_told_76
        · have hf := zif_f c9 hf
          have hD : W p l e (zrm 4 91) s m args below meth c H locs 0 0 (MQ below (zQi G r.1 r.2 J) args s 0 0 (zA G)) (F0 m 77 ls []) := by
            refine lv_iconst (v := (-1)) hx hb dX8_told_77 (by decide) ?_
            obtain rfl := Option.some.inj hf
            exact x_iret hx hb hr hlocks hK hP hS dX8_told_78
          rcases z_sw x2 0 2 3 (by decide) with h | ⟨k, hk, e⟩
          · exact lv_tableOut hx hb dX8_told_14 h (by decide) hD
          · match k, hk, e with
            | 0, _, e => exact absurd (e.trans (by decide)) c7
            | 1, _, e => exact absurd (e.trans (by decide)) c8
            | 2, _, e => exact absurd (e.trans (by decide)) c9
            | _ + 3, hk, _ => exact absurd hk (by omega)
  · have hf := zif_t c2 hf
    refine lv_iconst (v := (-1)) hx hb dX8_told_11 (by decide) ?_
    obtain rfl := Option.some.inj hf
    exact x_iret hx hb hr hlocks hK hP hS dX8_told_12
set_option maxRecDepth 100000 in
set_option maxHeartbeats 4000000 in
theorem c_X8_tool (l : Launch) (G : zGT) (hG : zOK G) (I J : zM) (x1 : Int32) {r : Int32 × zM} (hf : f_X8_tool I x1 = some r) : Met l yX8_tool wsX8_tool (zrm 4 89) (va_Pc [.ref (G.2.1 0), .int x1] (zS G I J)) (zQi G r.1 r.2 J) 0 0 (zA G) := by
  refine zMet (cc := cX8_tool) (n := 2) (ret := (some .int)) (by decide) rfl (Nat.le_of_ble_eq_true rfl) ?_
  intro p e s m args below meth c H locs ls F hK hP hS hl
  obtain ⟨hx, hb, hr, hml, hts, hown, hlocks⟩ := F
  have hown : s.vm.findClass RX8 = some m.cls := hown
  have hl : lv_has ls 2 [(0, .ref (G.2.1 0)), (1, .int x1)] := hl
  have hi8 : ∀ w ∈ wsX80, w ∈ wsX8_tool := fun _ h => List.mem_cons_of_mem _ (List.mem_append_left _ (List.mem_append_left _ (List.mem_append_left _ (List.mem_append_right _ h))))
  unfold f_X8_tool at hf
  refine lv_aload_n hx hb dX8_tool_0 rfl (lv_at hl 0 rfl) ?_
  refine x_get (j := 1) (v := .ref (G.2.1 1)) hx hb hts hi8 hown hK hP zkL_0 rfl (by decide) (hts (.fieldLink RX8 20 "LeaseOffice" "office" "LLeaseOffice$Office;") (by decide +kernel)) rfl (by decide) dX8_tool_1 ?_
  refine lv_iload_n hx hb dX8_tool_4 rfl (lv_at hl 1 rfl) ?_
  obtain ⟨q1, hq1, hf⟩ := zb_e hf
  refine x_calli (x_runV (As := [.int x1]) (rest := []) ⟨hx, hb, hml, hown, hts⟩ (c_X2_enterTool l G hG I J 1 x1 zkL_1 hq1) (cwV 1 hts gX8_tool_X2_enterTool rfl rfl rfl (by decide +kernel) ⟨Nat.le_of_ble_eq_true rfl, Nat.le_of_ble_eq_true rfl⟩) hK hP zkL_1 (by decide) rfl rfl hl.1 rfl (Nat.le_of_ble_eq_true rfl) dX8_tool_5 ⟨Nat.zero_le _, Nat.zero_le _⟩) hS (fun H locs hP hS => ?_)
  obtain rfl := Option.some.inj hf
  exact x_iret hx hb hr hlocks hK hP hS dX8_tool_8
set_option maxRecDepth 100000 in
set_option maxHeartbeats 4000000 in
theorem c_X8_toolOf (l : Launch) (G : zGT) (hG : zOK G) (I J : zM) (x1 : Int32) (x2 : Int32) {r : Int32} (hf : f_X8_toolOf I x1 x2 = some r) : Met l yX8_toolOf wsX8_toolOf (zrm 1 21) (va_Pc [.ref (G.2.1 0), .int x1, .int x2] (zS G I J)) (zQi G r I J) 0 0 (zA G) := by
  refine zMet (cc := cX8_toolOf) (n := 4) (ret := (some .int)) (by decide) rfl (Nat.le_of_ble_eq_true rfl) ?_
  intro p e s m args below meth c H locs ls F hK hP hS hl
  obtain ⟨hx, hb, hr, hml, hts, hown, hlocks⟩ := F
  have hown : s.vm.findClass RX8 = some m.cls := hown
  have hl : lv_has ls 4 [(0, .ref (G.2.1 0)), (1, .int x1), (2, .int x2)] := hl
  have hi7 : ∀ w ∈ wsX70, w ∈ wsX8_toolOf := fun _ h => List.mem_cons_of_mem _ (List.mem_append_left _ (List.mem_append_left _ (List.mem_append_right _ h)))
  have hi8 : ∀ w ∈ wsX80, w ∈ wsX8_toolOf := fun _ h => List.mem_cons_of_mem _ (List.mem_append_left _ (List.mem_append_left _ (List.mem_append_left _ (List.mem_append_right _ h))))
  unfold f_X8_toolOf at hf
  refine lv_aload_n hx hb dX8_toolOf_0 rfl (lv_at hl 0 rfl) ?_
  refine x_get (j := 1) (v := .ref (G.2.1 1)) hx hb hts hi8 hown hK hP zkL_0 rfl (by decide) (hts (.fieldLink RX8 20 "LeaseOffice" "office" "LLeaseOffice$Office;") (by decide +kernel)) rfl (by decide) dX8_toolOf_1 ?_
  refine lv_iload_n hx hb dX8_toolOf_4 rfl (lv_at hl 1 rfl) ?_
  obtain ⟨q1, hq1, hf⟩ := zb_e hf
  refine x_calli (x_runV (As := [.int x1]) (rest := []) ⟨hx, hb, hml, hown, hts⟩ (c_X2_isTool l G hG I J 1 x1 zkL_1 hq1) (cwV 1 hts gX8_toolOf_X2_isTool rfl rfl rfl (by decide +kernel) ⟨Nat.le_of_ble_eq_true rfl, Nat.le_of_ble_eq_true rfl⟩) hK hP zkL_1 (by decide) rfl rfl hl.1 rfl (Nat.le_of_ble_eq_true rfl) dX8_toolOf_5 ⟨Nat.zero_le _, Nat.zero_le _⟩) hS (fun H locs hP hS => ?_)
  refine lv_if_ne (tgt := 13) hx hb dX8_toolOf_8 (by decide) (fun c2 => ?_) (fun c2 => ?_)
  · have hf := zif_f c2 hf
    refine lv_aload_n hx hb dX8_toolOf_13 rfl (lv_at hl 0 rfl) ?_
    refine x_get (j := 1) (v := .ref (G.2.1 1)) hx hb hts hi8 hown hK hP zkL_0 rfl (by decide) (hts (.fieldLink RX8 20 "LeaseOffice" "office" "LLeaseOffice$Office;") (by decide +kernel)) rfl (by decide) dX8_toolOf_14 ?_
    refine lv_iload_n hx hb dX8_toolOf_17 rfl (lv_at hl 1 rfl) ?_
    obtain ⟨q3, hq3, hf⟩ := zb_e hf
    refine x_callr (x_runV (As := [.int x1]) (rest := []) ⟨hx, hb, hml, hown, hts⟩ (c_X2_toolAt l G hG I J 1 x1 zkL_1 hq3) (cwV 1 hts gX8_toolOf_X2_toolAt rfl rfl rfl (by decide +kernel) ⟨Nat.le_of_ble_eq_true rfl, Nat.le_of_ble_eq_true rfl⟩) hK hP zkL_1 (by decide) rfl rfl hl.1 rfl (Nat.le_of_ble_eq_true rfl) dX8_toolOf_18 ⟨Nat.zero_le _, Nat.zero_le _⟩) hS (fun H locs hP hS => ?_)
    refine lv_astore_n (lv' := [(3, .ref (G.2.1 (q3))), (0, .ref (G.2.1 0)), (1, .int x1), (2, .int x2)]) hx hb dX8_toolOf_21 rfl hl (by decide) rfl (fun ls hl => ?_)
    refine lv_iload_n hx hb dX8_toolOf_22 rfl (lv_at hl 3 rfl) ?_
    rcases Classical.em (x2 = 0) with c7 | c7
    · have hf := zif_t c7 hf
      refine lv_tableIn (off := 49) (tgt := 72) hx hb dX8_toolOf_23 (by rw [c7]; decide) (by rw [c7]; decide) (by rw [c7]; decide) (by decide) ?_
      refine lv_aload_n hx hb dX8_toolOf_72 rfl (lv_at hl 0 rfl) ?_
      refine x_get (j := 0) (v := .int (I q3 0)) hx hb hts hi7 hown hK hP (kd_X2_toolAt zkL_1 hq3) rfl (by decide) (hts (.fieldLink RX8 110 "LeaseOffice$Tool" "worth" "I") (by decide +kernel)) rfl (by decide) dX8_toolOf_73 ?_
      obtain rfl := Option.some.inj hf
      exact x_iret hx hb hr hlocks hK hP hS dX8_toolOf_76
    · have hf := zif_f c7 hf
      rcases Classical.em (x2 = 1) with c8 | c8
      · have hf := zif_t c8 hf
        refine lv_tableIn (off := 54) (tgt := 77) hx hb dX8_toolOf_23 (by rw [c8]; decide) (by rw [c8]; decide) (by rw [c8]; decide) (by decide) ?_
        refine lv_aload_n hx hb dX8_toolOf_77 rfl (lv_at hl 0 rfl) ?_
        refine x_get (j := 1) (v := .int (I q3 1)) hx hb hts hi7 hown hK hP (kd_X2_toolAt zkL_1 hq3) rfl (by decide) (hts (.fieldLink RX8 115 "LeaseOffice$Tool" "wear" "I") (by decide +kernel)) rfl (by decide) dX8_toolOf_78 ?_
        obtain rfl := Option.some.inj hf
        exact x_iret hx hb hr hlocks hK hP hS dX8_toolOf_81
      · have hf := zif_f c8 hf
        rcases Classical.em (x2 = 2) with c9 | c9
        · have hf := zif_t c9 hf
          refine lv_tableIn (off := 59) (tgt := 82) hx hb dX8_toolOf_23 (by rw [c9]; decide) (by rw [c9]; decide) (by rw [c9]; decide) (by decide) ?_
          refine lv_aload_n hx hb dX8_toolOf_82 rfl (lv_at hl 0 rfl) ?_
          refine x_get (j := 2) (v := .int (I q3 2)) hx hb hts hi7 hown hK hP (kd_X2_toolAt zkL_1 hq3) rfl (by decide) (hts (.fieldLink RX8 118 "LeaseOffice$Tool" "holder" "I") (by decide +kernel)) rfl (by decide) dX8_toolOf_83 ?_
          obtain rfl := Option.some.inj hf
          exact x_iret hx hb hr hlocks hK hP hS dX8_toolOf_86
        · have hf := zif_f c9 hf
          rcases Classical.em (x2 = 3) with c10 | c10
          · have hf := zif_t c10 hf
            refine lv_tableIn (off := 64) (tgt := 87) hx hb dX8_toolOf_23 (by rw [c10]; decide) (by rw [c10]; decide) (by rw [c10]; decide) (by decide) ?_
            refine lv_aload_n hx hb dX8_toolOf_87 rfl (lv_at hl 0 rfl) ?_
            refine x_get (j := 3) (v := .int (I q3 3)) hx hb hts hi7 hown hK hP (kd_X2_toolAt zkL_1 hq3) rfl (by decide) (hts (.fieldLink RX8 121 "LeaseOffice$Tool" "since" "I") (by decide +kernel)) rfl (by decide) dX8_toolOf_88 ?_
            obtain rfl := Option.some.inj hf
            exact x_iret hx hb hr hlocks hK hP hS dX8_toolOf_91
          · have hf := zif_f c10 hf
            rcases Classical.em (x2 = 4) with c11 | c11
            · have hf := zif_t c11 hf
              refine lv_tableIn (off := 69) (tgt := 92) hx hb dX8_toolOf_23 (by rw [c11]; decide) (by rw [c11]; decide) (by rw [c11]; decide) (by decide) ?_
              refine lv_aload_n hx hb dX8_toolOf_92 rfl (lv_at hl 0 rfl) ?_
              refine x_get (j := 4) (v := .int (I q3 4)) hx hb hts hi7 hown hK hP (kd_X2_toolAt zkL_1 hq3) rfl (by decide) (hts (.fieldLink RX8 124 "LeaseOffice$Tool" "due" "I") (by decide +kernel)) rfl (by decide) dX8_toolOf_93 ?_
              obtain rfl := Option.some.inj hf
              exact x_iret hx hb hr hlocks hK hP hS dX8_toolOf_96
            · have hf := zif_f c11 hf
              rcases Classical.em (x2 = 5) with c12 | c12
              · have hf := zif_t c12 hf
                refine lv_tableIn (off := 74) (tgt := 97) hx hb dX8_toolOf_23 (by rw [c12]; decide) (by rw [c12]; decide) (by rw [c12]; decide) (by decide) ?_
                refine lv_aload_n hx hb dX8_toolOf_97 rfl (lv_at hl 0 rfl) ?_
                refine x_get (j := 5) (v := .int (I q3 5)) hx hb hts hi7 hown hK hP (kd_X2_toolAt zkL_1 hq3) rfl (by decide) (hts (.fieldLink RX8 127 "LeaseOffice$Tool" "deposit" "I") (by decide +kernel)) rfl (by decide) dX8_toolOf_98 ?_
                obtain rfl := Option.some.inj hf
                exact x_iret hx hb hr hlocks hK hP hS dX8_toolOf_101
              · have hf := zif_f c12 hf
                rcases Classical.em (x2 = 6) with c13 | c13
                · have hf := zif_t c13 hf
                  refine lv_tableIn (off := 79) (tgt := 102) hx hb dX8_toolOf_23 (by rw [c13]; decide) (by rw [c13]; decide) (by rw [c13]; decide) (by decide) ?_
                  refine lv_aload_n hx hb dX8_toolOf_102 rfl (lv_at hl 0 rfl) ?_
                  refine x_get (j := 9) (v := .ref (G.2.1 (q3 + 5))) hx hb hts hi7 hown hK hP (kd_X2_toolAt zkL_1 hq3) rfl (by decide) (hts (.fieldLink RX8 130 "LeaseOffice$Tool" "claims" "LLeaseOffice$Table;") (by decide +kernel)) rfl (by decide) dX8_toolOf_103 ?_
                  obtain ⟨q4, hq4, hf⟩ := zb_e hf
                  refine x_calli (x_runV (As := []) (rest := []) ⟨hx, hb, hml, hown, hts⟩ (c_X4_size l G hG I J (q3 + 5) (zk_7_9 (kd_X2_toolAt zkL_1 hq3)) hq4) (cwV 0 hts gX8_toolOf_X4_size rfl rfl rfl (by decide +kernel) ⟨Nat.le_of_ble_eq_true rfl, Nat.le_of_ble_eq_true rfl⟩) hK hP (zk_7_9 (kd_X2_toolAt zkL_1 hq3)) (by decide) rfl rfl hl.1 rfl (Nat.le_of_ble_eq_true rfl) dX8_toolOf_106 ⟨Nat.zero_le _, Nat.zero_le _⟩) hS (fun H locs hP hS => ?_)
                  obtain rfl := Option.some.inj hf
                  exact x_iret hx hb hr hlocks hK hP hS dX8_toolOf_109
                · have hf := zif_f c13 hf
                  rcases Classical.em (x2 = 7) with c14 | c14
                  · have hf := zif_t c14 hf
                    refine lv_tableIn (off := 87) (tgt := 110) hx hb dX8_toolOf_23 (by rw [c14]; decide) (by rw [c14]; decide) (by rw [c14]; decide) (by decide) ?_
                    refine lv_aload_n hx hb dX8_toolOf_110 rfl (lv_at hl 0 rfl) ?_
                    refine x_get (j := 7) (v := .ref (G.2.1 (q3 + 1))) hx hb hts hi7 hown hK hP (kd_X2_toolAt zkL_1 hq3) rfl (by decide) (hts (.fieldLink RX8 139 "LeaseOffice$Tool" "links" "LLeaseOffice$Table;") (by decide +kernel)) rfl (by decide) dX8_toolOf_111 ?_
                    obtain ⟨q5, hq5, hf⟩ := zb_e hf
                    refine x_calli (x_runV (As := []) (rest := []) ⟨hx, hb, hml, hown, hts⟩ (c_X4_size l G hG I J (q3 + 1) (zk_7_7 (kd_X2_toolAt zkL_1 hq3)) hq5) (cwV 0 hts gX8_toolOf_X4_size rfl rfl rfl (by decide +kernel) ⟨Nat.le_of_ble_eq_true rfl, Nat.le_of_ble_eq_true rfl⟩) hK hP (zk_7_7 (kd_X2_toolAt zkL_1 hq3)) (by decide) rfl rfl hl.1 rfl (Nat.le_of_ble_eq_true rfl) dX8_toolOf_114 ⟨Nat.zero_le _, Nat.zero_le _⟩) hS (fun H locs hP hS => ?_)
                    obtain rfl := Option.some.inj hf
                    exact x_iret hx hb hr hlocks hK hP hS dX8_toolOf_117
                  · have hf := zif_f c14 hf
                    rcases Classical.em (x2 = 8) with c15 | c15
                    · have hf := zif_t c15 hf
                      refine lv_tableIn (off := 95) (tgt := 118) hx hb dX8_toolOf_23 (by rw [c15]; decide) (by rw [c15]; decide) (by rw [c15]; decide) (by decide) ?_
                      refine lv_aload_n hx hb dX8_toolOf_118 rfl (lv_at hl 0 rfl) ?_
                      refine x_get (j := 8) (v := .ref (G.2.1 (q3 + 3))) hx hb hts hi7 hown hK hP (kd_X2_toolAt zkL_1 hq3) rfl (by decide) (hts (.fieldLink RX8 142 "LeaseOffice$Tool" "looks" "LLeaseOffice$Table;") (by decide +kernel)) rfl (by decide) dX8_toolOf_119 ?_
                      obtain ⟨q6, hq6, hf⟩ := zb_e hf
                      refine x_calli (x_runV (As := []) (rest := []) ⟨hx, hb, hml, hown, hts⟩ (c_X4_size l G hG I J (q3 + 3) (zk_7_8 (kd_X2_toolAt zkL_1 hq3)) hq6) (cwV 0 hts gX8_toolOf_X4_size rfl rfl rfl (by decide +kernel) ⟨Nat.le_of_ble_eq_true rfl, Nat.le_of_ble_eq_true rfl⟩) hK hP (zk_7_8 (kd_X2_toolAt zkL_1 hq3)) (by decide) rfl rfl hl.1 rfl (Nat.le_of_ble_eq_true rfl) dX8_toolOf_122 ⟨Nat.zero_le _, Nat.zero_le _⟩) hS (fun H locs hP hS => ?_)
                      obtain rfl := Option.some.inj hf
                      exact x_iret hx hb hr hlocks hK hP hS dX8_toolOf_125
                    · have hf := zif_f c15 hf
                      have hD : W p l e (zrm 1 21) s m args below meth c H locs 0 0 (MQ below (zQi G r I J) args s 0 0 (zA G)) (F0 m 126 ls []) := by
                        refine lv_iconst (v := (-1)) hx hb dX8_toolOf_126 (by decide) ?_
                        obtain rfl := Option.some.inj hf
                        exact x_iret hx hb hr hlocks hK hP hS dX8_toolOf_127
                      rcases z_sw x2 0 8 9 (by decide) with h | ⟨k, hk, e⟩
                      · exact lv_tableOut hx hb dX8_toolOf_23 h (by decide) hD
                      · match k, hk, e with
                        | 0, _, e => exact absurd (e.trans (by decide)) c7
                        | 1, _, e => exact absurd (e.trans (by decide)) c8
                        | 2, _, e => exact absurd (e.trans (by decide)) c9
                        | 3, _, e => exact absurd (e.trans (by decide)) c10
                        | 4, _, e => exact absurd (e.trans (by decide)) c11
                        | 5, _, e => exact absurd (e.trans (by decide)) c12
                        | 6, _, e => exact absurd (e.trans (by decide)) c13
                        | 7, _, e => exact absurd (e.trans (by decide)) c14
                        | 8, _, e => exact absurd (e.trans (by decide)) c15
                        | _ + 9, hk, _ => exact absurd hk (by omega)
  · have hf := zif_t c2 hf
    refine lv_iconst (v := (-1)) hx hb dX8_toolOf_11 (by decide) ?_
    obtain rfl := Option.some.inj hf
    exact x_iret hx hb hr hlocks hK hP hS dX8_toolOf_12
set_option maxRecDepth 100000 in
set_option maxHeartbeats 4000000 in
theorem c_X8_use (l : Launch) (G : zGT) (hG : zOK G) (I J : zM) (x1 : Int32) (x2 : Int32) {r : Int32 × zM} (hf : f_X8_use I x1 x2 = some r) : Met l yX8_use wsX8_use (zrm 2 44) (va_Pc [.ref (G.2.1 0), .int x1, .int x2] (zS G I J)) (zQi G r.1 r.2 J) 0 0 (zA G) := by
  refine zMet (cc := cX8_use) (n := 3) (ret := (some .int)) (by decide) rfl (Nat.le_of_ble_eq_true rfl) ?_
  intro p e s m args below meth c H locs ls F hK hP hS hl
  obtain ⟨hx, hb, hr, hml, hts, hown, hlocks⟩ := F
  have hown : s.vm.findClass RX8 = some m.cls := hown
  have hl : lv_has ls 3 [(0, .ref (G.2.1 0)), (1, .int x1), (2, .int x2)] := hl
  have hi8 : ∀ w ∈ wsX80, w ∈ wsX8_use := fun _ h => List.mem_cons_of_mem _ (List.mem_append_left _ (List.mem_append_left _ (List.mem_append_right _ h)))
  unfold f_X8_use at hf
  refine lv_aload_n hx hb dX8_use_0 rfl (lv_at hl 0 rfl) ?_
  refine x_get (j := 1) (v := .ref (G.2.1 1)) hx hb hts hi8 hown hK hP zkL_0 rfl (by decide) (hts (.fieldLink RX8 20 "LeaseOffice" "office" "LLeaseOffice$Office;") (by decide +kernel)) rfl (by decide) dX8_use_1 ?_
  refine lv_iload_n hx hb dX8_use_4 rfl (lv_at hl 1 rfl) ?_
  refine lv_iload_n hx hb dX8_use_5 rfl (lv_at hl 2 rfl) ?_
  obtain ⟨q1, hq1, hf⟩ := zb_e hf
  refine x_calli (x_runV (As := [.int x1, .int x2]) (rest := []) ⟨hx, hb, hml, hown, hts⟩ (c_X2_wearDown l G hG I J 1 x1 x2 zkL_1 hq1) (cwV 2 hts gX8_use_X2_wearDown rfl rfl rfl (by decide +kernel) ⟨Nat.le_of_ble_eq_true rfl, Nat.le_of_ble_eq_true rfl⟩) hK hP zkL_1 (by decide) rfl rfl hl.1 rfl (Nat.le_of_ble_eq_true rfl) dX8_use_6 ⟨Nat.zero_le _, Nat.zero_le _⟩) hS (fun H locs hP hS => ?_)
  obtain rfl := Option.some.inj hf
  exact x_iret hx hb hr hlocks hK hP hS dX8_use_9
set_option maxRecDepth 100000 in
set_option maxHeartbeats 4000000 in
theorem c_X8_waive (l : Launch) (G : zGT) (hG : zOK G) (I J : zM) (x1 : Int32) (x2 : Int32) {r : Int32 × zM} (hf : f_X8_waive I x1 x2 = some r) : Met l yX8_waive wsX8_waive (zrm 3 69) (va_Pc [.ref (G.2.1 0), .int x1, .int x2] (zS G I J)) (zQi G r.1 r.2 J) 0 0 (zA G) := by
  refine zMet (cc := cX8_waive) (n := 3) (ret := (some .int)) (by decide) rfl (Nat.le_of_ble_eq_true rfl) ?_
  intro p e s m args below meth c H locs ls F hK hP hS hl
  obtain ⟨hx, hb, hr, hml, hts, hown, hlocks⟩ := F
  have hown : s.vm.findClass RX8 = some m.cls := hown
  have hl : lv_has ls 3 [(0, .ref (G.2.1 0)), (1, .int x1), (2, .int x2)] := hl
  have hi8 : ∀ w ∈ wsX80, w ∈ wsX8_waive := fun _ h => List.mem_cons_of_mem _ (List.mem_append_left _ (List.mem_append_left _ (List.mem_append_left _ (List.mem_append_right _ h))))
  unfold f_X8_waive at hf
  refine lv_aload_n hx hb dX8_waive_0 rfl (lv_at hl 0 rfl) ?_
  refine x_get (j := 1) (v := .ref (G.2.1 1)) hx hb hts hi8 hown hK hP zkL_0 rfl (by decide) (hts (.fieldLink RX8 20 "LeaseOffice" "office" "LLeaseOffice$Office;") (by decide +kernel)) rfl (by decide) dX8_waive_1 ?_
  refine lv_iload_n hx hb dX8_waive_4 rfl (lv_at hl 1 rfl) ?_
  refine lv_iload_n hx hb dX8_waive_5 rfl (lv_at hl 2 rfl) ?_
  obtain ⟨q1, hq1, hf⟩ := zb_e hf
  refine x_calli (x_runV (As := [.int x1, .int x2]) (rest := []) ⟨hx, hb, hml, hown, hts⟩ (c_X2_dropClaim l G hG I J 1 x1 x2 zkL_1 hq1) (cwV 2 hts gX8_waive_X2_dropClaim rfl rfl rfl (by decide +kernel) ⟨Nat.le_of_ble_eq_true rfl, Nat.le_of_ble_eq_true rfl⟩) hK hP zkL_1 (by decide) rfl rfl hl.1 rfl (Nat.le_of_ble_eq_true rfl) dX8_waive_6 ⟨Nat.zero_le _, Nat.zero_le _⟩) hS (fun H locs hP hS => ?_)
  obtain rfl := Option.some.inj hf
  exact x_iret hx hb hr hlocks hK hP hS dX8_waive_9
set_option maxRecDepth 100000 in
set_option maxHeartbeats 4000000 in
theorem c_X8_wish (l : Launch) (G : zGT) (hG : zOK G) (I J : zM) (x1 : Int32) (x2 : Int32) (x3 : Int32) {r : Int32 × zM} (hf : f_X8_wish I x1 x2 x3 = some r) : Met l yX8_wish wsX8_wish (zrm 2 46) (va_Pc [.ref (G.2.1 0), .int x1, .int x2, .int x3] (zS G I J)) (zQi G r.1 r.2 J) 0 0 (zA G) := by
  refine zMet (cc := cX8_wish) (n := 4) (ret := (some .int)) (by decide) rfl (Nat.le_of_ble_eq_true rfl) ?_
  intro p e s m args below meth c H locs ls F hK hP hS hl
  obtain ⟨hx, hb, hr, hml, hts, hown, hlocks⟩ := F
  have hown : s.vm.findClass RX8 = some m.cls := hown
  have hl : lv_has ls 4 [(0, .ref (G.2.1 0)), (1, .int x1), (2, .int x2), (3, .int x3)] := hl
  have hi8 : ∀ w ∈ wsX80, w ∈ wsX8_wish := fun _ h => List.mem_cons_of_mem _ (List.mem_append_left _ (List.mem_append_left _ (List.mem_append_right _ h)))
  unfold f_X8_wish at hf
  refine lv_aload_n hx hb dX8_wish_0 rfl (lv_at hl 0 rfl) ?_
  refine x_get (j := 1) (v := .ref (G.2.1 1)) hx hb hts hi8 hown hK hP zkL_0 rfl (by decide) (hts (.fieldLink RX8 20 "LeaseOffice" "office" "LLeaseOffice$Office;") (by decide +kernel)) rfl (by decide) dX8_wish_1 ?_
  refine lv_iload_n hx hb dX8_wish_4 rfl (lv_at hl 1 rfl) ?_
  refine lv_iload_n hx hb dX8_wish_5 rfl (lv_at hl 2 rfl) ?_
  refine lv_iload_n hx hb dX8_wish_6 rfl (lv_at hl 3 rfl) ?_
  obtain ⟨q1, hq1, hf⟩ := zb_e hf
  refine x_calli (x_runV (As := [.int x1, .int x2, .int x3]) (rest := []) ⟨hx, hb, hml, hown, hts⟩ (c_X2_setWish l G hG I J 1 x1 x2 x3 zkL_1 hq1) (cwV 3 hts gX8_wish_X2_setWish rfl rfl rfl (by decide +kernel) ⟨Nat.le_of_ble_eq_true rfl, Nat.le_of_ble_eq_true rfl⟩) hK hP zkL_1 (by decide) rfl rfl hl.1 rfl (Nat.le_of_ble_eq_true rfl) dX8_wish_7 ⟨Nat.zero_le _, Nat.zero_le _⟩) hS (fun H locs hP hS => ?_)
  obtain rfl := Option.some.inj hf
  exact x_iret hx hb hr hlocks hK hP hS dX8_wish_10
