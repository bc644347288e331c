set_option maxRecDepth 100000 in
set_option maxHeartbeats 4000000 in
theorem c_X8_swaps (l : Launch) (G : zGT) (hG : zOK G) (I J : zM) (x1 : Int32) {r : Int32} (hf : f_X8_swaps I x1 = some r) : Met l yX8_swaps wsX8_swaps (zrm 5 114) (va_Pc [.ref (G.2.1 0), .int x1] (zS G I J)) (zQi G r I J) 0 0 (zA G) := by
  refine zMet (cc := cX8_swaps) (n := 2) (ret := (some .int)) (by decide) rfl (Nat.le_of_ble_eq_true rfl) ?_
  intro p e s m args below meth c H locs ls F hK hP hS hl
  obtain ⟨hx, hb, hr, hml, hts, hown, hlocks⟩ := F
  have hown : s.vm.findClass RX8 = some m.cls := hown
  have hl : lv_has ls 2 [(0, .ref (G.2.1 0)), (1, .int x1)] := hl
  have hi8 : ∀ w ∈ wsX80, w ∈ wsX8_swaps := fun _ h => List.mem_cons_of_mem _ (List.mem_append_left _ (List.mem_append_left _ (List.mem_append_left _ (List.mem_append_left _ (List.mem_append_right _ h)))))
  unfold f_X8_swaps at hf
  refine lv_iload_n hx hb dX8_swaps_0 rfl (lv_at hl 1 rfl) ?_
  rcases Classical.em (x1 = 0) with c5 | c5
  · have hf := zif_t c5 hf
    refine lv_tableIn (off := 31) (tgt := 32) hx hb dX8_swaps_1 (by rw [c5]; decide) (by rw [c5]; decide) (by rw [c5]; decide) (by decide) ?_
    refine lv_aload_n hx hb dX8_swaps_32 rfl (lv_at hl 0 rfl) ?_
    refine x_get (j := 0) (v := .ref (G.2.1 328)) hx hb hts hi8 hown hK hP zkL_0 rfl (by decide) (hts (.fieldLink RX8 12 "LeaseOffice" "thought" "LLeaseOffice$Thought;") (by decide +kernel)) rfl (by decide) dX8_swaps_33 ?_
    obtain ⟨q1, hq1, hf⟩ := zb_e hf
    refine x_calli (x_runV (As := []) (rest := []) ⟨hx, hb, hml, hown, hts⟩ (c_X6_swapsNow l G hG I J hq1) (cwV 0 hts gX8_swaps_X6_swapsNow rfl rfl rfl (by decide +kernel) ⟨Nat.le_of_ble_eq_true rfl, Nat.le_of_ble_eq_true rfl⟩) hK hP zkL_328 (by decide) rfl rfl hl.1 rfl (Nat.le_of_ble_eq_true rfl) dX8_swaps_36 ⟨Nat.zero_le _, Nat.zero_le _⟩) hS (fun H locs hP hS => ?_)
    obtain rfl := Option.some.inj hf
    exact x_iret hx hb hr hlocks hK hP hS dX8_swaps_39
  · have hf := zif_f c5 hf
    rcases Classical.em (x1 = 1) with c6 | c6
    · have hf := zif_t c6 hf
      refine lv_tableIn (off := 39) (tgt := 40) hx hb dX8_swaps_1 (by rw [c6]; decide) (by rw [c6]; decide) (by rw [c6]; decide) (by decide) ?_
      refine lv_aload_n hx hb dX8_swaps_40 rfl (lv_at hl 0 rfl) ?_
      refine x_get (j := 0) (v := .ref (G.2.1 328)) hx hb hts hi8 hown hK hP zkL_0 rfl (by decide) (hts (.fieldLink RX8 12 "LeaseOffice" "thought" "LLeaseOffice$Thought;") (by decide +kernel)) rfl (by decide) dX8_swaps_41 ?_
      obtain ⟨q2, hq2, hf⟩ := zb_e hf
      refine x_calli (x_runV (As := []) (rest := []) ⟨hx, hb, hml, hown, hts⟩ (c_X6_bestSwap l G hG I J hq2) (cwV 0 hts gX8_swaps_X6_bestSwap rfl rfl rfl (by decide +kernel) ⟨Nat.le_of_ble_eq_true rfl, Nat.le_of_ble_eq_true rfl⟩) hK hP zkL_328 (by decide) rfl rfl hl.1 rfl (Nat.le_of_ble_eq_true rfl) dX8_swaps_44 ⟨Nat.zero_le _, Nat.zero_le _⟩) hS (fun H locs hP hS => ?_)
      obtain rfl := Option.some.inj hf
      exact x_iret hx hb hr hlocks hK hP hS dX8_swaps_47
    · have hf := zif_f c6 hf
      rcases Classical.em (x1 = 2) with c7 | c7
      · have hf := zif_t c7 hf
        refine lv_tableIn (off := 47) (tgt := 48) hx hb dX8_swaps_1 (by rw [c7]; decide) (by rw [c7]; decide) (by rw [c7]; decide) (by decide) ?_
        refine lv_aload_n hx hb dX8_swaps_48 rfl (lv_at hl 0 rfl) ?_
        refine x_get (j := 0) (v := .ref (G.2.1 328)) hx hb hts hi8 hown hK hP zkL_0 rfl (by decide) (hts (.fieldLink RX8 12 "LeaseOffice" "thought" "LLeaseOffice$Thought;") (by decide +kernel)) rfl (by decide) dX8_swaps_49 ?_
        obtain ⟨q3, hq3, hf⟩ := zb_e hf
        refine x_calli (x_runV (As := []) (rest := []) ⟨hx, hb, hml, hown, hts⟩ (c_X6_ringsNow l G hG I J hq3) (cwV 0 hts gX8_swaps_X6_ringsNow rfl rfl rfl (by decide +kernel) ⟨Nat.le_of_ble_eq_true rfl, Nat.le_of_ble_eq_true rfl⟩) hK hP zkL_328 (by decide) rfl rfl hl.1 rfl (Nat.le_of_ble_eq_true rfl) dX8_swaps_52 ⟨Nat.zero_le _, Nat.zero_le _⟩) hS (fun H locs hP hS => ?_)
        obtain rfl := Option.some.inj hf
        exact x_iret hx hb hr hlocks hK hP hS dX8_swaps_55
      · have hf := zif_f c7 hf
        rcases Classical.em (x1 = 3) with c8 | c8
        · have hf := zif_t c8 hf
          refine lv_tableIn (off := 55) (tgt := 56) hx hb dX8_swaps_1 (by rw [c8]; decide) (by rw [c8]; decide) (by rw [c8]; decide) (by decide) ?_
          refine lv_aload_n hx hb dX8_swaps_56 rfl (lv_at hl 0 rfl) ?_
          refine x_get (j := 0) (v := .ref (G.2.1 328)) hx hb hts hi8 hown hK hP zkL_0 rfl (by decide) (hts (.fieldLink RX8 12 "LeaseOffice" "thought" "LLeaseOffice$Thought;") (by decide +kernel)) rfl (by decide) dX8_swaps_57 ?_
          obtain ⟨q4, hq4, hf⟩ := zb_e hf
          refine x_calli (x_runV (As := []) (rest := []) ⟨hx, hb, hml, hown, hts⟩ (c_X6_allCoins l G hG I J hq4) (cwV 0 hts gX8_swaps_X6_allCoins rfl rfl rfl (by decide +kernel) ⟨Nat.le_of_ble_eq_true rfl, Nat.le_of_ble_eq_true rfl⟩) hK hP zkL_328 (by decide) rfl rfl hl.1 rfl (Nat.le_of_ble_eq_true rfl) dX8_swaps_60 ⟨Nat.zero_le _, Nat.zero_le _⟩) hS (fun H locs hP hS => ?_)
          obtain rfl := Option.some.inj hf
          exact x_iret hx hb hr hlocks hK hP hS dX8_swaps_63
        · have hf := zif_f c8 hf
          have hD : W p l e (zrm 5 114) s m args below meth c H locs 0 0 (MQ below (zQi G r I J) args s 0 0 (zA G)) (F0 m 64 ls []) := by
            refine lv_iconst (v := (-1)) hx hb dX8_swaps_64 (by decide) ?_
            obtain rfl := Option.some.inj hf
            exact x_iret hx hb hr hlocks hK hP hS dX8_swaps_65
          rcases z_sw x1 0 3 4 (by decide) with h | ⟨k, hk, e⟩
          · exact lv_tableOut hx hb dX8_swaps_1 h (by decide) hD
          · match k, hk, e with
            | 0, _, e => exact absurd (e.trans (by decide)) c5
            | 1, _, e => exact absurd (e.trans (by decide)) c6
            | 2, _, e => exact absurd (e.trans (by decide)) c7
            | 3, _, e => exact absurd (e.trans (by decide)) c8
            | _ + 4, hk, _ => exact absurd hk (by omega)
set_option maxRecDepth 100000 in
set_option maxHeartbeats 4000000 in
theorem c_X8_tells (l : Launch) (G : zGT) (hG : zOK G) (I J : zM) (x1 : Int32) (x2 : Int32) {r : Int32} (hf : f_X8_tells I x1 x2 = some r) : Met l yX8_tells wsX8_tells (zrm 1 21) (va_Pc [.ref (G.2.1 0), .int x1, .int x2] (zS G I J)) (zQi G r I J) 0 0 (zA G) := by
  refine zMet (cc := cX8_tells) (n := 4) (ret := (some .int)) (by decide) rfl (Nat.le_of_ble_eq_true rfl) ?_
  intro p e s m args below meth c H locs ls F hK hP hS hl
  obtain ⟨hx, hb, hr, hml, hts, hown, hlocks⟩ := F
  have hown : s.vm.findClass RX8 = some m.cls := hown
  have hl : lv_has ls 4 [(0, .ref (G.2.1 0)), (1, .int x1), (2, .int x2)] := hl
  have hi1 : ∀ w ∈ wsX10, w ∈ wsX8_tells := fun _ h => List.mem_cons_of_mem _ (List.mem_append_left _ (List.mem_append_left _ (List.mem_append_left _ (List.mem_append_left _ (List.mem_append_right _ h)))))
  have hi3 : ∀ w ∈ wsX30, w ∈ wsX8_tells := fun _ h => List.mem_cons_of_mem _ (List.mem_append_left _ (List.mem_append_left _ (List.mem_append_right _ h)))
  have hi7 : ∀ w ∈ wsX70, w ∈ wsX8_tells := fun _ h => List.mem_cons_of_mem _ (List.mem_append_left _ (List.mem_append_right _ h))
  have hi8 : ∀ w ∈ wsX80, w ∈ wsX8_tells := fun _ h => List.mem_cons_of_mem _ (List.mem_append_left _ (List.mem_append_left _ (List.mem_append_left _ (List.mem_append_right _ h))))
  have J107 : ∀ (y3 : Nat) (hy3 : zK y3 = 1) (H : Heap) (locs : List Loc) (ls : Array Slot), f_X8_tells_j107 I x2 y3 = some r → va_P G.1 vwCl (zW G I J) H → va_S (zA G) s.heap H locs → lv_has ls 4 [(0, .ref (G.2.1 0)), (2, .int x2), (3, .ref (G.2.1 (y3)))] → W p l e (zrm 1 21) s m args below meth c H locs 0 0 (MQ below (zQi G r I J) args s 0 0 (zA G)) (F0 m 107 ls []) := by
    intro y3 hy3 H locs ls hf hP hS hl
    unfold f_X8_tells_j107 at hf
    refine lv_iload_n hx hb dX8_tells_107 rfl (lv_at hl 1 rfl) ?_
    refine lv_iconst (v := 3) hx hb dX8_tells_108 (by decide) ?_
    refine lv_icmp_ne (tgt := 152) hx hb dX8_tells_109 (by decide) (fun c10 => ?_) (fun c10 => ?_)
    · have hf := zif_f c10 hf
      refine lv_bipush (v := (-12)) hx hb dX8_tells_152 (by decide) ?_
      obtain rfl := Option.some.inj hf
      exact x_iret hx hb hr hlocks hK hP hS dX8_tells_154
    · have hf := zif_t c10 hf
      refine lv_aload_n hx hb dX8_tells_112 rfl (lv_at hl 2 rfl) ?_
      refine x_get (j := 0) (v := .int (I y3 0)) hx hb hts hi1 hown hK hP hy3 rfl (by decide) (hts (.fieldLink RX8 229 "LeaseOffice$Holder" "sort" "I") (by decide +kernel)) rfl (by decide) dX8_tells_113 ?_
      refine lv_iconst (v := 2) hx hb dX8_tells_116 (by decide) ?_
      refine lv_icmp_ne (tgt := 152) hx hb dX8_tells_117 (by decide) (fun c11 => ?_) (fun c11 => ?_)
      · have hf := zif_f c11 hf
        refine lv_bipush (v := (-12)) hx hb dX8_tells_152 (by decide) ?_
        obtain rfl := Option.some.inj hf
        exact x_iret hx hb hr hlocks hK hP hS dX8_tells_154
      · have hf := zif_t c11 hf
        refine lv_aload_n hx hb dX8_tells_120 rfl (lv_at hl 0 rfl) ?_
        refine x_get (j := 1) (v := .ref (G.2.1 1)) hx hb hts hi8 hown hK hP zkL_0 rfl (by decide) (hts (.fieldLink RX8 20 "LeaseOffice" "office" "LLeaseOffice$Office;") (by decide +kernel)) rfl (by decide) dX8_tells_121 ?_
        refine lv_aload_n hx hb dX8_tells_124 rfl (lv_at hl 2 rfl) ?_
        refine x_get (j := 1) (v := .int (I y3 1)) hx hb hts hi1 hown hK hP hy3 rfl (by decide) (hts (.fieldLink RX8 273 "LeaseOffice$Holder" "number" "I") (by decide +kernel)) rfl (by decide) dX8_tells_125 ?_
        obtain ⟨q12, hq12, hf⟩ := zb_e hf
        refine x_callr (x_runV (As := [.int (I y3 1)]) (rest := []) ⟨hx, hb, hml, hown, hts⟩ (c_X2_toolAt l G hG I J 1 (I y3 1) zkL_1 hq12) (cwV 1 hts gX8_tells_X2_toolAt rfl rfl rfl (by decide +kernel) ⟨Nat.le_of_ble_eq_true rfl, Nat.le_of_ble_eq_true rfl⟩) hK hP zkL_1 (by decide) rfl rfl hl.1 rfl (Nat.le_of_ble_eq_true rfl) dX8_tells_128 ⟨Nat.zero_le _, Nat.zero_le _⟩) hS (fun H locs hP hS => ?_)
        obtain ⟨q13, hq13, hf⟩ := zb_e hf
        refine x_calli (x_runV (As := []) (rest := []) ⟨hx, hb, hml, hown, hts⟩ (c_X7_isLeased l G hG I J q12 (kd_X2_toolAt zkL_1 hq12) hq13) (cwV 0 hts gX8_tells_X7_isLeased rfl rfl rfl (by decide +kernel) ⟨Nat.le_of_ble_eq_true rfl, Nat.le_of_ble_eq_true rfl⟩) hK hP (kd_X2_toolAt zkL_1 hq12) (by decide) rfl rfl hl.1 rfl (Nat.le_of_ble_eq_true rfl) dX8_tells_131 ⟨Nat.zero_le _, Nat.zero_le _⟩) hS (fun H locs hP hS => ?_)
        refine lv_if_eq (tgt := 152) hx hb dX8_tells_134 (by decide) (fun c14 => ?_) (fun c14 => ?_)
        · have hf := zif_t c14 hf
          refine lv_bipush (v := (-12)) hx hb dX8_tells_152 (by decide) ?_
          obtain rfl := Option.some.inj hf
          exact x_iret hx hb hr hlocks hK hP hS dX8_tells_154
        · have hf := zif_f c14 hf
          refine lv_aload_n hx hb dX8_tells_137 rfl (lv_at hl 0 rfl) ?_
          refine x_get (j := 1) (v := .ref (G.2.1 1)) hx hb hts hi8 hown hK hP zkL_0 rfl (by decide) (hts (.fieldLink RX8 20 "LeaseOffice" "office" "LLeaseOffice$Office;") (by decide +kernel)) rfl (by decide) dX8_tells_138 ?_
          refine lv_aload_n hx hb dX8_tells_141 rfl (lv_at hl 2 rfl) ?_
          refine x_get (j := 1) (v := .int (I y3 1)) hx hb hts hi1 hown hK hP hy3 rfl (by decide) (hts (.fieldLink RX8 273 "LeaseOffice$Holder" "number" "I") (by decide +kernel)) rfl (by decide) dX8_tells_142 ?_
          obtain ⟨q15, hq15, hf⟩ := zb_e hf
          refine x_callr (x_runV (As := [.int (I y3 1)]) (rest := []) ⟨hx, hb, hml, hown, hts⟩ (c_X2_toolAt l G hG I J 1 (I y3 1) zkL_1 hq15) (cwV 1 hts gX8_tells_X2_toolAt rfl rfl rfl (by decide +kernel) ⟨Nat.le_of_ble_eq_true rfl, Nat.le_of_ble_eq_true rfl⟩) hK hP zkL_1 (by decide) rfl rfl hl.1 rfl (Nat.le_of_ble_eq_true rfl) dX8_tells_145 ⟨Nat.zero_le _, Nat.zero_le _⟩) hS (fun H locs hP hS => ?_)
          refine x_get (j := 2) (v := .int (I q15 2)) hx hb hts hi7 hown hK hP (kd_X2_toolAt zkL_1 hq15) rfl (by decide) (hts (.fieldLink RX8 118 "LeaseOffice$Tool" "holder" "I") (by decide +kernel)) rfl (by decide) dX8_tells_148 ?_
          obtain rfl := Option.some.inj hf
          exact x_iret hx hb hr hlocks hK hP hS dX8_tells_151
  have J79 : ∀ (y3 : Nat) (hy3 : zK y3 = 1) (H : Heap) (locs : List Loc) (ls : Array Slot), f_X8_tells_j79 I x2 y3 = some r → va_P G.1 vwCl (zW G I J) H → va_S (zA G) s.heap H locs → lv_has ls 4 [(0, .ref (G.2.1 0)), (2, .int x2), (3, .ref (G.2.1 (y3)))] → W p l e (zrm 1 21) s m args below meth c H locs 0 0 (MQ below (zQi G r I J) args s 0 0 (zA G)) (F0 m 79 ls []) := by
    intro y3 hy3 H locs ls hf hP hS hl
    unfold f_X8_tells_j79 at hf
    refine lv_iload_n hx hb dX8_tells_79 rfl (lv_at hl 1 rfl) ?_
    refine lv_iconst (v := 2) hx hb dX8_tells_80 (by decide) ?_
    refine lv_icmp_ne (tgt := 107) hx hb dX8_tells_81 (by decide) (fun c9 => ?_) (fun c9 => ?_)
    · have hf := zif_f c9 hf
      exact J107 y3 hy3 H locs ls hf hP hS (lv_sub hl [0, 1, 2] rfl)
    · have hf := zif_t c9 hf
      refine lv_aload_n hx hb dX8_tells_84 rfl (lv_at hl 2 rfl) ?_
      refine x_get (j := 0) (v := .int (I y3 0)) hx hb hts hi1 hown hK hP hy3 rfl (by decide) (hts (.fieldLink RX8 229 "LeaseOffice$Holder" "sort" "I") (by decide +kernel)) rfl (by decide) dX8_tells_85 ?_
      refine lv_iconst (v := 2) hx hb dX8_tells_88 (by decide) ?_
      refine lv_icmp_ne (tgt := 107) hx hb dX8_tells_89 (by decide) (fun c16 => ?_) (fun c16 => ?_)
      · have hf := zif_f c16 hf
        exact J107 y3 hy3 H locs ls hf hP hS (lv_sub hl [0, 1, 2] rfl)
      · have hf := zif_t c16 hf
        refine lv_aload_n hx hb dX8_tells_92 rfl (lv_at hl 0 rfl) ?_
        refine x_get (j := 1) (v := .ref (G.2.1 1)) hx hb hts hi8 hown hK hP zkL_0 rfl (by decide) (hts (.fieldLink RX8 20 "LeaseOffice" "office" "LLeaseOffice$Office;") (by decide +kernel)) rfl (by decide) dX8_tells_93 ?_
        refine lv_aload_n hx hb dX8_tells_96 rfl (lv_at hl 2 rfl) ?_
        refine x_get (j := 1) (v := .int (I y3 1)) hx hb hts hi1 hown hK hP hy3 rfl (by decide) (hts (.fieldLink RX8 273 "LeaseOffice$Holder" "number" "I") (by decide +kernel)) rfl (by decide) dX8_tells_97 ?_
        obtain ⟨q17, hq17, hf⟩ := zb_e hf
        refine x_callr (x_runV (As := [.int (I y3 1)]) (rest := []) ⟨hx, hb, hml, hown, hts⟩ (c_X2_toolAt l G hG I J 1 (I y3 1) zkL_1 hq17) (cwV 1 hts gX8_tells_X2_toolAt rfl rfl rfl (by decide +kernel) ⟨Nat.le_of_ble_eq_true rfl, Nat.le_of_ble_eq_true rfl⟩) hK hP zkL_1 (by decide) rfl rfl hl.1 rfl (Nat.le_of_ble_eq_true rfl) dX8_tells_100 ⟨Nat.zero_le _, Nat.zero_le _⟩) hS (fun H locs hP hS => ?_)
        refine x_get (j := 0) (v := .int (I q17 0)) hx hb hts hi7 hown hK hP (kd_X2_toolAt zkL_1 hq17) rfl (by decide) (hts (.fieldLink RX8 110 "LeaseOffice$Tool" "worth" "I") (by decide +kernel)) rfl (by decide) dX8_tells_103 ?_
        obtain rfl := Option.some.inj hf
        exact x_iret hx hb hr hlocks hK hP hS dX8_tells_106
  have J51 : ∀ (y3 : Nat) (hy3 : zK y3 = 1) (H : Heap) (locs : List Loc) (ls : Array Slot), f_X8_tells_j51 I x2 y3 = some r → va_P G.1 vwCl (zW G I J) H → va_S (zA G) s.heap H locs → lv_has ls 4 [(0, .ref (G.2.1 0)), (2, .int x2), (3, .ref (G.2.1 (y3)))] → W p l e (zrm 1 21) s m args below meth c H locs 0 0 (MQ below (zQi G r I J) args s 0 0 (zA G)) (F0 m 51 ls []) := by
    intro y3 hy3 H locs ls hf hP hS hl
    unfold f_X8_tells_j51 at hf
    refine lv_iload_n hx hb dX8_tells_51 rfl (lv_at hl 1 rfl) ?_
    refine lv_iconst (v := 1) hx hb dX8_tells_52 (by decide) ?_
    refine lv_icmp_ne (tgt := 79) hx hb dX8_tells_53 (by decide) (fun c8 => ?_) (fun c8 => ?_)
    · have hf := zif_f c8 hf
      exact J79 y3 hy3 H locs ls hf hP hS (lv_sub hl [0, 1, 2] rfl)
    · have hf := zif_t c8 hf
      refine lv_aload_n hx hb dX8_tells_56 rfl (lv_at hl 2 rfl) ?_
      refine x_get (j := 0) (v := .int (I y3 0)) hx hb hts hi1 hown hK hP hy3 rfl (by decide) (hts (.fieldLink RX8 229 "LeaseOffice$Holder" "sort" "I") (by decide +kernel)) rfl (by decide) dX8_tells_57 ?_
      refine lv_iconst (v := 1) hx hb dX8_tells_60 (by decide) ?_
      refine lv_icmp_ne (tgt := 79) hx hb dX8_tells_61 (by decide) (fun c18 => ?_) (fun c18 => ?_)
      · have hf := zif_f c18 hf
        exact J79 y3 hy3 H locs ls hf hP hS (lv_sub hl [0, 1, 2] rfl)
      · have hf := zif_t c18 hf
        refine lv_aload_n hx hb dX8_tells_64 rfl (lv_at hl 0 rfl) ?_
        refine x_get (j := 1) (v := .ref (G.2.1 1)) hx hb hts hi8 hown hK hP zkL_0 rfl (by decide) (hts (.fieldLink RX8 20 "LeaseOffice" "office" "LLeaseOffice$Office;") (by decide +kernel)) rfl (by decide) dX8_tells_65 ?_
        refine lv_aload_n hx hb dX8_tells_68 rfl (lv_at hl 2 rfl) ?_
        refine x_get (j := 1) (v := .int (I y3 1)) hx hb hts hi1 hown hK hP hy3 rfl (by decide) (hts (.fieldLink RX8 273 "LeaseOffice$Holder" "number" "I") (by decide +kernel)) rfl (by decide) dX8_tells_69 ?_
        obtain ⟨q19, hq19, hf⟩ := zb_e hf
        refine x_callr (x_runV (As := [.int (I y3 1)]) (rest := []) ⟨hx, hb, hml, hown, hts⟩ (c_X2_personAt l G hG I J 1 (I y3 1) zkL_1 hq19) (cwV 1 hts gX8_tells_X2_personAt rfl rfl rfl (by decide +kernel) ⟨Nat.le_of_ble_eq_true rfl, Nat.le_of_ble_eq_true rfl⟩) hK hP zkL_1 (by decide) rfl rfl hl.1 rfl (Nat.le_of_ble_eq_true rfl) dX8_tells_72 ⟨Nat.zero_le _, Nat.zero_le _⟩) hS (fun H locs hP hS => ?_)
        refine x_get (j := 2) (v := .int (I q19 2)) hx hb hts hi3 hown hK hP (kd_X2_personAt zkL_1 hq19) rfl (by decide) (hts (.fieldLink RX8 85 "LeaseOffice$Person" "trust" "I") (by decide +kernel)) rfl (by decide) dX8_tells_75 ?_
        obtain rfl := Option.some.inj hf
        exact x_iret hx hb hr hlocks hK hP hS dX8_tells_78
  unfold f_X8_tells at hf
  refine lv_iload_n hx hb dX8_tells_0 rfl (lv_at hl 1 rfl) ?_
  obtain ⟨q1, hq1, hf⟩ := zb_e hf
  refine x_calli (x_runS (As := [.int x1]) (rest := []) ⟨hx, hb, hml, hown, hts⟩ (c_X8_isHolder l G hG I J x1 hq1) (va_cwS 1 hts gX8_tells_X8_isHolder rfl rfl rfl (by decide +kernel) ⟨Nat.le_of_ble_eq_true rfl, Nat.le_of_ble_eq_true rfl⟩) hK hP rfl hl.1 rfl (Nat.le_of_ble_eq_true rfl) dX8_tells_1 ⟨Nat.zero_le _, Nat.zero_le _⟩) hS (fun H locs hP hS => ?_)
  refine lv_if_eq (tgt := 16) hx hb dX8_tells_4 (by decide) (fun c2 => ?_) (fun c2 => ?_)
  · have hf := zif_t c2 hf
    refine lv_iconst (v := (-1)) hx hb dX8_tells_16 (by decide) ?_
    obtain rfl := Option.some.inj hf
    exact x_iret hx hb hr hlocks hK hP hS dX8_tells_17
  · have hf := zif_f c2 hf
    refine lv_iload_n hx hb dX8_tells_7 rfl (lv_at hl 2 rfl) ?_
    refine lv_if_lt (tgt := 16) hx hb dX8_tells_8 (by decide) (fun c3 => ?_) (fun c3 => ?_)
    · have hf := zif_t c3 hf
      refine lv_iconst (v := (-1)) hx hb dX8_tells_16 (by decide) ?_
      obtain rfl := Option.some.inj hf
      exact x_iret hx hb hr hlocks hK hP hS dX8_tells_17
    · have hf := zif_f c3 hf
      refine lv_iload_n hx hb dX8_tells_11 rfl (lv_at hl 2 rfl) ?_
      refine lv_iconst (v := 3) hx hb dX8_tells_12 (by decide) ?_
      refine lv_icmp_le (tgt := 18) hx hb dX8_tells_13 (by decide) (fun c4 => ?_) (fun c4 => ?_)
      · have hf := zif_t c4 hf
        refine lv_aload_n hx hb dX8_tells_18 rfl (lv_at hl 0 rfl) ?_
        refine lv_iload_n hx hb dX8_tells_19 rfl (lv_at hl 1 rfl) ?_
        obtain ⟨q5, hq5, hf⟩ := zb_e hf
        refine x_callr (x_runV (As := [.int x1]) (rest := []) ⟨hx, hb, hml, hown, hts⟩ (c_X8_holderAt l G hG I J x1 hq5) (cwV 1 hts gX8_tells_X8_holderAt rfl rfl rfl (by decide +kernel) ⟨Nat.le_of_ble_eq_true rfl, Nat.le_of_ble_eq_true rfl⟩) hK hP zkL_0 (by decide) rfl rfl hl.1 rfl (Nat.le_of_ble_eq_true rfl) dX8_tells_20 ⟨Nat.zero_le _, Nat.zero_le _⟩) hS (fun H locs hP hS => ?_)
        refine lv_astore_n (lv' := [(3, .ref (G.2.1 (q5))), (0, .ref (G.2.1 0)), (1, .int x1), (2, .int x2)]) hx hb dX8_tells_23 rfl hl (by decide) rfl (fun ls hl => ?_)
        refine lv_aload_n hx hb dX8_tells_24 rfl (lv_at hl 0 rfl) ?_
        refine x_get (j := 0) (v := .int (I q5 0)) hx hb hts hi1 hown hK hP (kd_X8_holderAt hq5) rfl (by decide) (hts (.fieldLink RX8 229 "LeaseOffice$Holder" "sort" "I") (by decide +kernel)) rfl (by decide) dX8_tells_25 ?_
        refine lv_if_ne (tgt := 34) hx hb dX8_tells_28 (by decide) (fun c6 => ?_) (fun c6 => ?_)
        · have hf := zif_f c6 hf
          refine lv_iload_n hx hb dX8_tells_34 rfl (lv_at hl 3 rfl) ?_
          refine lv_if_ne (tgt := 51) hx hb dX8_tells_35 (by decide) (fun c7 => ?_) (fun c7 => ?_)
          · have hf := zif_f c7 hf
            exact J51 q5 (kd_X8_holderAt hq5) H locs ls hf hP hS (lv_sub hl [1, 3, 0] rfl)
          · have hf := zif_t c7 hf
            refine lv_aload_n hx hb dX8_tells_38 rfl (lv_at hl 0 rfl) ?_
            refine x_get (j := 0) (v := .int (I q5 0)) hx hb hts hi1 hown hK hP (kd_X8_holderAt hq5) rfl (by decide) (hts (.fieldLink RX8 229 "LeaseOffice$Holder" "sort" "I") (by decide +kernel)) rfl (by decide) dX8_tells_39 ?_
            refine lv_iconst (v := 3) hx hb dX8_tells_42 (by decide) ?_
            refine lv_icmp_eq (tgt := 51) hx hb dX8_tells_43 (by decide) (fun c20 => ?_) (fun c20 => ?_)
            · have hf := zif_t c20 hf
              exact J51 q5 (kd_X8_holderAt hq5) H locs ls hf hP hS (lv_sub hl [1, 3, 0] rfl)
            · have hf := zif_f c20 hf
              refine lv_aload_n hx hb dX8_tells_46 rfl (lv_at hl 0 rfl) ?_
              refine x_get (j := 1) (v := .int (I q5 1)) hx hb hts hi1 hown hK hP (kd_X8_holderAt hq5) rfl (by decide) (hts (.fieldLink RX8 273 "LeaseOffice$Holder" "number" "I") (by decide +kernel)) rfl (by decide) dX8_tells_47 ?_
              obtain rfl := Option.some.inj hf
              exact x_iret hx hb hr hlocks hK hP hS dX8_tells_50
        · have hf := zif_t c6 hf
          refine lv_bipush (v := (-11)) hx hb dX8_tells_31 (by decide) ?_
          obtain rfl := Option.some.inj hf
          exact x_iret hx hb hr hlocks hK hP hS dX8_tells_33
      · have hf := zif_f c4 hf
        refine lv_iconst (v := (-1)) hx hb dX8_tells_16 (by decide) ?_
        obtain rfl := Option.some.inj hf
        exact x_iret hx hb hr hlocks hK hP hS dX8_tells_17
set_option maxRecDepth 100000 in
set_option maxHeartbeats 4000000 in
theorem c_X8_told (l : Launch) (G : zGT) (hG : zOK G) (I J : zM) (x1 : Int32) (x2 : Int32) {r : Int32 × zM} (hf : f_X8_told I x1 x2 = some r) : Met l yX8_told wsX8_told (zrm 4 91) (va_Pc [.ref (G.2.1 0), .int x1, .int x2] (zS G I J)) (zQi G r.1 r.2 J) 0 0 (zA G) := by
  refine zMet (cc := cX8_told) (n := 3) (ret := (some .int)) (by decide) rfl (Nat.le_of_ble_eq_true rfl) ?_
  intro p e s m args below meth c H locs ls F hK hP hS hl
  obtain ⟨hx, hb, hr, hml, hts, hown, hlocks⟩ := F
  have hown : s.vm.findClass RX8 = some m.cls := hown
  have hl : lv_has ls 3 [(0, .ref (G.2.1 0)), (1, .int x1), (2, .int x2)] := hl
  have hi2 : ∀ w ∈ wsX20, w ∈ wsX8_told := fun _ h => List.mem_cons_of_mem _ (List.mem_append_left _ (List.mem_append_left _ (List.mem_append_left _ (List.mem_append_left _ (List.mem_append_left _ (List.mem_append_right _ h))))))
  have hi8 : ∀ w ∈ wsX80, w ∈ wsX8_told := fun _ h => List.mem_cons_of_mem _ (List.mem_append_left _ (List.mem_append_left _ (List.mem_append_left _ (List.mem_append_left _ (List.mem_append_left _ (List.mem_append_left _ (List.mem_append_right _ h)))))))
  unfold f_X8_told at hf
  refine lv_aload_n hx hb dX8_told_0 rfl (lv_at hl 0 rfl) ?_
  refine x_get (j := 1) (v := .ref (G.2.1 1)) hx hb hts hi8 hown hK hP zkL_0 rfl (by decide) (hts (.fieldLink RX8 20 "LeaseOffice" "office" "LLeaseOffice$Office;") (by decide +kernel)) rfl (by decide) dX8_told_1 ?_
  refine lv_iload_n hx hb dX8_told_4 rfl (lv_at hl 1 rfl) ?_
  obtain ⟨q1, hq1, hf⟩ := zb_e hf
  refine x_calli (x_runV (As := [.int x1]) (rest := []) ⟨hx, hb, hml, hown, hts⟩ (c_X2_isTool l G hG I J 1 x1 zkL_1 hq1) (cwV 1 hts gX8_told_X2_isTool rfl rfl rfl (by decide +kernel) ⟨Nat.le_of_ble_eq_true rfl, Nat.le_of_ble_eq_true rfl⟩) hK hP zkL_1 (by decide) rfl rfl hl.1 rfl (Nat.le_of_ble_eq_true rfl) dX8_told_5 ⟨Nat.zero_le _, Nat.zero_le _⟩) hS (fun H locs hP hS => ?_)
  refine lv_if_ne (tgt := 13) hx hb dX8_told_8 (by decide) (fun c2 => ?_) (fun c2 => ?_)
  · have hf := zif_f c2 hf
    refine lv_iload_n hx hb dX8_told_13 rfl (lv_at hl 2 rfl) ?_
    rcases Classical.em (x2 = 0) with c7 | c7
    · have hf := zif_t c7 hf
      refine lv_tableIn (off := 26) (tgt := 40) hx hb dX8_told_14 (by rw [c7]; decide) (by rw [c7]; decide) (by rw [c7]; decide) (by decide) ?_
      refine lv_aload_n hx hb dX8_told_40 rfl (lv_at hl 0 rfl) ?_
      refine x_get (j := 0) (v := .ref (G.2.1 328)) hx hb hts hi8 hown hK hP zkL_0 rfl (by decide) (hts (.fieldLink RX8 12 "LeaseOffice" "thought" "LLeaseOffice$Thought;") (by decide +kernel)) rfl (by decide) dX8_told_41 ?_
      refine lv_iload_n hx hb dX8_told_44 rfl (lv_at hl 1 rfl) ?_
      obtain ⟨q3, hq3, hf⟩ := zb_e hf
      refine x_calli (x_runV (As := [.int x1]) (rest := []) ⟨hx, hb, hml, hown, hts⟩ (c_X6_nextOf l G hG I J x1 hq3) (cwV 1 hts gX8_told_X6_nextOf rfl rfl rfl (by decide +kernel) ⟨Nat.le_of_ble_eq_true rfl, Nat.le_of_ble_eq_true rfl⟩) hK hP zkL_328 (by decide) rfl rfl hl.1 rfl (Nat.le_of_ble_eq_true rfl) dX8_told_45 ⟨Nat.zero_le _, Nat.zero_le _⟩) hS (fun H locs hP hS => ?_)
      obtain rfl := Option.some.inj hf
      exact x_iret hx hb hr hlocks hK hP hS dX8_told_48
    · have hf := zif_f c7 hf
      rcases Classical.em (x2 = 1) with c8 | c8
      · have hf := zif_t c8 hf
        refine lv_tableIn (off := 35) (tgt := 49) hx hb dX8_told_14 (by rw [c8]; decide) (by rw [c8]; decide) (by rw [c8]; decide) (by decide) ?_
        refine lv_aload_n hx hb dX8_told_49 rfl (lv_at hl 0 rfl) ?_
        refine x_get (j := 0) (v := .ref (G.2.1 328)) hx hb hts hi8 hown hK hP zkL_0 rfl (by decide) (hts (.fieldLink RX8 12 "LeaseOffice" "thought" "LLeaseOffice$Thought;") (by decide +kernel)) rfl (by decide) dX8_told_50 ?_
        refine lv_iload_n hx hb dX8_told_53 rfl (lv_at hl 1 rfl) ?_
        obtain ⟨q4, hq4, hf⟩ := zb_e hf
        refine x_calli (x_runV (As := [.int x1]) (rest := []) ⟨hx, hb, hml, hown, hts⟩ (c_X6_suspectsOf l G hG I J x1 hq4) (cwV 1 hts gX8_told_X6_suspectsOf rfl rfl rfl (by decide +kernel) ⟨Nat.le_of_ble_eq_true rfl, Nat.le_of_ble_eq_true rfl⟩) hK hP zkL_328 (by decide) rfl rfl hl.1 rfl (Nat.le_of_ble_eq_true rfl) dX8_told_54 ⟨Nat.zero_le _, Nat.zero_le _⟩) hS (fun H locs hP hS => ?_)
        obtain rfl := Option.some.inj hf
        exact x_iret hx hb hr hlocks hK hP hS dX8_told_57
      · have hf := zif_f c8 hf
        rcases Classical.em (x2 = 2) with c9 | c9
        · have hf := zif_t c9 hf
          refine lv_tableIn (off := 44) (tgt := 58) hx hb dX8_told_14 (by rw [c9]; decide) (by rw [c9]; decide) (by rw [c9]; decide) (by decide) ?_
          refine lv_aload_n hx hb dX8_told_58 rfl (lv_at hl 0 rfl) ?_
          refine x_get (j := 1) (v := .ref (G.2.1 1)) hx hb hts hi8 hown hK hP zkL_0 rfl (by decide) (hts (.fieldLink RX8 20 "LeaseOffice" "office" "LLeaseOffice$Office;") (by decide +kernel)) rfl (by decide) dX8_told_59 ?_
          refine lv_iload_n hx hb dX8_told_62 rfl (lv_at hl 1 rfl) ?_
          obtain ⟨q5, hq5, hf⟩ := zb_e hf
          refine x_callr (x_runV (As := [.int x1]) (rest := []) ⟨hx, hb, hml, hown, hts⟩ (c_X2_toolAt l G hG I J 1 x1 zkL_1 hq5) (cwV 1 hts gX8_told_X2_toolAt rfl rfl rfl (by decide +kernel) ⟨Nat.le_of_ble_eq_true rfl, Nat.le_of_ble_eq_true rfl⟩) hK hP zkL_1 (by decide) rfl rfl hl.1 rfl (Nat.le_of_ble_eq_true rfl) dX8_told_63 ⟨Nat.zero_le _, Nat.zero_le _⟩) hS (fun H locs hP hS => ?_)
          refine lv_aload_n hx hb dX8_told_66 rfl (lv_at hl 0 rfl) ?_
          refine x_get (j := 1) (v := .ref (G.2.1 1)) hx hb hts hi8 hown hK hP zkL_0 rfl (by decide) (hts (.fieldLink RX8 20 "LeaseOffice" "office" "LLeaseOffice$Office;") (by decide +kernel)) rfl (by decide) dX8_told_67 ?_
          refine x_get (j := 7) (v := .int (I 1 7)) hx hb hts hi2 hown hK hP zkL_1 rfl (by decide) (hts (.fieldLink RX8 195 "LeaseOffice$Office" "day" "I") (by decide +kernel)) rfl (by decide) dX8_told_70 ?_
          obtain ⟨q6, hq6, hf⟩ := zb_e hf
          refine x_calli (x_runV (As := [.int (I 1 7)]) (rest := []) ⟨hx, hb, hml, hown, hts⟩ (c_X7_feeOn l G hG I J q5 (I 1 7) (kd_X2_toolAt zkL_1 hq5) hq6) (cwV 1 hts gX8_told_X7_feeOn rfl rfl rfl (by decide +kernel) ⟨Nat.le_of_ble_eq_true rfl, Nat.le_of_ble_eq_true rfl⟩) hK hP (kd_X2_toolAt zkL_1 hq5) (by decide) rfl rfl hl.1 rfl (Nat.le_of_ble_eq_true rfl) dX8_told_73 ⟨Nat.zero_le _, Nat.zero_le _⟩) hS (fun H locs hP hS => ?_)
          obtain rfl := Option.some.inj hf
          exact x_iret hx hb hr hlocks hK hP hS dX8_told_76
        · have hf := zif_f c9 hf
          have hD : W p l e (zrm 4 91) s m args below meth c H locs 0 0 (MQ below (zQi G r.1 r.2 J) args s 0 0 (zA G)) (F0 m 77 ls []) := by
            refine lv_iconst (v := (-1)) hx hb dX8_told_77 (by decide) ?_
            obtain rfl := Option.some.inj hf
            exact x_iret hx hb hr hlocks hK hP hS dX8_told_78
          rcases z_sw x2 0 2 3 (by decide) with h | ⟨k, hk, e⟩
          · exact lv_tableOut hx hb dX8_told_14 h (by decide) hD
          · match k, hk, e with
            | 0, _, e => exact absurd (e.trans (by decide)) c7
            | 1, _, e => exact absurd (e.trans (by decide)) c8
            | 2, _, e => exact absurd (e.trans (by decide)) c9
            | _ + 3, hk, _ => exact absurd hk (by omega)
  · have hf := zif_t c2 hf
    refine lv_iconst (v := (-1)) hx hb dX8_told_11 (by decide) ?_
    obtain rfl := Option.some.inj hf
    exact x_iret hx hb hr hlocks hK hP hS dX8_told_12
set_option maxRecDepth 100000 in
set_option maxHeartbeats 4000000 in
theorem c_X8_tool (l : Launch) (G : zGT) (hG : zOK G) (I J : zM) (x1 : Int32) {r : Int32 × zM} (hf : f_X8_tool I x1 = some r) : Met l yX8_tool wsX8_tool (zrm 4 89) (va_Pc [.ref (G.2.1 0), .int x1] (zS G I J)) (zQi G r.1 r.2 J) 0 0 (zA G) := by
  refine zMet (cc := cX8_tool) (n := 2) (ret := (some .int)) (by decide) rfl (Nat.le_of_ble_eq_true rfl) ?_
  intro p e s m args below meth c H locs ls F hK hP hS hl
  obtain ⟨hx, hb, hr, hml, hts, hown, hlocks⟩ := F
  have hown : s.vm.findClass RX8 = some m.cls := hown
  have hl : lv_has ls 2 [(0, .ref (G.2.1 0)), (1, .int x1)] := hl
  have hi8 : ∀ w ∈ wsX80, w ∈ wsX8_tool := fun _ h => List.mem_cons_of_mem _ (List.mem_append_left _ (List.mem_append_left _ (List.mem_append_left _ (List.mem_append_right _ h))))
  unfold f_X8_tool at hf
  refine lv_aload_n hx hb dX8_tool_0 rfl (lv_at hl 0 rfl) ?_
  refine x_get (j := 1) (v := .ref (G.2.1 1)) hx hb hts hi8 hown hK hP zkL_0 rfl (by decide) (hts (.fieldLink RX8 20 "LeaseOffice" "office" "LLeaseOffice$Office;") (by decide +kernel)) rfl (by decide) dX8_tool_1 ?_
  refine lv_iload_n hx hb dX8_tool_4 rfl (lv_at hl 1 rfl) ?_
  obtain ⟨q1, hq1, hf⟩ := zb_e hf
  refine x_calli (x_runV (As := [.int x1]) (rest := []) ⟨hx, hb, hml, hown, hts⟩ (c_X2_enterTool l G hG I J 1 x1 zkL_1 hq1) (cwV 1 hts gX8_tool_X2_enterTool rfl rfl rfl (by decide +kernel) ⟨Nat.le_of_ble_eq_true rfl, Nat.le_of_ble_eq_true rfl⟩) hK hP zkL_1 (by decide) rfl rfl hl.1 rfl (Nat.le_of_ble_eq_true rfl) dX8_tool_5 ⟨Nat.zero_le _, Nat.zero_le _⟩) hS (fun H locs hP hS => ?_)
  obtain rfl := Option.some.inj hf
  exact x_iret hx hb hr hlocks hK hP hS dX8_tool_8
set_option maxRecDepth 100000 in
set_option maxHeartbeats 4000000 in
theorem c_X8_toolOf (l : Launch) (G : zGT) (hG : zOK G) (I J : zM) (x1 : Int32) (x2 : Int32) {r : Int32} (hf : f_X8_toolOf I x1 x2 = some r) : Met l yX8_toolOf wsX8_toolOf (zrm 1 21) (va_Pc [.ref (G.2.1 0), .int x1, .int x2] (zS G I J)) (zQi G r I J) 0 0 (zA G) := by
  refine zMet (cc := cX8_toolOf) (n := 4) (ret := (some .int)) (by decide) rfl (Nat.le_of_ble_eq_true rfl) ?_
  intro p e s m args below meth c H locs ls F hK hP hS hl
  obtain ⟨hx, hb, hr, hml, hts, hown, hlocks⟩ := F
  have hown : s.vm.findClass RX8 = some m.cls := hown
  have hl : lv_has ls 4 [(0, .ref (G.2.1 0)), (1, .int x1), (2, .int x2)] := hl
  have hi7 : ∀ w ∈ wsX70, w ∈ wsX8_toolOf := fun _ h => List.mem_cons_of_mem _ (List.mem_append_left _ (List.mem_append_left _ (List.mem_append_right _ h)))
  have hi8 : ∀ w ∈ wsX80, w ∈ wsX8_toolOf := fun _ h => List.mem_cons_of_mem _ (List.mem_append_left _ (List.mem_append_left _ (List.mem_append_left _ (List.mem_append_right _ h))))
  unfold f_X8_toolOf at hf
  refine lv_aload_n hx hb dX8_toolOf_0 rfl (lv_at hl 0 rfl) ?_
  refine x_get (j := 1) (v := .ref (G.2.1 1)) hx hb hts hi8 hown hK hP zkL_0 rfl (by decide) (hts (.fieldLink RX8 20 "LeaseOffice" "office" "LLeaseOffice$Office;") (by decide +kernel)) rfl (by decide) dX8_toolOf_1 ?_
  refine lv_iload_n hx hb dX8_toolOf_4 rfl (lv_at hl 1 rfl) ?_
  obtain ⟨q1, hq1, hf⟩ := zb_e hf
  refine x_calli (x_runV (As := [.int x1]) (rest := []) ⟨hx, hb, hml, hown, hts⟩ (c_X2_isTool l G hG I J 1 x1 zkL_1 hq1) (cwV 1 hts gX8_toolOf_X2_isTool rfl rfl rfl (by decide +kernel) ⟨Nat.le_of_ble_eq_true rfl, Nat.le_of_ble_eq_true rfl⟩) hK hP zkL_1 (by decide) rfl rfl hl.1 rfl (Nat.le_of_ble_eq_true rfl) dX8_toolOf_5 ⟨Nat.zero_le _, Nat.zero_le _⟩) hS (fun H locs hP hS => ?_)
  refine lv_if_ne (tgt := 13) hx hb dX8_toolOf_8 (by decide) (fun c2 => ?_) (fun c2 => ?_)
  · have hf := zif_f c2 hf
    refine lv_aload_n hx hb dX8_toolOf_13 rfl (lv_at hl 0 rfl) ?_
    refine x_get (j := 1) (v := .ref (G.2.1 1)) hx hb hts hi8 hown hK hP zkL_0 rfl (by decide) (hts (.fieldLink RX8 20 "LeaseOffice" "office" "LLeaseOffice$Office;") (by decide +kernel)) rfl (by decide) dX8_toolOf_14 ?_
    refine lv_iload_n hx hb dX8_toolOf_17 rfl (lv_at hl 1 rfl) ?_
    obtain ⟨q3, hq3, hf⟩ := zb_e hf
    refine x_callr (x_runV (As := [.int x1]) (rest := []) ⟨hx, hb, hml, hown, hts⟩ (c_X2_toolAt l G hG I J 1 x1 zkL_1 hq3) (cwV 1 hts gX8_toolOf_X2_toolAt rfl rfl rfl (by decide +kernel) ⟨Nat.le_of_ble_eq_true rfl, Nat.le_of_ble_eq_true rfl⟩) hK hP zkL_1 (by decide) rfl rfl hl.1 rfl (Nat.le_of_ble_eq_true rfl) dX8_toolOf_18 ⟨Nat.zero_le _, Nat.zero_le _⟩) hS (fun H locs hP hS => ?_)
    refine lv_astore_n (lv' := [(3, .ref (G.2.1 (q3))), (0, .ref (G.2.1 0)), (1, .int x1), (2, .int x2)]) hx hb dX8_toolOf_21 rfl hl (by decide) rfl (fun ls hl => ?_)
    refine lv_iload_n hx hb dX8_toolOf_22 rfl (lv_at hl 3 rfl) ?_
    rcases Classical.em (x2 = 0) with c7 | c7
    · have hf := zif_t c7 hf
      refine lv_tableIn (off := 49) (tgt := 72) hx hb dX8_toolOf_23 (by rw [c7]; decide) (by rw [c7]; decide) (by rw [c7]; decide) (by decide) ?_
      refine lv_aload_n hx hb dX8_toolOf_72 rfl (lv_at hl 0 rfl) ?_
      refine x_get (j := 0) (v := .int (I q3 0)) hx hb hts hi7 hown hK hP (kd_X2_toolAt zkL_1 hq3) rfl (by decide) (hts (.fieldLink RX8 110 "LeaseOffice$Tool" "worth" "I") (by decide +kernel)) rfl (by decide) dX8_toolOf_73 ?_
      obtain rfl := Option.some.inj hf
      exact x_iret hx hb hr hlocks hK hP hS dX8_toolOf_76
    · have hf := zif_f c7 hf
      rcases Classical.em (x2 = 1) with c8 | c8
      · have hf := zif_t c8 hf
        refine lv_tableIn (off := 54) (tgt := 77) hx hb dX8_toolOf_23 (by rw [c8]; decide) (by rw [c8]; decide) (by rw [c8]; decide) (by decide) ?_
        refine lv_aload_n hx hb dX8_toolOf_77 rfl (lv_at hl 0 rfl) ?_
        refine x_get (j := 1) (v := .int (I q3 1)) hx hb hts hi7 hown hK hP (kd_X2_toolAt zkL_1 hq3) rfl (by decide) (hts (.fieldLink RX8 115 "LeaseOffice$Tool" "wear" "I") (by decide +kernel)) rfl (by decide) dX8_toolOf_78 ?_
        obtain rfl := Option.some.inj hf
        exact x_iret hx hb hr hlocks hK hP hS dX8_toolOf_81
      · have hf := zif_f c8 hf
        rcases Classical.em (x2 = 2) with c9 | c9
        · have hf := zif_t c9 hf
          refine lv_tableIn (off := 59) (tgt := 82) hx hb dX8_toolOf_23 (by rw [c9]; decide) (by rw [c9]; decide) (by rw [c9]; decide) (by decide) ?_
          refine lv_aload_n hx hb dX8_toolOf_82 rfl (lv_at hl 0 rfl) ?_
          refine x_get (j := 2) (v := .int (I q3 2)) hx hb hts hi7 hown hK hP (kd_X2_toolAt zkL_1 hq3) rfl (by decide) (hts (.fieldLink RX8 118 "LeaseOffice$Tool" "holder" "I") (by decide +kernel)) rfl (by decide) dX8_toolOf_83 ?_
          obtain rfl := Option.some.inj hf
          exact x_iret hx hb hr hlocks hK hP hS dX8_toolOf_86
        · have hf := zif_f c9 hf
          rcases Classical.em (x2 = 3) with c10 | c10
          · have hf := zif_t c10 hf
            refine lv_tableIn (off := 64) (tgt := 87) hx hb dX8_toolOf_23 (by rw [c10]; decide) (by rw [c10]; decide) (by rw [c10]; decide) (by decide) ?_
            refine lv_aload_n hx hb dX8_toolOf_87 rfl (lv_at hl 0 rfl) ?_
            refine x_get (j := 3) (v := .int (I q3 3)) hx hb hts hi7 hown hK hP (kd_X2_toolAt zkL_1 hq3) rfl (by decide) (hts (.fieldLink RX8 121 "LeaseOffice$Tool" "since" "I") (by decide +kernel)) rfl (by decide) dX8_toolOf_88 ?_
            obtain rfl := Option.some.inj hf
            exact x_iret hx hb hr hlocks hK hP hS dX8_toolOf_91
          · have hf := zif_f c10 hf
            rcases Classical.em (x2 = 4) with c11 | c11
            · have hf := zif_t c11 hf
              refine lv_tableIn (off := 69) (tgt := 92) hx hb dX8_toolOf_23 (by rw [c11]; decide) (by rw [c11]; decide) (by rw [c11]; decide) (by decide) ?_
              refine lv_aload_n hx hb dX8_toolOf_92 rfl (lv_at hl 0 rfl) ?_
              refine x_get (j := 4) (v := .int (I q3 4)) hx hb hts hi7 hown hK hP (kd_X2_toolAt zkL_1 hq3) rfl (by decide) (hts (.fieldLink RX8 124 "LeaseOffice$Tool" "due" "I") (by decide +kernel)) rfl (by decide) dX8_toolOf_93 ?_
              obtain rfl := Option.some.inj hf
              exact x_iret hx hb hr hlocks hK hP hS dX8_toolOf_96
            · have hf := zif_f c11 hf
              rcases Classical.em (x2 = 5) with c12 | c12
              · have hf := zif_t c12 hf
                refine lv_tableIn (off := 74) (tgt := 97) hx hb dX8_toolOf_23 (by rw [c12]; decide) (by rw [c12]; decide) (by rw [c12]; decide) (by decide) ?_
                refine lv_aload_n hx hb dX8_toolOf_97 rfl (lv_at hl 0 rfl) ?_
                refine x_get (j := 5) (v := .int (I q3 5)) hx hb hts hi7 hown hK hP (kd_X2_toolAt zkL_1 hq3) rfl (by decide) (hts (.fieldLink RX8 127 "LeaseOffice$Tool" "deposit" "I") (by decide +kernel)) rfl (by decide) dX8_toolOf_98 ?_
                obtain rfl := Option.some.inj hf
                exact x_iret hx hb hr hlocks hK hP hS dX8_toolOf_101
              · have hf := zif_f c12 hf
                rcases Classical.em (x2 = 6) with c13 | c13
                · have hf := zif_t c13 hf
                  refine lv_tableIn (off := 79) (tgt := 102) hx hb dX8_toolOf_23 (by rw [c13]; decide) (by rw [c13]; decide) (by rw [c13]; decide) (by decide) ?_
                  refine lv_aload_n hx hb dX8_toolOf_102 rfl (lv_at hl 0 rfl) ?_
                  refine x_get (j := 9) (v := .ref (G.2.1 (q3 + 5))) hx hb hts hi7 hown hK hP (kd_X2_toolAt zkL_1 hq3) rfl (by decide) (hts (.fieldLink RX8 130 "LeaseOffice$Tool" "claims" "LLeaseOffice$Table;") (by decide +kernel)) rfl (by decide) dX8_toolOf_103 ?_
                  obtain ⟨q4, hq4, hf⟩ := zb_e hf
                  refine x_calli (x_runV (As := []) (rest := []) ⟨hx, hb, hml, hown, hts⟩ (c_X4_size l G hG I J (q3 + 5) (zk_7_9 (kd_X2_toolAt zkL_1 hq3)) hq4) (cwV 0 hts gX8_toolOf_X4_size rfl rfl rfl (by decide +kernel) ⟨Nat.le_of_ble_eq_true rfl, Nat.le_of_ble_eq_true rfl⟩) hK hP (zk_7_9 (kd_X2_toolAt zkL_1 hq3)) (by decide) rfl rfl hl.1 rfl (Nat.le_of_ble_eq_true rfl) dX8_toolOf_106 ⟨Nat.zero_le _, Nat.zero_le _⟩) hS (fun H locs hP hS => ?_)
                  obtain rfl := Option.some.inj hf
                  exact x_iret hx hb hr hlocks hK hP hS dX8_toolOf_109
                · have hf := zif_f c13 hf
                  rcases Classical.em (x2 = 7) with c14 | c14
                  · have hf := zif_t c14 hf
                    refine lv_tableIn (off := 87) (tgt := 110) hx hb dX8_toolOf_23 (by rw [c14]; decide) (by rw [c14]; decide) (by rw [c14]; decide) (by decide) ?_
                    refine lv_aload_n hx hb dX8_toolOf_110 rfl (lv_at hl 0 rfl) ?_
                    refine x_get (j := 7) (v := .ref (G.2.1 (q3 + 1))) hx hb hts hi7 hown hK hP (kd_X2_toolAt zkL_1 hq3) rfl (by decide) (hts (.fieldLink RX8 139 "LeaseOffice$Tool" "links" "LLeaseOffice$Table;") (by decide +kernel)) rfl (by decide) dX8_toolOf_111 ?_
                    obtain ⟨q5, hq5, hf⟩ := zb_e hf
                    refine x_calli (x_runV (As := []) (rest := []) ⟨hx, hb, hml, hown, hts⟩ (c_X4_size l G hG I J (q3 + 1) (zk_7_7 (kd_X2_toolAt zkL_1 hq3)) hq5) (cwV 0 hts gX8_toolOf_X4_size rfl rfl rfl (by decide +kernel) ⟨Nat.le_of_ble_eq_true rfl, Nat.le_of_ble_eq_true rfl⟩) hK hP (zk_7_7 (kd_X2_toolAt zkL_1 hq3)) (by decide) rfl rfl hl.1 rfl (Nat.le_of_ble_eq_true rfl) dX8_toolOf_114 ⟨Nat.zero_le _, Nat.zero_le _⟩) hS (fun H locs hP hS => ?_)
                    obtain rfl := Option.some.inj hf
                    exact x_iret hx hb hr hlocks hK hP hS dX8_toolOf_117
                  · have hf := zif_f c14 hf
                    rcases Classical.em (x2 = 8) with c15 | c15
                    · have hf := zif_t c15 hf
                      refine lv_tableIn (off := 95) (tgt := 118) hx hb dX8_toolOf_23 (by rw [c15]; decide) (by rw [c15]; decide) (by rw [c15]; decide) (by decide) ?_
                      refine lv_aload_n hx hb dX8_toolOf_118 rfl (lv_at hl 0 rfl) ?_
                      refine x_get (j := 8) (v := .ref (G.2.1 (q3 + 3))) hx hb hts hi7 hown hK hP (kd_X2_toolAt zkL_1 hq3) rfl (by decide) (hts (.fieldLink RX8 142 "LeaseOffice$Tool" "looks" "LLeaseOffice$Table;") (by decide +kernel)) rfl (by decide) dX8_toolOf_119 ?_
                      obtain ⟨q6, hq6, hf⟩ := zb_e hf
                      refine x_calli (x_runV (As := []) (rest := []) ⟨hx, hb, hml, hown, hts⟩ (c_X4_size l G hG I J (q3 + 3) (zk_7_8 (kd_X2_toolAt zkL_1 hq3)) hq6) (cwV 0 hts gX8_toolOf_X4_size rfl rfl rfl (by decide +kernel) ⟨Nat.le_of_ble_eq_true rfl, Nat.le_of_ble_eq_true rfl⟩) hK hP (zk_7_8 (kd_X2_toolAt zkL_1 hq3)) (by decide) rfl rfl hl.1 rfl (Nat.le_of_ble_eq_true rfl) dX8_toolOf_122 ⟨Nat.zero_le _, Nat.zero_le _⟩) hS (fun H locs hP hS => ?_)
                      obtain rfl := Option.some.inj hf
                      exact x_iret hx hb hr hlocks hK hP hS dX8_toolOf_125
                    · have hf := zif_f c15 hf
                      have hD : W p l e (zrm 1 21) s m args below meth c H locs 0 0 (MQ below (zQi G r I J) args s 0 0 (zA G)) (F0 m 126 ls []) := by
                        refine lv_iconst (v := (-1)) hx hb dX8_toolOf_126 (by decide) ?_
                        obtain rfl := Option.some.inj hf
                        exact x_iret hx hb hr hlocks hK hP hS dX8_toolOf_127
                      rcases z_sw x2 0 8 9 (by decide) with h | ⟨k, hk, e⟩
                      · exact lv_tableOut hx hb dX8_toolOf_23 h (by decide) hD
                      · match k, hk, e with
                        | 0, _, e => exact absurd (e.trans (by decide)) c7
                        | 1, _, e => exact absurd (e.trans (by decide)) c8
                        | 2, _, e => exact absurd (e.trans (by decide)) c9
                        | 3, _, e => exact absurd (e.trans (by decide)) c10
                        | 4, _, e => exact absurd (e.trans (by decide)) c11
                        | 5, _, e => exact absurd (e.trans (by decide)) c12
                        | 6, _, e => exact absurd (e.trans (by decide)) c13
                        | 7, _, e => exact absurd (e.trans (by decide)) c14
                        | 8, _, e => exact absurd (e.trans (by decide)) c15
                        | _ + 9, hk, _ => exact absurd hk (by omega)
  · have hf := zif_t c2 hf
    refine lv_iconst (v := (-1)) hx hb dX8_toolOf_11 (by decide) ?_
    obtain rfl := Option.some.inj hf
    exact x_iret hx hb hr hlocks hK hP hS dX8_toolOf_12
set_option maxRecDepth 100000 in
set_option maxHeartbeats 4000000 in
theorem c_X8_use (l : Launch) (G : zGT) (hG : zOK G) (I J : zM) (x1 : Int32) (x2 : Int32) {r : Int32 × zM} (hf : f_X8_use I x1 x2 = some r) : Met l yX8_use wsX8_use (zrm 2 44) (va_Pc [.ref (G.2.1 0), .int x1, .int x2] (zS G I J)) (zQi G r.1 r.2 J) 0 0 (zA G) := by
  refine zMet (cc := cX8_use) (n := 3) (ret := (some .int)) (by decide) rfl (Nat.le_of_ble_eq_true rfl) ?_
  intro p e s m args below meth c H locs ls F hK hP hS hl
  obtain ⟨hx, hb, hr, hml, hts, hown, hlocks⟩ := F
  have hown : s.vm.findClass RX8 = some m.cls := hown
  have hl : lv_has ls 3 [(0, .ref (G.2.1 0)), (1, .int x1), (2, .int x2)] := hl
  have hi8 : ∀ w ∈ wsX80, w ∈ wsX8_use := fun _ h => List.mem_cons_of_mem _ (List.mem_append_left _ (List.mem_append_left _ (List.mem_append_right _ h)))
  unfold f_X8_use at hf
  refine lv_aload_n hx hb dX8_use_0 rfl (lv_at hl 0 rfl) ?_
  refine x_get (j := 1) (v := .ref (G.2.1 1)) hx hb hts hi8 hown hK hP zkL_0 rfl (by decide) (hts (.fieldLink RX8 20 "LeaseOffice" "office" "LLeaseOffice$Office;") (by decide +kernel)) rfl (by decide) dX8_use_1 ?_
  refine lv_iload_n hx hb dX8_use_4 rfl (lv_at hl 1 rfl) ?_
  refine lv_iload_n hx hb dX8_use_5 rfl (lv_at hl 2 rfl) ?_
  obtain ⟨q1, hq1, hf⟩ := zb_e hf
  refine x_calli (x_runV (As := [.int x1, .int x2]) (rest := []) ⟨hx, hb, hml, hown, hts⟩ (c_X2_wearDown l G hG I J 1 x1 x2 zkL_1 hq1) (cwV 2 hts gX8_use_X2_wearDown rfl rfl rfl (by decide +kernel) ⟨Nat.le_of_ble_eq_true rfl, Nat.le_of_ble_eq_true rfl⟩) hK hP zkL_1 (by decide) rfl rfl hl.1 rfl (Nat.le_of_ble_eq_true rfl) dX8_use_6 ⟨Nat.zero_le _, Nat.zero_le _⟩) hS (fun H locs hP hS => ?_)
  obtain rfl := Option.some.inj hf
  exact x_iret hx hb hr hlocks hK hP hS dX8_use_9
set_option maxRecDepth 100000 in
set_option maxHeartbeats 4000000 in
theorem c_X8_waive (l : Launch) (G : zGT) (hG : zOK G) (I J : zM) (x1 : Int32) (x2 : Int32) {r : Int32 × zM} (hf : f_X8_waive I x1 x2 = some r) : Met l yX8_waive wsX8_waive (zrm 3 69) (va_Pc [.ref (G.2.1 0), .int x1, .int x2] (zS G I J)) (zQi G r.1 r.2 J) 0 0 (zA G) := by
  refine zMet (cc := cX8_waive) (n := 3) (ret := (some .int)) (by decide) rfl (Nat.le_of_ble_eq_true rfl) ?_
  intro p e s m args below meth c H locs ls F hK hP hS hl
  obtain ⟨hx, hb, hr, hml, hts, hown, hlocks⟩ := F
  have hown : s.vm.findClass RX8 = some m.cls := hown
  have hl : lv_has ls 3 [(0, .ref (G.2.1 0)), (1, .int x1), (2, .int x2)] := hl
  have hi8 : ∀ w ∈ wsX80, w ∈ wsX8_waive := fun _ h => List.mem_cons_of_mem _ (List.mem_append_left _ (List.mem_append_left _ (List.mem_append_left _ (List.mem_append_right _ h))))
  unfold f_X8_waive at hf
  refine lv_aload_n hx hb dX8_waive_0 rfl (lv_at hl 0 rfl) ?_
  refine x_get (j := 1) (v := .ref (G.2.1 1)) hx hb hts hi8 hown hK hP zkL_0 rfl (by decide) (hts (.fieldLink RX8 20 "LeaseOffice" "office" "LLeaseOffice$Office;") (by decide +kernel)) rfl (by decide) dX8_waive_1 ?_
  refine lv_iload_n hx hb dX8_waive_4 rfl (lv_at hl 1 rfl) ?_
  refine lv_iload_n hx hb dX8_waive_5 rfl (lv_at hl 2 rfl) ?_
  obtain ⟨q1, hq1, hf⟩ := zb_e hf
  refine x_calli (x_runV (As := [.int x1, .int x2]) (rest := []) ⟨hx, hb, hml, hown, hts⟩ (c_X2_dropClaim l G hG I J 1 x1 x2 zkL_1 hq1) (cwV 2 hts gX8_waive_X2_dropClaim rfl rfl rfl (by decide +kernel) ⟨Nat.le_of_ble_eq_true rfl, Nat.le_of_ble_eq_true rfl⟩) hK hP zkL_1 (by decide) rfl rfl hl.1 rfl (Nat.le_of_ble_eq_true rfl) dX8_waive_6 ⟨Nat.zero_le _, Nat.zero_le _⟩) hS (fun H locs hP hS => ?_)
  obtain rfl := Option.some.inj hf
  exact x_iret hx hb hr hlocks hK hP hS dX8_waive_9
set_option maxRecDepth 100000 in
set_option maxHeartbeats 4000000 in
theorem c_X8_why (l : Launch) (G : zGT) (hG : zOK G) (I J : zM) (x1 : Int32) {r : Int32} (hf : f_X8_why I x1 = some r) : Met l yX8_why wsX8_why (zrm 0 0) (va_Pc [.ref (G.2.1 0), .int x1] (zS G I J)) (zQi G r I J) 0 0 (zA G) := by
  refine zMet (cc := cX8_why) (n := 3) (ret := (some .int)) (by decide) rfl (Nat.le_of_ble_eq_true rfl) ?_
  intro p e s m args below meth c H locs ls F hK hP hS hl
  obtain ⟨hx, hb, hr, hml, hts, hown, hlocks⟩ := F
  have hown : s.vm.findClass RX8 = some m.cls := hown
  have hl : lv_has ls 3 [(0, .ref (G.2.1 0)), (1, .int x1)] := hl
  have hi2 : ∀ w ∈ wsX20, w ∈ wsX8_why := fun _ h => List.mem_cons_of_mem _ (List.mem_append_right _ h)
  have hi8 : ∀ w ∈ wsX80, w ∈ wsX8_why := fun _ h => List.mem_cons_of_mem _ (List.mem_append_left _ (List.mem_append_right _ h))
  have J36 : ∀ (s0 : Int32) (H : Heap) (locs : List Loc) (ls : Array Slot), f_X8_why_j36 I s0 = some r → va_P G.1 vwCl (zW G I J) H → va_S (zA G) s.heap H locs → lv_has ls 3 [] → W p l e (zrm 0 0) s m args below meth c H locs 0 0 (MQ below (zQi G r I J) args s 0 0 (zA G)) (F0 m 36 ls [.int s0]) := by
    intro s0 H locs ls hf hP hS hl
    unfold f_X8_why_j36 at hf
    refine lv_istore_n (lv' := [(2, .int s0)]) hx hb dX8_why_36 rfl hl (by decide) rfl (fun ls hl => ?_)
    refine lv_iload_n hx hb dX8_why_37 rfl (lv_at hl 0 rfl) ?_
    refine lv_if_ne (tgt := 46) hx hb dX8_why_38 (by decide) (fun c4 => ?_) (fun c4 => ?_)
    · have hf := zif_f c4 hf
      refine lv_iload_n hx hb dX8_why_46 rfl (lv_at hl 0 rfl) ?_
      obtain rfl := Option.some.inj hf
      exact x_iret hx hb hr hlocks hK hP hS dX8_why_47
    · have hf := zif_t c4 hf
      refine lv_bipush (v := (-2)) hx hb dX8_why_41 (by decide) ?_
      refine lv_goto (tgt := 47) hx hb dX8_why_43 (by decide) ?_
      obtain rfl := Option.some.inj hf
      exact x_iret hx hb hr hlocks hK hP hS dX8_why_47
  unfold f_X8_why at hf
  refine lv_iload_n hx hb dX8_why_0 rfl (lv_at hl 1 rfl) ?_
  refine lv_if_ge (tgt := 6) hx hb dX8_why_1 (by decide) (fun c1 => ?_) (fun c1 => ?_)
  · have hf := zif_t c1 hf
    refine lv_iload_n hx hb dX8_why_6 rfl (lv_at hl 1 rfl) ?_
    refine lv_if_ne (tgt := 20) hx hb dX8_why_7 (by decide) (fun c2 => ?_) (fun c2 => ?_)
    · have hf := zif_f c2 hf
      refine lv_iload_n hx hb dX8_why_20 rfl (lv_at hl 1 rfl) ?_
      refine lv_iconst (v := 1) hx hb dX8_why_21 (by decide) ?_
      refine lv_icmp_ne (tgt := 35) hx hb dX8_why_22 (by decide) (fun c3 => ?_) (fun c3 => ?_)
      · have hf := zif_f c3 hf
        refine lv_iconst (v := 0) hx hb dX8_why_35 (by decide) ?_
        exact J36 0 H locs ls hf hP hS (lv_sub hl [] rfl)
      · have hf := zif_t c3 hf
        refine lv_aload_n hx hb dX8_why_25 rfl (lv_at hl 0 rfl) ?_
        refine x_get (j := 1) (v := .ref (G.2.1 1)) hx hb hts hi8 hown hK hP zkL_0 rfl (by decide) (hts (.fieldLink RX8 20 "LeaseOffice" "office" "LLeaseOffice$Office;") (by decide +kernel)) rfl (by decide) dX8_why_26 ?_
        refine x_get (j := 10) (v := .int (I 1 10)) hx hb hts hi2 hown hK hP zkL_1 rfl (by decide) (hts (.fieldLink RX8 186 "LeaseOffice$Office" "whyBehind" "I") (by decide +kernel)) rfl (by decide) dX8_why_29 ?_
        refine lv_goto (tgt := 36) hx hb dX8_why_32 (by decide) ?_
        exact J36 (I 1 10) H locs ls hf hP hS (lv_sub hl [] rfl)
    · have hf := zif_t c2 hf
      refine lv_aload_n hx hb dX8_why_10 rfl (lv_at hl 0 rfl) ?_
      refine x_get (j := 1) (v := .ref (G.2.1 1)) hx hb hts hi8 hown hK hP zkL_0 rfl (by decide) (hts (.fieldLink RX8 20 "LeaseOffice" "office" "LLeaseOffice$Office;") (by decide +kernel)) rfl (by decide) dX8_why_11 ?_
      refine x_get (j := 9) (v := .int (I 1 9)) hx hb hts hi2 hown hK hP zkL_1 rfl (by decide) (hts (.fieldLink RX8 183 "LeaseOffice$Office" "why" "I") (by decide +kernel)) rfl (by decide) dX8_why_14 ?_
      refine lv_goto (tgt := 36) hx hb dX8_why_17 (by decide) ?_
      exact J36 (I 1 9) H locs ls hf hP hS (lv_sub hl [] rfl)
  · have hf := zif_f c1 hf
    refine lv_iconst (v := (-1)) hx hb dX8_why_4 (by decide) ?_
    obtain rfl := Option.some.inj hf
    exact x_iret hx hb hr hlocks hK hP hS dX8_why_5
set_option maxRecDepth 100000 in
set_option maxHeartbeats 4000000 in
theorem c_X8_wish (l : Launch) (G : zGT) (hG : zOK G) (I J : zM) (x1 : Int32) (x2 : Int32) (x3 : Int32) {r : Int32 × zM} (hf : f_X8_wish I x1 x2 x3 = some r) : Met l yX8_wish wsX8_wish (zrm 2 46) (va_Pc [.ref (G.2.1 0), .int x1, .int x2, .int x3] (zS G I J)) (zQi G r.1 r.2 J) 0 0 (zA G) := by
  refine zMet (cc := cX8_wish) (n := 4) (ret := (some .int)) (by decide) rfl (Nat.le_of_ble_eq_true rfl) ?_
  intro p e s m args below meth c H locs ls F hK hP hS hl
  obtain ⟨hx, hb, hr, hml, hts, hown, hlocks⟩ := F
  have hown : s.vm.findClass RX8 = some m.cls := hown
  have hl : lv_has ls 4 [(0, .ref (G.2.1 0)), (1, .int x1), (2, .int x2), (3, .int x3)] := hl
  have hi8 : ∀ w ∈ wsX80, w ∈ wsX8_wish := fun _ h => List.mem_cons_of_mem _ (List.mem_append_left _ (List.mem_append_left _ (List.mem_append_right _ h)))
  unfold f_X8_wish at hf
  refine lv_aload_n hx hb dX8_wish_0 rfl (lv_at hl 0 rfl) ?_
  refine x_get (j := 1) (v := .ref (G.2.1 1)) hx hb hts hi8 hown hK hP zkL_0 rfl (by decide) (hts (.fieldLink RX8 20 "LeaseOffice" "office" "LLeaseOffice$Office;") (by decide +kernel)) rfl (by decide) dX8_wish_1 ?_
  refine lv_iload_n hx hb dX8_wish_4 rfl (lv_at hl 1 rfl) ?_
  refine lv_iload_n hx hb dX8_wish_5 rfl (lv_at hl 2 rfl) ?_
  refine lv_iload_n hx hb dX8_wish_6 rfl (lv_at hl 3 rfl) ?_
  obtain ⟨q1, hq1, hf⟩ := zb_e hf
  refine x_calli (x_runV (As := [.int x1, .int x2, .int x3]) (rest := []) ⟨hx, hb, hml, hown, hts⟩ (c_X2_setWish l G hG I J 1 x1 x2 x3 zkL_1 hq1) (cwV 3 hts gX8_wish_X2_setWish rfl rfl rfl (by decide +kernel) ⟨Nat.le_of_ble_eq_true rfl, Nat.le_of_ble_eq_true rfl⟩) hK hP zkL_1 (by decide) rfl rfl hl.1 rfl (Nat.le_of_ble_eq_true rfl) dX8_wish_7 ⟨Nat.zero_le _, Nat.zero_le _⟩) hS (fun H locs hP hS => ?_)
  obtain rfl := Option.some.inj hf
  exact x_iret hx hb hr hlocks hK hP hS dX8_wish_10
