set_option maxRecDepth 100000 in
set_option maxHeartbeats 4000000 in
theorem c_X0_isBlamed (l : Launch) (G : zGT) (hG : zOK G) (I J : zM) (x0 : Nat) (x1 : Int32) (hk0 : zK x0 = 0) {r : Int32} (hf : f_X0_isBlamed I x0 x1 = some r) : Met l yX0_isBlamed wsX0_isBlamed (zrm 0 0) (va_Pc [.ref (G.2.1 (x0)), .int x1] (zS G I J)) (zQi G r I J) 0 0 (zA G) := by
  refine zMet (cc := cX0_isBlamed) (n := 2) (ret := (some .boolean)) (by decide) rfl (Nat.le_of_ble_eq_true rfl) ?_
  intro p e s m args below meth c H locs ls F hK hP hS hl
  obtain ⟨hx, hb, hr, hml, hts, hown, hlocks⟩ := F
  have hown : s.vm.findClass RX0 = some m.cls := hown
  have hl : lv_has ls 2 [(0, .ref (G.2.1 (x0))), (1, .int x1)] := hl
  have hi0 : ∀ w ∈ wsX00, w ∈ wsX0_isBlamed := fun _ h => List.mem_cons_of_mem _ (List.mem_append_right _ h)
  unfold f_X0_isBlamed at hf
  refine lv_aload_n hx hb dX0_isBlamed_0 rfl (lv_at hl 0 rfl) ?_
  refine x_get (j := 1) (v := .int (I x0 1)) hx hb hts hi0 hown hK hP hk0 rfl (by decide) (hts (.fieldLink RX0 23 "LeaseOffice$Blame" "bits" "I") (by decide +kernel)) rfl (by decide) dX0_isBlamed_1 ?_
  refine lv_iload_n hx hb dX0_isBlamed_4 rfl (lv_at hl 1 rfl) ?_
  refine lv_ishr hx hb dX0_isBlamed_5 ?_
  refine lv_iconst (v := 1) hx hb dX0_isBlamed_6 (by decide) ?_
  refine lv_iand hx hb dX0_isBlamed_7 ?_
  refine lv_iconst (v := 1) hx hb dX0_isBlamed_8 (by decide) ?_
  refine lv_icmp_ne (tgt := 16) hx hb dX0_isBlamed_9 (by decide) (fun c1 => ?_) (fun c1 => ?_)
  · have hf := zif_f c1 hf
    refine lv_iconst (v := 0) hx hb dX0_isBlamed_16 (by decide) ?_
    obtain rfl := Option.some.inj hf
    exact x_zret (v := 0) rfl hx hb hr hlocks hK hP hS dX0_isBlamed_17
  · have hf := zif_t c1 hf
    refine lv_iconst (v := 1) hx hb dX0_isBlamed_12 (by decide) ?_
    refine lv_goto (tgt := 17) hx hb dX0_isBlamed_13 (by decide) ?_
    obtain rfl := Option.some.inj hf
    exact x_zret (v := 1) rfl hx hb hr hlocks hK hP hS dX0_isBlamed_17
set_option maxRecDepth 100000 in
set_option maxHeartbeats 4000000 in
theorem c_X4_append (l : Launch) (G : zGT) (hG : zOK G) (I J : zM) (x0 : Nat) (hk0 : zK x0 = 4) {r : Int32 × zM} (hf : f_X4_append I x0 = some r) : Met l yX4_append wsX4_append (zrm 0 0) (va_Pc [.ref (G.2.1 (x0))] (zS G I J)) (zQi G r.1 r.2 J) 0 0 (zA G) := by
  refine zMet (cc := cX4_append) (n := 3) (ret := (some .int)) (by decide) rfl (Nat.le_of_ble_eq_true rfl) ?_
  intro p e s m args below meth c H locs ls F hK hP hS hl
  obtain ⟨hx, hb, hr, hml, hts, hown, hlocks⟩ := F
  have hown : s.vm.findClass RX4 = some m.cls := hown
  have hl : lv_has ls 3 [(0, .ref (G.2.1 (x0)))] := hl
  have hi4 : ∀ w ∈ wsX40, w ∈ wsX4_append := fun _ h => List.mem_cons_of_mem _ (List.mem_append_right _ h)
  have L26 : ∀ (K : zM → Option (Int32 × zM)) (hKK : ∀ (M2 : zM) (H : Heap) (locs : List Loc) (ls : Array Slot), K M2 = some r → va_P G.1 vwCl (zW G M2 J) H → va_S (zA G) s.heap H locs → lv_has ls 3 [(0, .ref (G.2.1 (x0)))] → W p l e (zrm 0 0) s m args below meth c H locs 0 0 (MQ below (zQi G r.1 r.2 J) args s 0 0 (zA G)) (F0 m 73 ls [])) (n : Nat) (M : zM) (y1 : Int32) (H : Heap) (locs : List Loc) (ls : Array Slot), f_X4_append_l26 x0 K n M y1 = some r → va_P G.1 vwCl (zW G M J) H → va_S (zA G) s.heap H locs → lv_has ls 3 [(0, .ref (G.2.1 (x0))), (1, .int y1)] → W p l e (zrm 0 0) s m args below meth c H locs 0 0 (MQ below (zQi G r.1 r.2 J) args s 0 0 (zA G)) (F0 m 26 ls []) := by
    intro K hKK n
    induction n with
    | zero =>
      intro M y1 H locs ls hf
      rw [f_X4_append_l26] at hf
      cases hf
    | succ n ih =>
      intro M y1 H locs ls hf hP hS hl
      rw [f_X4_append_l26] at hf
      refine lv_iload_n hx hb dX4_append_26 rfl (lv_at hl 1 rfl) ?_
      refine lv_aload_n hx hb dX4_append_27 rfl (lv_at hl 0 rfl) ?_
      refine x_get (j := 2) (v := .ref (G.2.1 (x0 + 1))) hx hb hts hi4 hown hK hP hk0 rfl (by decide) (hts (.fieldLink RX4 22 "LeaseOffice$Table" "cells" "[I") (by decide +kernel)) rfl (by decide) dX4_append_28 ?_
      refine x_alen 0 (v := (Int32.ofNat (zLn (x0 + 1)))) hx hb hK hP (zK_lt (zk_4_2 hk0) (by decide)) (zE_10 (zk_4_2 hk0) rfl) rfl rfl dX4_append_31 ?_
      refine lv_icmp_ge (tgt := 73) hx hb dX4_append_32 (by decide) (fun c2 => ?_) (fun c2 => ?_)
      · have hf := zif_t c2 hf
        exact hKK M H locs ls hf hP hS (lv_sub hl [0] rfl)
      · have hf := zif_f c2 hf
        refine lv_iload_n hx hb dX4_append_35 rfl (lv_at hl 1 rfl) ?_
        refine lv_aload_n hx hb dX4_append_36 rfl (lv_at hl 0 rfl) ?_
        refine x_get (j := 1) (v := .int (M x0 1)) hx hb hts hi4 hown hK hP hk0 rfl (by decide) (hts (.fieldLink RX4 13 "LeaseOffice$Table" "width" "I") (by decide +kernel)) rfl (by decide) dX4_append_37 ?_
        refine lv_iadd hx hb dX4_append_40 ?_
        obtain ⟨w3, ew3, hf⟩ := zlet_e hf
        refine z_topi ew3 ?_
        refine lv_istore_n (lv' := [(2, .int w3), (0, .ref (G.2.1 (x0))), (1, .int y1)]) hx hb dX4_append_41 rfl hl (by decide) rfl (fun ls hl => ?_)
        refine lv_iload_n hx hb dX4_append_42 rfl (lv_at hl 0 rfl) ?_
        refine lv_if_lt (tgt := 67) hx hb dX4_append_43 (by decide) (fun c4 => ?_) (fun c4 => ?_)
        · have hf := zif_t c4 hf
          refine lv_iinc (v := (y1 + 1)) (lv' := [(1, .int (y1 + 1)), (2, .int w3), (0, .ref (G.2.1 (x0)))]) hx hb dX4_append_67 hl (k := 2) rfl rfl (by decide) rfl (fun ls hl => ?_)
          refine lv_goto (tgt := 26) hx hb dX4_append_70 (by decide) ?_
          exact ih M (y1 + 1) H locs ls hf hP hS (lv_sub hl [2, 0] rfl)
        · have hf := zif_f c4 hf
          refine lv_iload_n hx hb dX4_append_46 rfl (lv_at hl 0 rfl) ?_
          refine lv_aload_n hx hb dX4_append_47 rfl (lv_at hl 1 rfl) ?_
          refine x_get (j := 2) (v := .ref (G.2.1 (x0 + 1))) hx hb hts hi4 hown hK hP hk0 rfl (by decide) (hts (.fieldLink RX4 22 "LeaseOffice$Table" "cells" "[I") (by decide +kernel)) rfl (by decide) dX4_append_48 ?_
          refine x_alen 0 (v := (Int32.ofNat (zLn (x0 + 1)))) hx hb hK hP (zK_lt (zk_4_2 hk0) (by decide)) (zE_10 (zk_4_2 hk0) rfl) rfl rfl dX4_append_51 ?_
          refine lv_icmp_ge (tgt := 67) hx hb dX4_append_52 (by decide) (fun c5 => ?_) (fun c5 => ?_)
          · have hf := zif_t c5 hf
            refine lv_iinc (v := (y1 + 1)) (lv' := [(1, .int (y1 + 1)), (2, .int w3), (0, .ref (G.2.1 (x0)))]) hx hb dX4_append_67 hl (k := 2) rfl rfl (by decide) rfl (fun ls hl => ?_)
            refine lv_goto (tgt := 26) hx hb dX4_append_70 (by decide) ?_
            exact ih M (y1 + 1) H locs ls hf hP hS (lv_sub hl [2, 0] rfl)
          · have hf := zif_f c5 hf
            refine lv_aload_n hx hb dX4_append_55 rfl (lv_at hl 1 rfl) ?_
            refine x_get (j := 2) (v := .ref (G.2.1 (x0 + 1))) hx hb hts hi4 hown hK hP hk0 rfl (by decide) (hts (.fieldLink RX4 22 "LeaseOffice$Table" "cells" "[I") (by decide +kernel)) rfl (by decide) dX4_append_56 ?_
            refine lv_iload_n hx hb dX4_append_59 rfl (lv_at hl 2 rfl) ?_
            refine lv_aload_n hx hb dX4_append_60 rfl (lv_at hl 1 rfl) ?_
            refine x_get (j := 2) (v := .ref (G.2.1 (x0 + 1))) hx hb hts hi4 hown hK hP hk0 rfl (by decide) (hts (.fieldLink RX4 22 "LeaseOffice$Table" "cells" "[I") (by decide +kernel)) rfl (by decide) dX4_append_61 ?_
            refine lv_iload_n hx hb dX4_append_64 rfl (lv_at hl 0 rfl) ?_
            obtain ⟨h6, hf⟩ := zck_e hf
            refine x_iald hx hb hK hP (zK_lt (zk_4_2 hk0) (by decide)) (zE_10 (zk_4_2 hk0) rfl) (zin_e h6) dX4_append_65 ?_
            obtain ⟨h8, hf⟩ := zck_e hf
            obtain ⟨M7, eM7, hf⟩ := zlet_e hf
            refine x_iastC eM7 hx hb hG hK hP hS (zk_4_2 hk0) rfl (zin_e h8) dX4_append_66 (fun H locs hP hS => ?_)
            refine lv_iinc (v := (y1 + 1)) (lv' := [(1, .int (y1 + 1)), (2, .int w3), (0, .ref (G.2.1 (x0)))]) hx hb dX4_append_67 hl (k := 2) rfl rfl (by decide) rfl (fun ls hl => ?_)
            refine lv_goto (tgt := 26) hx hb dX4_append_70 (by decide) ?_
            exact ih M7 (y1 + 1) H locs ls hf hP hS (lv_sub hl [2, 0] rfl)
  have L85 : ∀ (n : Nat) (M : zM) (y1 : Int32) (H : Heap) (locs : List Loc) (ls : Array Slot), f_X4_append_l85 x0 n M y1 = some r → va_P G.1 vwCl (zW G M J) H → va_S (zA G) s.heap H locs → lv_has ls 3 [(0, .ref (G.2.1 (x0))), (1, .int y1)] → W p l e (zrm 0 0) s m args below meth c H locs 0 0 (MQ below (zQi G r.1 r.2 J) args s 0 0 (zA G)) (F0 m 85 ls []) := by
    intro n
    induction n with
    | zero =>
      intro M y1 H locs ls hf
      rw [f_X4_append_l85] at hf
      cases hf
    | succ n ih =>
      intro M y1 H locs ls hf hP hS hl
      rw [f_X4_append_l85] at hf
      refine lv_iload_n hx hb dX4_append_85 rfl (lv_at hl 1 rfl) ?_
      refine lv_if_lt (tgt := 124) hx hb dX4_append_86 (by decide) (fun c11 => ?_) (fun c11 => ?_)
      · have hf := zif_t c11 hf
        refine lv_aload_n hx hb dX4_append_124 rfl (lv_at hl 0 rfl) ?_
        refine x_get (j := 3) (v := .int (M x0 3)) hx hb hts hi4 hown hK hP hk0 rfl (by decide) (hts (.fieldLink RX4 26 "LeaseOffice$Table" "size" "I") (by decide +kernel)) rfl (by decide) dX4_append_125 ?_
        refine lv_iconst (v := 1) hx hb dX4_append_128 (by decide) ?_
        refine lv_isub hx hb dX4_append_129 ?_
        obtain rfl := Option.some.inj hf
        exact x_iret hx hb hr hlocks hK hP hS dX4_append_130
      · have hf := zif_f c11 hf
        refine lv_iload_n hx hb dX4_append_89 rfl (lv_at hl 1 rfl) ?_
        refine lv_aload_n hx hb dX4_append_90 rfl (lv_at hl 0 rfl) ?_
        refine x_get (j := 3) (v := .int (M x0 3)) hx hb hts hi4 hown hK hP hk0 rfl (by decide) (hts (.fieldLink RX4 26 "LeaseOffice$Table" "size" "I") (by decide +kernel)) rfl (by decide) dX4_append_91 ?_
        refine lv_aload_n hx hb dX4_append_94 rfl (lv_at hl 0 rfl) ?_
        refine x_get (j := 1) (v := .int (M x0 1)) hx hb hts hi4 hown hK hP hk0 rfl (by decide) (hts (.fieldLink RX4 13 "LeaseOffice$Table" "width" "I") (by decide +kernel)) rfl (by decide) dX4_append_95 ?_
        refine lv_imul hx hb dX4_append_98 ?_
        refine lv_icmp_ge (tgt := 124) hx hb dX4_append_99 (by decide) (fun c12 => ?_) (fun c12 => ?_)
        · have hf := zif_t c12 hf
          refine lv_aload_n hx hb dX4_append_124 rfl (lv_at hl 0 rfl) ?_
          refine x_get (j := 3) (v := .int (M x0 3)) hx hb hts hi4 hown hK hP hk0 rfl (by decide) (hts (.fieldLink RX4 26 "LeaseOffice$Table" "size" "I") (by decide +kernel)) rfl (by decide) dX4_append_125 ?_
          refine lv_iconst (v := 1) hx hb dX4_append_128 (by decide) ?_
          refine lv_isub hx hb dX4_append_129 ?_
          obtain rfl := Option.some.inj hf
          exact x_iret hx hb hr hlocks hK hP hS dX4_append_130
        · have hf := zif_f c12 hf
          refine lv_iload_n hx hb dX4_append_102 rfl (lv_at hl 1 rfl) ?_
          refine lv_aload_n hx hb dX4_append_103 rfl (lv_at hl 0 rfl) ?_
          refine x_get (j := 2) (v := .ref (G.2.1 (x0 + 1))) hx hb hts hi4 hown hK hP hk0 rfl (by decide) (hts (.fieldLink RX4 22 "LeaseOffice$Table" "cells" "[I") (by decide +kernel)) rfl (by decide) dX4_append_104 ?_
          refine x_alen 0 (v := (Int32.ofNat (zLn (x0 + 1)))) hx hb hK hP (zK_lt (zk_4_2 hk0) (by decide)) (zE_10 (zk_4_2 hk0) rfl) rfl rfl dX4_append_107 ?_
          refine lv_icmp_ge (tgt := 124) hx hb dX4_append_108 (by decide) (fun c13 => ?_) (fun c13 => ?_)
          · have hf := zif_t c13 hf
            refine lv_aload_n hx hb dX4_append_124 rfl (lv_at hl 0 rfl) ?_
            refine x_get (j := 3) (v := .int (M x0 3)) hx hb hts hi4 hown hK hP hk0 rfl (by decide) (hts (.fieldLink RX4 26 "LeaseOffice$Table" "size" "I") (by decide +kernel)) rfl (by decide) dX4_append_125 ?_
            refine lv_iconst (v := 1) hx hb dX4_append_128 (by decide) ?_
            refine lv_isub hx hb dX4_append_129 ?_
            obtain rfl := Option.some.inj hf
            exact x_iret hx hb hr hlocks hK hP hS dX4_append_130
          · have hf := zif_f c13 hf
            refine lv_aload_n hx hb dX4_append_111 rfl (lv_at hl 0 rfl) ?_
            refine x_get (j := 2) (v := .ref (G.2.1 (x0 + 1))) hx hb hts hi4 hown hK hP hk0 rfl (by decide) (hts (.fieldLink RX4 22 "LeaseOffice$Table" "cells" "[I") (by decide +kernel)) rfl (by decide) dX4_append_112 ?_
            refine lv_iload_n hx hb dX4_append_115 rfl (lv_at hl 1 rfl) ?_
            refine lv_iconst (v := 0) hx hb dX4_append_116 (by decide) ?_
            obtain ⟨h15, hf⟩ := zck_e hf
            obtain ⟨M14, eM14, hf⟩ := zlet_e hf
            refine x_iastC eM14 hx hb hG hK hP hS (zk_4_2 hk0) rfl (zin_e h15) dX4_append_117 (fun H locs hP hS => ?_)
            refine lv_iinc (v := (y1 + 1)) (lv' := [(1, .int (y1 + 1)), (0, .ref (G.2.1 (x0)))]) hx hb dX4_append_118 hl (k := 1) rfl rfl (by decide) rfl (fun ls hl => ?_)
            refine lv_goto (tgt := 85) hx hb dX4_append_121 (by decide) ?_
            exact ih M14 (y1 + 1) H locs ls hf hP hS (lv_sub hl [1, 0] rfl)
  have J73 : ∀ (M : zM) (H : Heap) (locs : List Loc) (ls : Array Slot), f_X4_append_j73 M x0 = some r → va_P G.1 vwCl (zW G M J) H → va_S (zA G) s.heap H locs → lv_has ls 3 [(0, .ref (G.2.1 (x0)))] → W p l e (zrm 0 0) s m args below meth c H locs 0 0 (MQ below (zQi G r.1 r.2 J) args s 0 0 (zA G)) (F0 m 73 ls []) := by
    intro M H locs ls hf hP hS hl
    unfold f_X4_append_j73 at hf
    refine lv_aload_n hx hb dX4_append_73 rfl (lv_at hl 0 rfl) ?_
    refine x_get (j := 3) (v := .int (M x0 3)) hx hb hts hi4 hown hK hP hk0 rfl (by decide) (hts (.fieldLink RX4 26 "LeaseOffice$Table" "size" "I") (by decide +kernel)) rfl (by decide) dX4_append_74 ?_
    refine lv_iconst (v := 1) hx hb dX4_append_77 (by decide) ?_
    refine lv_isub hx hb dX4_append_78 ?_
    refine lv_aload_n hx hb dX4_append_79 rfl (lv_at hl 0 rfl) ?_
    refine x_get (j := 1) (v := .int (M x0 1)) hx hb hts hi4 hown hK hP hk0 rfl (by decide) (hts (.fieldLink RX4 13 "LeaseOffice$Table" "width" "I") (by decide +kernel)) rfl (by decide) dX4_append_80 ?_
    refine lv_imul hx hb dX4_append_83 ?_
    obtain ⟨w10, ew10, hf⟩ := zlet_e hf
    refine z_topi ew10 ?_
    refine lv_istore_n (lv' := [(1, .int w10), (0, .ref (G.2.1 (x0)))]) hx hb dX4_append_84 rfl hl (by decide) rfl (fun ls hl => ?_)
    exact L85 zFu M w10 H locs ls hf hP hS (lv_sub hl [1, 0] rfl)
  unfold f_X4_append at hf
  refine lv_aload_n hx hb dX4_append_0 rfl (lv_at hl 0 rfl) ?_
  refine x_get (j := 3) (v := .int (I x0 3)) hx hb hts hi4 hown hK hP hk0 rfl (by decide) (hts (.fieldLink RX4 26 "LeaseOffice$Table" "size" "I") (by decide +kernel)) rfl (by decide) dX4_append_1 ?_
  refine lv_aload_n hx hb dX4_append_4 rfl (lv_at hl 0 rfl) ?_
  refine x_get (j := 0) (v := .int (I x0 0)) hx hb hts hi4 hown hK hP hk0 rfl (by decide) (hts (.fieldLink RX4 7 "LeaseOffice$Table" "rows" "I") (by decide +kernel)) rfl (by decide) dX4_append_5 ?_
  refine lv_icmp_ge (tgt := 24) hx hb dX4_append_8 (by decide) (fun c1 => ?_) (fun c1 => ?_)
  · have hf := zif_t c1 hf
    refine lv_iconst (v := 0) hx hb dX4_append_24 (by decide) ?_
    refine lv_istore_n (lv' := [(1, .int 0), (0, .ref (G.2.1 (x0)))]) hx hb dX4_append_25 rfl hl (by decide) rfl (fun ls hl => ?_)
    refine L26 _ (fun M9 H locs ls hf hP hS hl => ?_) zFu I 0 H locs ls hf hP hS (lv_sub hl [1, 0] rfl)
    exact J73 M9 H locs ls hf hP hS (lv_sub hl [0] rfl)
  · have hf := zif_f c1 hf
    refine lv_aload_n hx hb dX4_append_11 rfl (lv_at hl 0 rfl) ?_
    refine lv_dup hx hb dX4_append_12 rfl ?_
    refine x_get (j := 3) (v := .int (I x0 3)) hx hb hts hi4 hown hK hP hk0 rfl (by decide) (hts (.fieldLink RX4 26 "LeaseOffice$Table" "size" "I") (by decide +kernel)) rfl (by decide) dX4_append_13 ?_
    refine lv_iconst (v := 1) hx hb dX4_append_16 (by decide) ?_
    refine lv_iadd hx hb dX4_append_17 ?_
    obtain ⟨M16, eM16, hf⟩ := zlet_e hf
    refine x_put (j := 3) (I2 := M16) (J2 := J) (ty0 := tyX4) (ty := .int) hx hb hts hi4 hown hG hK hP hS hk0 rfl tyX4_ok nmX4 (by decide) (hts (.fieldLink RX4 26 "LeaseOffice$Table" "size" "I") (by decide +kernel)) rfl (by decide +kernel) rfl rfl (Nat.le_of_ble_eq_true rfl) (by rw [eM16]; exact zs_4_3 _) (by rw [eM16]; exact zo_C) (by decide) dX4_append_18 (fun H locs hP hS => ?_)
    refine lv_goto (tgt := 73) hx hb dX4_append_21 (by decide) ?_
    exact J73 M16 H locs ls hf hP hS (lv_sub hl [0] rfl)
set_option maxRecDepth 100000 in
set_option maxHeartbeats 4000000 in
theorem c_X4_setCell (l : Launch) (G : zGT) (hG : zOK G) (I J : zM) (x0 : Nat) (x1 : Int32) (x2 : Int32) (x3 : Int32) (hk0 : zK x0 = 4) {r : zM} (hf : f_X4_setCell I x0 x1 x2 x3 = some r) : Met l yX4_setCell wsX4_setCell (zrm 0 0) (va_Pc [.ref (G.2.1 (x0)), .int x1, .int x2, .int x3] (zS G I J)) (zQv G r J) 0 0 (zA G) := by
  refine zMet (cc := cX4_setCell) (n := 5) (ret := none) (by decide) rfl (Nat.le_of_ble_eq_true rfl) ?_
  intro p e s m args below meth c H locs ls F hK hP hS hl
  obtain ⟨hx, hb, hr, hml, hts, hown, hlocks⟩ := F
  have hown : s.vm.findClass RX4 = some m.cls := hown
  have hl : lv_has ls 5 [(0, .ref (G.2.1 (x0))), (1, .int x1), (2, .int x2), (3, .int x3)] := hl
  have hi4 : ∀ w ∈ wsX40, w ∈ wsX4_setCell := fun _ h => List.mem_cons_of_mem _ (List.mem_append_right _ h)
  unfold f_X4_setCell at hf
  refine lv_iload_n hx hb dX4_setCell_0 rfl (lv_at hl 1 rfl) ?_
  refine lv_if_lt (tgt := 24) hx hb dX4_setCell_1 (by decide) (fun c1 => ?_) (fun c1 => ?_)
  · have hf := zif_t c1 hf
    obtain rfl := Option.some.inj hf
    exact x_vret hx hb hr hlocks hK hP hS dX4_setCell_24
  · have hf := zif_f c1 hf
    refine lv_iload_n hx hb dX4_setCell_4 rfl (lv_at hl 1 rfl) ?_
    refine lv_aload_n hx hb dX4_setCell_5 rfl (lv_at hl 0 rfl) ?_
    refine x_get (j := 3) (v := .int (I x0 3)) hx hb hts hi4 hown hK hP hk0 rfl (by decide) (hts (.fieldLink RX4 26 "LeaseOffice$Table" "size" "I") (by decide +kernel)) rfl (by decide) dX4_setCell_6 ?_
    refine lv_icmp_ge (tgt := 24) hx hb dX4_setCell_9 (by decide) (fun c2 => ?_) (fun c2 => ?_)
    · have hf := zif_t c2 hf
      obtain rfl := Option.some.inj hf
      exact x_vret hx hb hr hlocks hK hP hS dX4_setCell_24
    · have hf := zif_f c2 hf
      refine lv_iload_n hx hb dX4_setCell_12 rfl (lv_at hl 2 rfl) ?_
      refine lv_if_lt (tgt := 24) hx hb dX4_setCell_13 (by decide) (fun c3 => ?_) (fun c3 => ?_)
      · have hf := zif_t c3 hf
        obtain rfl := Option.some.inj hf
        exact x_vret hx hb hr hlocks hK hP hS dX4_setCell_24
      · have hf := zif_f c3 hf
        refine lv_iload_n hx hb dX4_setCell_16 rfl (lv_at hl 2 rfl) ?_
        refine lv_aload_n hx hb dX4_setCell_17 rfl (lv_at hl 0 rfl) ?_
        refine x_get (j := 1) (v := .int (I x0 1)) hx hb hts hi4 hown hK hP hk0 rfl (by decide) (hts (.fieldLink RX4 13 "LeaseOffice$Table" "width" "I") (by decide +kernel)) rfl (by decide) dX4_setCell_18 ?_
        refine lv_icmp_lt (tgt := 25) hx hb dX4_setCell_21 (by decide) (fun c4 => ?_) (fun c4 => ?_)
        · have hf := zif_t c4 hf
          refine lv_iload_n hx hb dX4_setCell_25 rfl (lv_at hl 1 rfl) ?_
          refine lv_aload_n hx hb dX4_setCell_26 rfl (lv_at hl 0 rfl) ?_
          refine x_get (j := 1) (v := .int (I x0 1)) hx hb hts hi4 hown hK hP hk0 rfl (by decide) (hts (.fieldLink RX4 13 "LeaseOffice$Table" "width" "I") (by decide +kernel)) rfl (by decide) dX4_setCell_27 ?_
          refine lv_imul hx hb dX4_setCell_30 ?_
          refine lv_iload_n hx hb dX4_setCell_31 rfl (lv_at hl 2 rfl) ?_
          refine lv_iadd hx hb dX4_setCell_32 ?_
          obtain ⟨w5, ew5, hf⟩ := zlet_e hf
          refine z_topi ew5 ?_
          refine lv_istore (lv' := [(4, .int w5), (0, .ref (G.2.1 (x0))), (1, .int x1), (2, .int x2), (3, .int x3)]) hx hb dX4_setCell_33 hl (by decide) rfl (fun ls hl => ?_)
          refine lv_iload hx hb dX4_setCell_35 (lv_at hl 0 rfl) ?_
          refine lv_if_lt (tgt := 58) hx hb dX4_setCell_37 (by decide) (fun c6 => ?_) (fun c6 => ?_)
          · have hf := zif_t c6 hf
            obtain rfl := Option.some.inj hf
            exact x_vret hx hb hr hlocks hK hP hS dX4_setCell_58
          · have hf := zif_f c6 hf
            refine lv_iload hx hb dX4_setCell_40 (lv_at hl 0 rfl) ?_
            refine lv_aload_n hx hb dX4_setCell_42 rfl (lv_at hl 1 rfl) ?_
            refine x_get (j := 2) (v := .ref (G.2.1 (x0 + 1))) hx hb hts hi4 hown hK hP hk0 rfl (by decide) (hts (.fieldLink RX4 22 "LeaseOffice$Table" "cells" "[I") (by decide +kernel)) rfl (by decide) dX4_setCell_43 ?_
            refine x_alen 0 (v := (Int32.ofNat (zLn (x0 + 1)))) hx hb hK hP (zK_lt (zk_4_2 hk0) (by decide)) (zE_10 (zk_4_2 hk0) rfl) rfl rfl dX4_setCell_46 ?_
            refine lv_icmp_ge (tgt := 58) hx hb dX4_setCell_47 (by decide) (fun c7 => ?_) (fun c7 => ?_)
            · have hf := zif_t c7 hf
              obtain rfl := Option.some.inj hf
              exact x_vret hx hb hr hlocks hK hP hS dX4_setCell_58
            · have hf := zif_f c7 hf
              refine lv_aload_n hx hb dX4_setCell_50 rfl (lv_at hl 1 rfl) ?_
              refine x_get (j := 2) (v := .ref (G.2.1 (x0 + 1))) hx hb hts hi4 hown hK hP hk0 rfl (by decide) (hts (.fieldLink RX4 22 "LeaseOffice$Table" "cells" "[I") (by decide +kernel)) rfl (by decide) dX4_setCell_51 ?_
              refine lv_iload hx hb dX4_setCell_54 (lv_at hl 0 rfl) ?_
              refine lv_iload_n hx hb dX4_setCell_56 rfl (lv_at hl 4 rfl) ?_
              obtain ⟨h9, hf⟩ := zck_e hf
              obtain ⟨M8, eM8, hf⟩ := zlet_e hf
              refine x_iastC eM8 hx hb hG hK hP hS (zk_4_2 hk0) rfl (zin_e h9) dX4_setCell_57 (fun H locs hP hS => ?_)
              obtain rfl := Option.some.inj hf
              exact x_vret hx hb hr hlocks hK hP hS dX4_setCell_58
        · have hf := zif_f c4 hf
          obtain rfl := Option.some.inj hf
          exact x_vret hx hb hr hlocks hK hP hS dX4_setCell_24
set_option maxRecDepth 100000 in
set_option maxHeartbeats 4000000 in
theorem c_X0_addOnce (l : Launch) (G : zGT) (hG : zOK G) (I J : zM) (x0 : Nat) (x1 : Int32) (hk0 : zK x0 = 0) {r : zM} (hf : f_X0_addOnce I x0 x1 = some r) : Met l yX0_addOnce wsX0_addOnce (zrm 1 24) (va_Pc [.ref (G.2.1 (x0)), .int x1] (zS G I J)) (zQv G r J) 0 0 (zA G) := by
  refine zMet (cc := cX0_addOnce) (n := 2) (ret := none) (by decide) rfl (Nat.le_of_ble_eq_true rfl) ?_
  intro p e s m args below meth c H locs ls F hK hP hS hl
  obtain ⟨hx, hb, hr, hml, hts, hown, hlocks⟩ := F
  have hown : s.vm.findClass RX0 = some m.cls := hown
  have hl : lv_has ls 2 [(0, .ref (G.2.1 (x0))), (1, .int x1)] := hl
  have hi0 : ∀ w ∈ wsX00, w ∈ wsX0_addOnce := fun _ h => List.mem_cons_of_mem _ (List.mem_append_left _ (List.mem_append_right _ h))
  unfold f_X0_addOnce at hf
  refine lv_aload_n hx hb dX0_addOnce_0 rfl (lv_at hl 0 rfl) ?_
  refine lv_iload_n hx hb dX0_addOnce_1 rfl (lv_at hl 1 rfl) ?_
  obtain ⟨q1, hq1, hf⟩ := zb_e hf
  refine x_calli (x_runV (As := [.int x1]) (rest := []) ⟨hx, hb, hml, hown, hts⟩ (c_X0_isBlamed l G hG I J x0 x1 hk0 hq1) (cwV 1 hts gX0_addOnce_X0_isBlamed rfl rfl rfl (by decide +kernel) ⟨Nat.le_of_ble_eq_true rfl, Nat.le_of_ble_eq_true rfl⟩) hK hP hk0 (by decide) rfl rfl hl.1 rfl (Nat.le_of_ble_eq_true rfl) dX0_addOnce_2 ⟨Nat.zero_le _, Nat.zero_le _⟩) hS (fun H locs hP hS => ?_)
  refine lv_if_ne (tgt := 36) hx hb dX0_addOnce_5 (by decide) (fun c2 => ?_) (fun c2 => ?_)
  · have hf := zif_f c2 hf
    obtain rfl := Option.some.inj hf
    exact x_vret hx hb hr hlocks hK hP hS dX0_addOnce_36
  · have hf := zif_t c2 hf
    refine lv_aload_n hx hb dX0_addOnce_8 rfl (lv_at hl 0 rfl) ?_
    refine lv_dup hx hb dX0_addOnce_9 rfl ?_
    refine x_get (j := 1) (v := .int (I x0 1)) hx hb hts hi0 hown hK hP hk0 rfl (by decide) (hts (.fieldLink RX0 23 "LeaseOffice$Blame" "bits" "I") (by decide +kernel)) rfl (by decide) dX0_addOnce_10 ?_
    refine lv_iconst (v := 1) hx hb dX0_addOnce_13 (by decide) ?_
    refine lv_iload_n hx hb dX0_addOnce_14 rfl (lv_at hl 1 rfl) ?_
    refine lv_ishl hx hb dX0_addOnce_15 ?_
    refine lv_ior hx hb dX0_addOnce_16 ?_
    obtain ⟨M3, eM3, hf⟩ := zlet_e hf
    refine x_put (j := 1) (I2 := M3) (J2 := J) (ty0 := tyX0) (ty := .int) hx hb hts hi0 hown hG hK hP hS hk0 rfl tyX0_ok nmX0 (by decide) (hts (.fieldLink RX0 23 "LeaseOffice$Blame" "bits" "I") (by decide +kernel)) rfl (by decide +kernel) rfl rfl (Nat.le_of_ble_eq_true rfl) (by rw [eM3]; exact zs_0_1 _) (by rw [eM3]; exact zo_C) (by decide) dX0_addOnce_17 (fun H locs hP hS => ?_)
    refine lv_aload_n hx hb dX0_addOnce_20 rfl (lv_at hl 0 rfl) ?_
    refine x_get (j := 0) (v := .ref (G.2.1 (x0 + 1))) hx hb hts hi0 hown hK hP hk0 rfl (by decide) (hts (.fieldLink RX0 14 "LeaseOffice$Blame" "blamed" "LLeaseOffice$Table;") (by decide +kernel)) rfl (by decide) dX0_addOnce_21 ?_
    refine lv_aload_n hx hb dX0_addOnce_24 rfl (lv_at hl 0 rfl) ?_
    refine x_get (j := 0) (v := .ref (G.2.1 (x0 + 1))) hx hb hts hi0 hown hK hP hk0 rfl (by decide) (hts (.fieldLink RX0 14 "LeaseOffice$Blame" "blamed" "LLeaseOffice$Table;") (by decide +kernel)) rfl (by decide) dX0_addOnce_25 ?_
    obtain ⟨q4, hq4, hf⟩ := zb_e hf
    refine x_calli (x_runV (As := []) (rest := [.ref (G.2.1 (x0 + 1))]) ⟨hx, hb, hml, hown, hts⟩ (c_X4_append l G hG M3 J (x0 + 1) (zk_0_0 hk0) hq4) (cwV 0 hts gX0_addOnce_X4_append rfl rfl rfl (by decide +kernel) ⟨Nat.le_of_ble_eq_true rfl, Nat.le_of_ble_eq_true rfl⟩) hK hP (zk_0_0 hk0) (by decide) rfl rfl hl.1 rfl (Nat.le_of_ble_eq_true rfl) dX0_addOnce_28 ⟨Nat.zero_le _, Nat.zero_le _⟩) hS (fun H locs hP hS => ?_)
    refine lv_iconst (v := 0) hx hb dX0_addOnce_31 (by decide) ?_
    refine lv_iload_n hx hb dX0_addOnce_32 rfl (lv_at hl 1 rfl) ?_
    obtain ⟨q5, hq5, hf⟩ := zb_e hf
    refine x_callv (x_runV (As := [.int q4.1, .int 0, .int x1]) (rest := []) ⟨hx, hb, hml, hown, hts⟩ (c_X4_setCell l G hG q4.2 J (x0 + 1) q4.1 0 x1 (zk_0_0 hk0) hq5) (cwV 3 hts gX0_addOnce_X4_setCell rfl rfl rfl (by decide +kernel) ⟨Nat.le_of_ble_eq_true rfl, Nat.le_of_ble_eq_true rfl⟩) hK hP (zk_0_0 hk0) (by decide) rfl rfl hl.1 rfl (Nat.le_of_ble_eq_true rfl) dX0_addOnce_33 ⟨Nat.zero_le _, Nat.zero_le _⟩) hS (fun H locs hP hS => ?_)
    obtain rfl := Option.some.inj hf
    exact x_vret hx hb hr hlocks hK hP hS dX0_addOnce_36
set_option maxRecDepth 100000 in
set_option maxHeartbeats 4000000 in
theorem c_X0_bits (l : Launch) (G : zGT) (hG : zOK G) (I J : zM) (x0 : Nat) (hk0 : zK x0 = 0) {r : Int32} (hf : f_X0_bits I x0 = some r) : Met l yX0_bits wsX0_bits (zrm 0 0) (va_Pc [.ref (G.2.1 (x0))] (zS G I J)) (zQi G r I J) 0 0 (zA G) := by
  refine zMet (cc := cX0_bits) (n := 1) (ret := (some .int)) (by decide) rfl (Nat.le_of_ble_eq_true rfl) ?_
  intro p e s m args below meth c H locs ls F hK hP hS hl
  obtain ⟨hx, hb, hr, hml, hts, hown, hlocks⟩ := F
  have hown : s.vm.findClass RX0 = some m.cls := hown
  have hl : lv_has ls 1 [(0, .ref (G.2.1 (x0)))] := hl
  have hi0 : ∀ w ∈ wsX00, w ∈ wsX0_bits := fun _ h => List.mem_cons_of_mem _ (List.mem_append_right _ h)
  unfold f_X0_bits at hf
  refine lv_aload_n hx hb dX0_bits_0 rfl (lv_at hl 0 rfl) ?_
  refine x_get (j := 1) (v := .int (I x0 1)) hx hb hts hi0 hown hK hP hk0 rfl (by decide) (hts (.fieldLink RX0 23 "LeaseOffice$Blame" "bits" "I") (by decide +kernel)) rfl (by decide) dX0_bits_1 ?_
  obtain rfl := Option.some.inj hf
  exact x_iret hx hb hr hlocks hK hP hS dX0_bits_4
set_option maxRecDepth 100000 in
set_option maxHeartbeats 4000000 in
theorem c_X4_clear (l : Launch) (G : zGT) (hG : zOK G) (I J : zM) (x0 : Nat) (hk0 : zK x0 = 4) {r : zM} (hf : f_X4_clear I x0 = some r) : Met l yX4_clear wsX4_clear (zrm 0 0) (va_Pc [.ref (G.2.1 (x0))] (zS G I J)) (zQv G r J) 0 0 (zA G) := by
  refine zMet (cc := cX4_clear) (n := 1) (ret := none) (by decide) rfl (Nat.le_of_ble_eq_true rfl) ?_
  intro p e s m args below meth c H locs ls F hK hP hS hl
  obtain ⟨hx, hb, hr, hml, hts, hown, hlocks⟩ := F
  have hown : s.vm.findClass RX4 = some m.cls := hown
  have hl : lv_has ls 1 [(0, .ref (G.2.1 (x0)))] := hl
  have hi4 : ∀ w ∈ wsX40, w ∈ wsX4_clear := fun _ h => List.mem_cons_of_mem _ (List.mem_append_right _ h)
  unfold f_X4_clear at hf
  refine lv_aload_n hx hb dX4_clear_0 rfl (lv_at hl 0 rfl) ?_
  refine lv_iconst (v := 0) hx hb dX4_clear_1 (by decide) ?_
  obtain ⟨M1, eM1, hf⟩ := zlet_e hf
  refine x_put (j := 3) (I2 := M1) (J2 := J) (ty0 := tyX4) (ty := .int) hx hb hts hi4 hown hG hK hP hS hk0 rfl tyX4_ok nmX4 (by decide) (hts (.fieldLink RX4 26 "LeaseOffice$Table" "size" "I") (by decide +kernel)) rfl (by decide +kernel) rfl rfl (Nat.le_of_ble_eq_true rfl) (by rw [eM1]; exact zs_4_3 _) (by rw [eM1]; exact zo_C) (by decide) dX4_clear_2 (fun H locs hP hS => ?_)
  obtain rfl := Option.some.inj hf
  exact x_vret hx hb hr hlocks hK hP hS dX4_clear_5
set_option maxRecDepth 100000 in
set_option maxHeartbeats 4000000 in
theorem c_X4_size (l : Launch) (G : zGT) (hG : zOK G) (I J : zM) (x0 : Nat) (hk0 : zK x0 = 4) {r : Int32} (hf : f_X4_size I x0 = some r) : Met l yX4_size wsX4_size (zrm 0 0) (va_Pc [.ref (G.2.1 (x0))] (zS G I J)) (zQi G r I J) 0 0 (zA G) := by
  refine zMet (cc := cX4_size) (n := 1) (ret := (some .int)) (by decide) rfl (Nat.le_of_ble_eq_true rfl) ?_
  intro p e s m args below meth c H locs ls F hK hP hS hl
  obtain ⟨hx, hb, hr, hml, hts, hown, hlocks⟩ := F
  have hown : s.vm.findClass RX4 = some m.cls := hown
  have hl : lv_has ls 1 [(0, .ref (G.2.1 (x0)))] := hl
  have hi4 : ∀ w ∈ wsX40, w ∈ wsX4_size := fun _ h => List.mem_cons_of_mem _ (List.mem_append_right _ h)
  unfold f_X4_size at hf
  refine lv_aload_n hx hb dX4_size_0 rfl (lv_at hl 0 rfl) ?_
  refine x_get (j := 3) (v := .int (I x0 3)) hx hb hts hi4 hown hK hP hk0 rfl (by decide) (hts (.fieldLink RX4 26 "LeaseOffice$Table" "size" "I") (by decide +kernel)) rfl (by decide) dX4_size_1 ?_
  obtain rfl := Option.some.inj hf
  exact x_iret hx hb hr hlocks hK hP hS dX4_size_4
set_option maxRecDepth 100000 in
set_option maxHeartbeats 4000000 in
theorem c_X4_cell (l : Launch) (G : zGT) (hG : zOK G) (I J : zM) (x0 : Nat) (x1 : Int32) (x2 : Int32) (hk0 : zK x0 = 4) {r : Int32} (hf : f_X4_cell I x0 x1 x2 = some r) : Met l yX4_cell wsX4_cell (zrm 0 0) (va_Pc [.ref (G.2.1 (x0)), .int x1, .int x2] (zS G I J)) (zQi G r I J) 0 0 (zA G) := by
  refine zMet (cc := cX4_cell) (n := 4) (ret := (some .int)) (by decide) rfl (Nat.le_of_ble_eq_true rfl) ?_
  intro p e s m args below meth c H locs ls F hK hP hS hl
  obtain ⟨hx, hb, hr, hml, hts, hown, hlocks⟩ := F
  have hown : s.vm.findClass RX4 = some m.cls := hown
  have hl : lv_has ls 4 [(0, .ref (G.2.1 (x0))), (1, .int x1), (2, .int x2)] := hl
  have hi4 : ∀ w ∈ wsX40, w ∈ wsX4_cell := fun _ h => List.mem_cons_of_mem _ (List.mem_append_right _ h)
  unfold f_X4_cell at hf
  refine lv_iload_n hx hb dX4_cell_0 rfl (lv_at hl 1 rfl) ?_
  refine lv_if_lt (tgt := 24) hx hb dX4_cell_1 (by decide) (fun c1 => ?_) (fun c1 => ?_)
  · have hf := zif_t c1 hf
    refine lv_iconst (v := 0) hx hb dX4_cell_24 (by decide) ?_
    obtain rfl := Option.some.inj hf
    exact x_iret hx hb hr hlocks hK hP hS dX4_cell_25
  · have hf := zif_f c1 hf
    refine lv_iload_n hx hb dX4_cell_4 rfl (lv_at hl 1 rfl) ?_
    refine lv_aload_n hx hb dX4_cell_5 rfl (lv_at hl 0 rfl) ?_
    refine x_get (j := 3) (v := .int (I x0 3)) hx hb hts hi4 hown hK hP hk0 rfl (by decide) (hts (.fieldLink RX4 26 "LeaseOffice$Table" "size" "I") (by decide +kernel)) rfl (by decide) dX4_cell_6 ?_
    refine lv_icmp_ge (tgt := 24) hx hb dX4_cell_9 (by decide) (fun c2 => ?_) (fun c2 => ?_)
    · have hf := zif_t c2 hf
      refine lv_iconst (v := 0) hx hb dX4_cell_24 (by decide) ?_
      obtain rfl := Option.some.inj hf
      exact x_iret hx hb hr hlocks hK hP hS dX4_cell_25
    · have hf := zif_f c2 hf
      refine lv_iload_n hx hb dX4_cell_12 rfl (lv_at hl 2 rfl) ?_
      refine lv_if_lt (tgt := 24) hx hb dX4_cell_13 (by decide) (fun c3 => ?_) (fun c3 => ?_)
      · have hf := zif_t c3 hf
        refine lv_iconst (v := 0) hx hb dX4_cell_24 (by decide) ?_
        obtain rfl := Option.some.inj hf
        exact x_iret hx hb hr hlocks hK hP hS dX4_cell_25
      · have hf := zif_f c3 hf
        refine lv_iload_n hx hb dX4_cell_16 rfl (lv_at hl 2 rfl) ?_
        refine lv_aload_n hx hb dX4_cell_17 rfl (lv_at hl 0 rfl) ?_
        refine x_get (j := 1) (v := .int (I x0 1)) hx hb hts hi4 hown hK hP hk0 rfl (by decide) (hts (.fieldLink RX4 13 "LeaseOffice$Table" "width" "I") (by decide +kernel)) rfl (by decide) dX4_cell_18 ?_
        refine lv_icmp_lt (tgt := 26) hx hb dX4_cell_21 (by decide) (fun c4 => ?_) (fun c4 => ?_)
        · have hf := zif_t c4 hf
          refine lv_iload_n hx hb dX4_cell_26 rfl (lv_at hl 1 rfl) ?_
          refine lv_aload_n hx hb dX4_cell_27 rfl (lv_at hl 0 rfl) ?_
          refine x_get (j := 1) (v := .int (I x0 1)) hx hb hts hi4 hown hK hP hk0 rfl (by decide) (hts (.fieldLink RX4 13 "LeaseOffice$Table" "width" "I") (by decide +kernel)) rfl (by decide) dX4_cell_28 ?_
          refine lv_imul hx hb dX4_cell_31 ?_
          refine lv_iload_n hx hb dX4_cell_32 rfl (lv_at hl 2 rfl) ?_
          refine lv_iadd hx hb dX4_cell_33 ?_
          obtain ⟨w5, ew5, hf⟩ := zlet_e hf
          refine z_topi ew5 ?_
          refine lv_istore_n (lv' := [(3, .int w5), (0, .ref (G.2.1 (x0))), (1, .int x1), (2, .int x2)]) hx hb dX4_cell_34 rfl hl (by decide) rfl (fun ls hl => ?_)
          refine lv_iload_n hx hb dX4_cell_35 rfl (lv_at hl 0 rfl) ?_
          refine lv_if_lt (tgt := 57) hx hb dX4_cell_36 (by decide) (fun c6 => ?_) (fun c6 => ?_)
          · have hf := zif_t c6 hf
            refine lv_iconst (v := 0) hx hb dX4_cell_57 (by decide) ?_
            obtain rfl := Option.some.inj hf
            exact x_iret hx hb hr hlocks hK hP hS dX4_cell_58
          · have hf := zif_f c6 hf
            refine lv_iload_n hx hb dX4_cell_39 rfl (lv_at hl 0 rfl) ?_
            refine lv_aload_n hx hb dX4_cell_40 rfl (lv_at hl 1 rfl) ?_
            refine x_get (j := 2) (v := .ref (G.2.1 (x0 + 1))) hx hb hts hi4 hown hK hP hk0 rfl (by decide) (hts (.fieldLink RX4 22 "LeaseOffice$Table" "cells" "[I") (by decide +kernel)) rfl (by decide) dX4_cell_41 ?_
            refine x_alen 0 (v := (Int32.ofNat (zLn (x0 + 1)))) hx hb hK hP (zK_lt (zk_4_2 hk0) (by decide)) (zE_10 (zk_4_2 hk0) rfl) rfl rfl dX4_cell_44 ?_
            refine lv_icmp_ge (tgt := 57) hx hb dX4_cell_45 (by decide) (fun c7 => ?_) (fun c7 => ?_)
            · have hf := zif_t c7 hf
              refine lv_iconst (v := 0) hx hb dX4_cell_57 (by decide) ?_
              obtain rfl := Option.some.inj hf
              exact x_iret hx hb hr hlocks hK hP hS dX4_cell_58
            · have hf := zif_f c7 hf
              refine lv_aload_n hx hb dX4_cell_48 rfl (lv_at hl 1 rfl) ?_
              refine x_get (j := 2) (v := .ref (G.2.1 (x0 + 1))) hx hb hts hi4 hown hK hP hk0 rfl (by decide) (hts (.fieldLink RX4 22 "LeaseOffice$Table" "cells" "[I") (by decide +kernel)) rfl (by decide) dX4_cell_49 ?_
              refine lv_iload_n hx hb dX4_cell_52 rfl (lv_at hl 0 rfl) ?_
              obtain ⟨h8, hf⟩ := zck_e hf
              refine x_iald hx hb hK hP (zK_lt (zk_4_2 hk0) (by decide)) (zE_10 (zk_4_2 hk0) rfl) (zin_e h8) dX4_cell_53 ?_
              refine lv_goto (tgt := 58) hx hb dX4_cell_54 (by decide) ?_
              obtain rfl := Option.some.inj hf
              exact x_iret hx hb hr hlocks hK hP hS dX4_cell_58
        · have hf := zif_f c4 hf
          refine lv_iconst (v := 0) hx hb dX4_cell_24 (by decide) ?_
          obtain rfl := Option.some.inj hf
          exact x_iret hx hb hr hlocks hK hP hS dX4_cell_25
set_option maxRecDepth 100000 in
set_option maxHeartbeats 4000000 in
theorem c_X0_findFor (l : Launch) (G : zGT) (hG : zOK G) (I J : zM) (x0 : Nat) (x1 : Nat) (hk0 : zK x0 = 0) (hk1 : zK x1 = 7) {r : zM} (hf : f_X0_findFor I x0 x1 = some r) : Met l yX0_findFor wsX0_findFor (zrm 2 45) (va_Pc [.ref (G.2.1 (x0)), .ref (G.2.1 (x1))] (zS G I J)) (zQv G r J) 0 0 (zA G) := by
  refine zMet (cc := cX0_findFor) (n := 6) (ret := none) (by decide) rfl (Nat.le_of_ble_eq_true rfl) ?_
  intro p e s m args below meth c H locs ls F hK hP hS hl
  obtain ⟨hx, hb, hr, hml, hts, hown, hlocks⟩ := F
  have hown : s.vm.findClass RX0 = some m.cls := hown
  have hl : lv_has ls 6 [(0, .ref (G.2.1 (x0))), (1, .ref (G.2.1 (x1)))] := hl
  have hi0 : ∀ w ∈ wsX00, w ∈ wsX0_findFor := fun _ h => List.mem_cons_of_mem _ (List.mem_append_left _ (List.mem_append_left _ (List.mem_append_right _ h)))
  have hi7 : ∀ w ∈ wsX70, w ∈ wsX0_findFor := fun _ h => List.mem_cons_of_mem _ (List.mem_append_left _ (List.mem_append_right _ h))
  have L66 : ∀ (n : Nat) (M : zM) (y5 : Int32) (H : Heap) (locs : List Loc) (ls : Array Slot), f_X0_findFor_l66 x0 x1 n M y5 = some r → va_P G.1 vwCl (zW G M J) H → va_S (zA G) s.heap H locs → lv_has ls 6 [(0, .ref (G.2.1 (x0))), (1, .ref (G.2.1 (x1))), (5, .int y5)] → W p l e (zrm 2 45) s m args below meth c H locs 0 0 (MQ below (zQv G r J) args s 0 0 (zA G)) (F0 m 66 ls []) := by
    intro n
    induction n with
    | zero =>
      intro M y5 H locs ls hf
      rw [f_X0_findFor_l66] at hf
      cases hf
    | succ n ih =>
      intro M y5 H locs ls hf hP hS hl
      rw [f_X0_findFor_l66] at hf
      refine lv_iload hx hb dX0_findFor_66 (lv_at hl 2 rfl) ?_
      refine lv_aload_n hx hb dX0_findFor_68 rfl (lv_at hl 1 rfl) ?_
      refine x_get (j := 7) (v := .ref (G.2.1 (x1 + 1))) hx hb hts hi7 hown hK hP hk1 rfl (by decide) (hts (.fieldLink RX0 43 "LeaseOffice$Tool" "links" "LLeaseOffice$Table;") (by decide +kernel)) rfl (by decide) dX0_findFor_69 ?_
      obtain ⟨q11, hq11, hf⟩ := zb_e hf
      refine x_calli (x_runV (As := []) (rest := [.int y5]) ⟨hx, hb, hml, hown, hts⟩ (c_X4_size l G hG M J (x1 + 1) (zk_7_7 hk1) hq11) (cwV 0 hts gX0_findFor_X4_size rfl rfl rfl (by decide +kernel) ⟨Nat.le_of_ble_eq_true rfl, Nat.le_of_ble_eq_true rfl⟩) hK hP (zk_7_7 hk1) (by decide) rfl rfl hl.1 rfl (Nat.le_of_ble_eq_true rfl) dX0_findFor_72 ⟨Nat.zero_le _, Nat.zero_le _⟩) hS (fun H locs hP hS => ?_)
      refine lv_icmp_ge (tgt := 98) hx hb dX0_findFor_75 (by decide) (fun c12 => ?_) (fun c12 => ?_)
      · have hf := zif_t c12 hf
        obtain rfl := Option.some.inj hf
        exact x_vret hx hb hr hlocks hK hP hS dX0_findFor_98
      · have hf := zif_f c12 hf
        refine lv_aload_n hx hb dX0_findFor_78 rfl (lv_at hl 0 rfl) ?_
        refine lv_aload_n hx hb dX0_findFor_79 rfl (lv_at hl 1 rfl) ?_
        refine x_get (j := 7) (v := .ref (G.2.1 (x1 + 1))) hx hb hts hi7 hown hK hP hk1 rfl (by decide) (hts (.fieldLink RX0 43 "LeaseOffice$Tool" "links" "LLeaseOffice$Table;") (by decide +kernel)) rfl (by decide) dX0_findFor_80 ?_
        refine lv_iload hx hb dX0_findFor_83 (lv_at hl 2 rfl) ?_
        refine lv_iconst (v := 0) hx hb dX0_findFor_85 (by decide) ?_
        obtain ⟨q13, hq13, hf⟩ := zb_e hf
        refine x_calli (x_runV (As := [.int y5, .int 0]) (rest := [.ref (G.2.1 (x0))]) ⟨hx, hb, hml, hown, hts⟩ (c_X4_cell l G hG M J (x1 + 1) y5 0 (zk_7_7 hk1) hq13) (cwV 2 hts gX0_findFor_X4_cell rfl rfl rfl (by decide +kernel) ⟨Nat.le_of_ble_eq_true rfl, Nat.le_of_ble_eq_true rfl⟩) hK hP (zk_7_7 hk1) (by decide) rfl rfl hl.1 rfl (Nat.le_of_ble_eq_true rfl) dX0_findFor_86 ⟨Nat.zero_le _, Nat.zero_le _⟩) hS (fun H locs hP hS => ?_)
        obtain ⟨q14, hq14, hf⟩ := zb_e hf
        refine x_callv (x_runV (As := [.int q13]) (rest := []) ⟨hx, hb, hml, hown, hts⟩ (c_X0_addOnce l G hG M J x0 q13 hk0 hq14) (cwV 1 hts gX0_findFor_X0_addOnce rfl rfl rfl (by decide +kernel) ⟨Nat.le_of_ble_eq_true rfl, Nat.le_of_ble_eq_true rfl⟩) hK hP hk0 (by decide) rfl rfl hl.1 rfl (Nat.le_of_ble_eq_true rfl) dX0_findFor_89 ⟨Nat.zero_le _, Nat.zero_le _⟩) hS (fun H locs hP hS => ?_)
        refine lv_iinc (v := (y5 + 1)) (lv' := [(5, .int (y5 + 1)), (0, .ref (G.2.1 (x0))), (1, .ref (G.2.1 (x1)))]) hx hb dX0_findFor_92 hl (k := 2) rfl rfl (by decide) rfl (fun ls hl => ?_)
        refine lv_goto (tgt := 66) hx hb dX0_findFor_95 (by decide) ?_
        exact ih q14 (y5 + 1) H locs ls hf hP hS (lv_sub hl [1, 2, 0] rfl)
  unfold f_X0_findFor at hf
  refine lv_aload_n hx hb dX0_findFor_0 rfl (lv_at hl 0 rfl) ?_
  refine x_get (j := 0) (v := .ref (G.2.1 (x0 + 1))) hx hb hts hi0 hown hK hP hk0 rfl (by decide) (hts (.fieldLink RX0 14 "LeaseOffice$Blame" "blamed" "LLeaseOffice$Table;") (by decide +kernel)) rfl (by decide) dX0_findFor_1 ?_
  obtain ⟨q1, hq1, hf⟩ := zb_e hf
  refine x_callv (x_runV (As := []) (rest := []) ⟨hx, hb, hml, hown, hts⟩ (c_X4_clear l G hG I J (x0 + 1) (zk_0_0 hk0) hq1) (cwV 0 hts gX0_findFor_X4_clear rfl rfl rfl (by decide +kernel) ⟨Nat.le_of_ble_eq_true rfl, Nat.le_of_ble_eq_true rfl⟩) hK hP (zk_0_0 hk0) (by decide) rfl rfl hl.1 rfl (Nat.le_of_ble_eq_true rfl) dX0_findFor_4 ⟨Nat.zero_le _, Nat.zero_le _⟩) hS (fun H locs hP hS => ?_)
  refine lv_aload_n hx hb dX0_findFor_7 rfl (lv_at hl 0 rfl) ?_
  refine lv_iconst (v := 0) hx hb dX0_findFor_8 (by decide) ?_
  obtain ⟨M2, eM2, hf⟩ := zlet_e hf
  refine x_put (j := 1) (I2 := M2) (J2 := J) (ty0 := tyX0) (ty := .int) hx hb hts hi0 hown hG hK hP hS hk0 rfl tyX0_ok nmX0 (by decide) (hts (.fieldLink RX0 23 "LeaseOffice$Blame" "bits" "I") (by decide +kernel)) rfl (by decide +kernel) rfl rfl (Nat.le_of_ble_eq_true rfl) (by rw [eM2]; exact zs_0_1 _) (by rw [eM2]; exact zo_C) (by decide) dX0_findFor_9 (fun H locs hP hS => ?_)
  refine lv_aload_n hx hb dX0_findFor_12 rfl (lv_at hl 1 rfl) ?_
  refine x_get (j := 8) (v := .ref (G.2.1 (x1 + 3))) hx hb hts hi7 hown hK hP hk1 rfl (by decide) (hts (.fieldLink RX0 27 "LeaseOffice$Tool" "looks" "LLeaseOffice$Table;") (by decide +kernel)) rfl (by decide) dX0_findFor_13 ?_
  obtain ⟨q3, hq3, hf⟩ := zb_e hf
  refine x_calli (x_runV (As := []) (rest := []) ⟨hx, hb, hml, hown, hts⟩ (c_X4_size l G hG M2 J (x1 + 3) (zk_7_8 hk1) hq3) (cwV 0 hts gX0_findFor_X4_size rfl rfl rfl (by decide +kernel) ⟨Nat.le_of_ble_eq_true rfl, Nat.le_of_ble_eq_true rfl⟩) hK hP (zk_7_8 hk1) (by decide) rfl rfl hl.1 rfl (Nat.le_of_ble_eq_true rfl) dX0_findFor_16 ⟨Nat.zero_le _, Nat.zero_le _⟩) hS (fun H locs hP hS => ?_)
  refine lv_iconst (v := 1) hx hb dX0_findFor_19 (by decide) ?_
  refine lv_isub hx hb dX0_findFor_20 ?_
  obtain ⟨w4, ew4, hf⟩ := zlet_e hf
  refine z_topi ew4 ?_
  refine lv_istore_n (lv' := [(2, .int w4), (0, .ref (G.2.1 (x0))), (1, .ref (G.2.1 (x1)))]) hx hb dX0_findFor_21 rfl hl (by decide) rfl (fun ls hl => ?_)
  refine lv_aload_n hx hb dX0_findFor_22 rfl (lv_at hl 2 rfl) ?_
  refine x_get (j := 8) (v := .ref (G.2.1 (x1 + 3))) hx hb hts hi7 hown hK hP hk1 rfl (by decide) (hts (.fieldLink RX0 27 "LeaseOffice$Tool" "looks" "LLeaseOffice$Table;") (by decide +kernel)) rfl (by decide) dX0_findFor_23 ?_
  refine lv_iload_n hx hb dX0_findFor_26 rfl (lv_at hl 0 rfl) ?_
  refine lv_iconst (v := 2) hx hb dX0_findFor_27 (by decide) ?_
  obtain ⟨q5, hq5, hf⟩ := zb_e hf
  refine x_calli (x_runV (As := [.int w4, .int 2]) (rest := []) ⟨hx, hb, hml, hown, hts⟩ (c_X4_cell l G hG M2 J (x1 + 3) w4 2 (zk_7_8 hk1) hq5) (cwV 2 hts gX0_findFor_X4_cell rfl rfl rfl (by decide +kernel) ⟨Nat.le_of_ble_eq_true rfl, Nat.le_of_ble_eq_true rfl⟩) hK hP (zk_7_8 hk1) (by decide) rfl rfl hl.1 rfl (Nat.le_of_ble_eq_true rfl) dX0_findFor_28 ⟨Nat.zero_le _, Nat.zero_le _⟩) hS (fun H locs hP hS => ?_)
  refine lv_aload_n hx hb dX0_findFor_31 rfl (lv_at hl 2 rfl) ?_
  refine x_get (j := 8) (v := .ref (G.2.1 (x1 + 3))) hx hb hts hi7 hown hK hP hk1 rfl (by decide) (hts (.fieldLink RX0 27 "LeaseOffice$Tool" "looks" "LLeaseOffice$Table;") (by decide +kernel)) rfl (by decide) dX0_findFor_32 ?_
  refine lv_iload_n hx hb dX0_findFor_35 rfl (lv_at hl 0 rfl) ?_
  refine lv_iconst (v := 3) hx hb dX0_findFor_36 (by decide) ?_
  obtain ⟨q6, hq6, hf⟩ := zb_e hf
  refine x_calli (x_runV (As := [.int w4, .int 3]) (rest := [.int q5]) ⟨hx, hb, hml, hown, hts⟩ (c_X4_cell l G hG M2 J (x1 + 3) w4 3 (zk_7_8 hk1) hq6) (cwV 2 hts gX0_findFor_X4_cell rfl rfl rfl (by decide +kernel) ⟨Nat.le_of_ble_eq_true rfl, Nat.le_of_ble_eq_true rfl⟩) hK hP (zk_7_8 hk1) (by decide) rfl rfl hl.1 rfl (Nat.le_of_ble_eq_true rfl) dX0_findFor_37 ⟨Nat.zero_le _, Nat.zero_le _⟩) hS (fun H locs hP hS => ?_)
  refine lv_isub hx hb dX0_findFor_40 ?_
  obtain ⟨w7, ew7, hf⟩ := zlet_e hf
  refine z_topi ew7 ?_
  refine lv_istore_n (lv' := [(3, .int w7), (2, .int w4), (0, .ref (G.2.1 (x0))), (1, .ref (G.2.1 (x1)))]) hx hb dX0_findFor_41 rfl hl (by decide) rfl (fun ls hl => ?_)
  refine lv_aload_n hx hb dX0_findFor_42 rfl (lv_at hl 3 rfl) ?_
  refine x_get (j := 6) (v := .int (M2 x1 6)) hx hb hts hi7 hown hK hP hk1 rfl (by decide) (hts (.fieldLink RX0 40 "LeaseOffice$Tool" "linksEver" "I") (by decide +kernel)) rfl (by decide) dX0_findFor_43 ?_
  refine lv_aload_n hx hb dX0_findFor_46 rfl (lv_at hl 3 rfl) ?_
  refine x_get (j := 7) (v := .ref (G.2.1 (x1 + 1))) hx hb hts hi7 hown hK hP hk1 rfl (by decide) (hts (.fieldLink RX0 43 "LeaseOffice$Tool" "links" "LLeaseOffice$Table;") (by decide +kernel)) rfl (by decide) dX0_findFor_47 ?_
  obtain ⟨q8, hq8, hf⟩ := zb_e hf
  refine x_calli (x_runV (As := []) (rest := [.int (M2 x1 6)]) ⟨hx, hb, hml, hown, hts⟩ (c_X4_size l G hG M2 J (x1 + 1) (zk_7_7 hk1) hq8) (cwV 0 hts gX0_findFor_X4_size rfl rfl rfl (by decide +kernel) ⟨Nat.le_of_ble_eq_true rfl, Nat.le_of_ble_eq_true rfl⟩) hK hP (zk_7_7 hk1) (by decide) rfl rfl hl.1 rfl (Nat.le_of_ble_eq_true rfl) dX0_findFor_50 ⟨Nat.zero_le _, Nat.zero_le _⟩) hS (fun H locs hP hS => ?_)
  refine lv_isub hx hb dX0_findFor_53 ?_
  obtain ⟨w9, ew9, hf⟩ := zlet_e hf
  refine z_topi ew9 ?_
  refine lv_istore (lv' := [(4, .int w9), (3, .int w7), (2, .int w4), (0, .ref (G.2.1 (x0))), (1, .ref (G.2.1 (x1)))]) hx hb dX0_findFor_54 hl (by decide) rfl (fun ls hl => ?_)
  refine lv_iload_n hx hb dX0_findFor_56 rfl (lv_at hl 1 rfl) ?_
  refine lv_iload hx hb dX0_findFor_57 (lv_at hl 0 rfl) ?_
  refine lv_isub hx hb dX0_findFor_59 ?_
  refine lv_iconst (v := 0) hx hb dX0_findFor_60 (by decide) ?_
  obtain ⟨w10, ew10, hf⟩ := zlet_e hf
  refine va_mmax hx hb (hml.trans hl.1.symm) hown (hts (.methodLink RX0 46 Lib.Math.max.name) (by decide +kernel)) (hts (.static Lib.Math.max.name) (by decide +kernel)) (hts (.initialized "java/lang/Math") (by decide +kernel)) (hts (.code Lib.Math.max.name Lib.Math.max.code 2 (some .int)) (by decide +kernel)) (Nat.le_of_ble_eq_true rfl) (Nat.le_of_ble_eq_true rfl) (Nat.zero_le _) (Nat.zero_le _) dX0_findFor_61 ?_
  refine z_topi ew10 ?_
  refine lv_istore (lv' := [(5, .int w10), (4, .int w9), (3, .int w7), (2, .int w4), (0, .ref (G.2.1 (x0))), (1, .ref (G.2.1 (x1)))]) hx hb dX0_findFor_64 hl (by decide) rfl (fun ls hl => ?_)
  exact L66 zFu M2 w10 H locs ls hf hP hS (lv_sub hl [4, 5, 0] rfl)
set_option maxRecDepth 100000 in
set_option maxHeartbeats 4000000 in
theorem c_X0_personAt (l : Launch) (G : zGT) (hG : zOK G) (I J : zM) (x0 : Nat) (x1 : Int32) (hk0 : zK x0 = 0) {r : Int32} (hf : f_X0_personAt I x0 x1 = some r) : Met l yX0_personAt wsX0_personAt (zrm 1 23) (va_Pc [.ref (G.2.1 (x0)), .int x1] (zS G I J)) (zQi G r I J) 0 0 (zA G) := by
  refine zMet (cc := cX0_personAt) (n := 2) (ret := (some .int)) (by decide) rfl (Nat.le_of_ble_eq_true rfl) ?_
  intro p e s m args below meth c H locs ls F hK hP hS hl
  obtain ⟨hx, hb, hr, hml, hts, hown, hlocks⟩ := F
  have hown : s.vm.findClass RX0 = some m.cls := hown
  have hl : lv_has ls 2 [(0, .ref (G.2.1 (x0))), (1, .int x1)] := hl
  have hi0 : ∀ w ∈ wsX00, w ∈ wsX0_personAt := fun _ h => List.mem_cons_of_mem _ (List.mem_append_left _ (List.mem_append_right _ h))
  unfold f_X0_personAt at hf
  refine lv_aload_n hx hb dX0_personAt_0 rfl (lv_at hl 0 rfl) ?_
  refine x_get (j := 0) (v := .ref (G.2.1 (x0 + 1))) hx hb hts hi0 hown hK hP hk0 rfl (by decide) (hts (.fieldLink RX0 14 "LeaseOffice$Blame" "blamed" "LLeaseOffice$Table;") (by decide +kernel)) rfl (by decide) dX0_personAt_1 ?_
  refine lv_iload_n hx hb dX0_personAt_4 rfl (lv_at hl 1 rfl) ?_
  refine lv_iconst (v := 0) hx hb dX0_personAt_5 (by decide) ?_
  obtain ⟨q1, hq1, hf⟩ := zb_e hf
  refine x_calli (x_runV (As := [.int x1, .int 0]) (rest := []) ⟨hx, hb, hml, hown, hts⟩ (c_X4_cell l G hG I J (x0 + 1) x1 0 (zk_0_0 hk0) hq1) (cwV 2 hts gX0_personAt_X4_cell rfl rfl rfl (by decide +kernel) ⟨Nat.le_of_ble_eq_true rfl, Nat.le_of_ble_eq_true rfl⟩) hK hP (zk_0_0 hk0) (by decide) rfl rfl hl.1 rfl (Nat.le_of_ble_eq_true rfl) dX0_personAt_6 ⟨Nat.zero_le _, Nat.zero_le _⟩) hS (fun H locs hP hS => ?_)
  obtain rfl := Option.some.inj hf
  exact x_iret hx hb hr hlocks hK hP hS dX0_personAt_9
set_option maxRecDepth 100000 in
set_option maxHeartbeats 4000000 in
theorem c_X0_shareOf (l : Launch) (G : zGT) (hG : zOK G) (I J : zM) (x0 : Nat) (x1 : Int32) (x2 : Int32) (hk0 : zK x0 = 0) {r : Int32} (hf : f_X0_shareOf I x0 x1 x2 = some r) : Met l yX0_shareOf wsX0_shareOf (zrm 2 44) (va_Pc [.ref (G.2.1 (x0)), .int x1, .int x2] (zS G I J)) (zQi G r I J) 0 0 (zA G) := by
  refine zMet (cc := cX0_shareOf) (n := 5) (ret := (some .int)) (by decide) rfl (Nat.le_of_ble_eq_true rfl) ?_
  intro p e s m args below meth c H locs ls F hK hP hS hl
  obtain ⟨hx, hb, hr, hml, hts, hown, hlocks⟩ := F
  have hown : s.vm.findClass RX0 = some m.cls := hown
  have hl : lv_has ls 5 [(0, .ref (G.2.1 (x0))), (1, .int x1), (2, .int x2)] := hl
  have hi0 : ∀ w ∈ wsX00, w ∈ wsX0_shareOf := fun _ h => List.mem_cons_of_mem _ (List.mem_append_left _ (List.mem_append_right _ h))
  unfold f_X0_shareOf at hf
  refine lv_aload_n hx hb dX0_shareOf_0 rfl (lv_at hl 0 rfl) ?_
  refine x_get (j := 0) (v := .ref (G.2.1 (x0 + 1))) hx hb hts hi0 hown hK hP hk0 rfl (by decide) (hts (.fieldLink RX0 14 "LeaseOffice$Blame" "blamed" "LLeaseOffice$Table;") (by decide +kernel)) rfl (by decide) dX0_shareOf_1 ?_
  obtain ⟨q1, hq1, hf⟩ := zb_e hf
  refine x_calli (x_runV (As := []) (rest := []) ⟨hx, hb, hml, hown, hts⟩ (c_X4_size l G hG I J (x0 + 1) (zk_0_0 hk0) hq1) (cwV 0 hts gX0_shareOf_X4_size rfl rfl rfl (by decide +kernel) ⟨Nat.le_of_ble_eq_true rfl, Nat.le_of_ble_eq_true rfl⟩) hK hP (zk_0_0 hk0) (by decide) rfl rfl hl.1 rfl (Nat.le_of_ble_eq_true rfl) dX0_shareOf_4 ⟨Nat.zero_le _, Nat.zero_le _⟩) hS (fun H locs hP hS => ?_)
  refine lv_istore_n (lv' := [(3, .int q1), (0, .ref (G.2.1 (x0))), (1, .int x1), (2, .int x2)]) hx hb dX0_shareOf_7 rfl hl (by decide) rfl (fun ls hl => ?_)
  refine lv_iload_n hx hb dX0_shareOf_8 rfl (lv_at hl 0 rfl) ?_
  refine lv_if_le (tgt := 20) hx hb dX0_shareOf_9 (by decide) (fun c2 => ?_) (fun c2 => ?_)
  · have hf := zif_t c2 hf
    refine lv_iconst (v := 0) hx hb dX0_shareOf_20 (by decide) ?_
    obtain rfl := Option.some.inj hf
    exact x_iret hx hb hr hlocks hK hP hS dX0_shareOf_21
  · have hf := zif_f c2 hf
    refine lv_aload_n hx hb dX0_shareOf_12 rfl (lv_at hl 1 rfl) ?_
    refine lv_iload_n hx hb dX0_shareOf_13 rfl (lv_at hl 2 rfl) ?_
    obtain ⟨q3, hq3, hf⟩ := zb_e hf
    refine x_calli (x_runV (As := [.int x1]) (rest := []) ⟨hx, hb, hml, hown, hts⟩ (c_X0_isBlamed l G hG I J x0 x1 hk0 hq3) (cwV 1 hts gX0_shareOf_X0_isBlamed rfl rfl rfl (by decide +kernel) ⟨Nat.le_of_ble_eq_true rfl, Nat.le_of_ble_eq_true rfl⟩) hK hP hk0 (by decide) rfl rfl hl.1 rfl (Nat.le_of_ble_eq_true rfl) dX0_shareOf_14 ⟨Nat.zero_le _, Nat.zero_le _⟩) hS (fun H locs hP hS => ?_)
    refine lv_if_ne (tgt := 22) hx hb dX0_shareOf_17 (by decide) (fun c4 => ?_) (fun c4 => ?_)
    · have hf := zif_f c4 hf
      refine lv_iload_n hx hb dX0_shareOf_22 rfl (lv_at hl 3 rfl) ?_
      refine lv_iload_n hx hb dX0_shareOf_23 rfl (lv_at hl 0 rfl) ?_
      obtain ⟨h5, hf⟩ := zck_e hf
      refine lv_idiv hx hb dX0_shareOf_24 (zne_e h5) ?_
      obtain ⟨w6, ew6, hf⟩ := zlet_e hf
      refine z_topi ew6 ?_
      refine lv_istore (lv' := [(4, .int w6), (3, .int q1), (0, .ref (G.2.1 (x0))), (1, .int x1), (2, .int x2)]) hx hb dX0_shareOf_25 hl (by decide) rfl (fun ls hl => ?_)
      refine lv_iload_n hx hb dX0_shareOf_27 rfl (lv_at hl 3 rfl) ?_
      refine lv_aload_n hx hb dX0_shareOf_28 rfl (lv_at hl 2 rfl) ?_
      refine lv_iconst (v := 0) hx hb dX0_shareOf_29 (by decide) ?_
      obtain ⟨q7, hq7, hf⟩ := zb_e hf
      refine x_calli (x_runV (As := [.int 0]) (rest := [.int x1]) ⟨hx, hb, hml, hown, hts⟩ (c_X0_personAt l G hG I J x0 0 hk0 hq7) (cwV 1 hts gX0_shareOf_X0_personAt rfl rfl rfl (by decide +kernel) ⟨Nat.le_of_ble_eq_true rfl, Nat.le_of_ble_eq_true rfl⟩) hK hP hk0 (by decide) rfl rfl hl.1 rfl (Nat.le_of_ble_eq_true rfl) dX0_shareOf_30 ⟨Nat.zero_le _, Nat.zero_le _⟩) hS (fun H locs hP hS => ?_)
      refine lv_icmp_ne (tgt := 47) hx hb dX0_shareOf_33 (by decide) (fun c8 => ?_) (fun c8 => ?_)
      · have hf := zif_f c8 hf
        refine lv_iload hx hb dX0_shareOf_47 (lv_at hl 0 rfl) ?_
        obtain rfl := Option.some.inj hf
        exact x_iret hx hb hr hlocks hK hP hS dX0_shareOf_49
      · have hf := zif_t c8 hf
        refine lv_iload_n hx hb dX0_shareOf_36 rfl (lv_at hl 4 rfl) ?_
        refine lv_iload hx hb dX0_shareOf_37 (lv_at hl 0 rfl) ?_
        refine lv_iload_n hx hb dX0_shareOf_39 rfl (lv_at hl 1 rfl) ?_
        refine lv_iconst (v := 1) hx hb dX0_shareOf_40 (by decide) ?_
        refine lv_isub hx hb dX0_shareOf_41 ?_
        refine lv_imul hx hb dX0_shareOf_42 ?_
        refine lv_isub hx hb dX0_shareOf_43 ?_
        refine lv_goto (tgt := 49) hx hb dX0_shareOf_44 (by decide) ?_
        obtain rfl := Option.some.inj hf
        exact x_iret hx hb hr hlocks hK hP hS dX0_shareOf_49
    · have hf := zif_t c4 hf
      refine lv_iconst (v := 0) hx hb dX0_shareOf_20 (by decide) ?_
      obtain rfl := Option.some.inj hf
      exact x_iret hx hb hr hlocks hK hP hS dX0_shareOf_21
set_option maxRecDepth 100000 in
set_option maxHeartbeats 4000000 in
theorem c_X0_size (l : Launch) (G : zGT) (hG : zOK G) (I J : zM) (x0 : Nat) (hk0 : zK x0 = 0) {r : Int32} (hf : f_X0_size I x0 = some r) : Met l yX0_size wsX0_size (zrm 1 20) (va_Pc [.ref (G.2.1 (x0))] (zS G I J)) (zQi G r I J) 0 0 (zA G) := by
  refine zMet (cc := cX0_size) (n := 1) (ret := (some .int)) (by decide) rfl (Nat.le_of_ble_eq_true rfl) ?_
  intro p e s m args below meth c H locs ls F hK hP hS hl
  obtain ⟨hx, hb, hr, hml, hts, hown, hlocks⟩ := F
  have hown : s.vm.findClass RX0 = some m.cls := hown
  have hl : lv_has ls 1 [(0, .ref (G.2.1 (x0)))] := hl
  have hi0 : ∀ w ∈ wsX00, w ∈ wsX0_size := fun _ h => List.mem_cons_of_mem _ (List.mem_append_left _ (List.mem_append_right _ h))
  unfold f_X0_size at hf
  refine lv_aload_n hx hb dX0_size_0 rfl (lv_at hl 0 rfl) ?_
  refine x_get (j := 0) (v := .ref (G.2.1 (x0 + 1))) hx hb hts hi0 hown hK hP hk0 rfl (by decide) (hts (.fieldLink RX0 14 "LeaseOffice$Blame" "blamed" "LLeaseOffice$Table;") (by decide +kernel)) rfl (by decide) dX0_size_1 ?_
  obtain ⟨q1, hq1, hf⟩ := zb_e hf
  refine x_calli (x_runV (As := []) (rest := []) ⟨hx, hb, hml, hown, hts⟩ (c_X4_size l G hG I J (x0 + 1) (zk_0_0 hk0) hq1) (cwV 0 hts gX0_size_X4_size rfl rfl rfl (by decide +kernel) ⟨Nat.le_of_ble_eq_true rfl, Nat.le_of_ble_eq_true rfl⟩) hK hP (zk_0_0 hk0) (by decide) rfl rfl hl.1 rfl (Nat.le_of_ble_eq_true rfl) dX0_size_4 ⟨Nat.zero_le _, Nat.zero_le _⟩) hS (fun H locs hP hS => ?_)
  obtain rfl := Option.some.inj hf
  exact x_iret hx hb hr hlocks hK hP hS dX0_size_7
set_option maxRecDepth 100000 in
set_option maxHeartbeats 4000000 in
theorem c_X1_take (l : Launch) (G : zGT) (hG : zOK G) (I J : zM) (x0 : Nat) (x1 : Int32) (x2 : Int32) (hk0 : zK x0 = 1) {r : zM} (hf : f_X1_take I x0 x1 x2 = some r) : Met l yX1_take wsX1_take (zrm 0 0) (va_Pc [.ref (G.2.1 (x0)), .int x1, .int x2] (zS G I J)) (zQv G r J) 0 0 (zA G) := by
  refine zMet (cc := cX1_take) (n := 3) (ret := none) (by decide) rfl (Nat.le_of_ble_eq_true rfl) ?_
  intro p e s m args below meth c H locs ls F hK hP hS hl
  obtain ⟨hx, hb, hr, hml, hts, hown, hlocks⟩ := F
  have hown : s.vm.findClass RX1 = some m.cls := hown
  have hl : lv_has ls 3 [(0, .ref (G.2.1 (x0))), (1, .int x1), (2, .int x2)] := hl
  have hi1 : ∀ w ∈ wsX10, w ∈ wsX1_take := fun _ h => List.mem_cons_of_mem _ (List.mem_append_right _ h)
  unfold f_X1_take at hf
  refine lv_aload_n hx hb dX1_take_0 rfl (lv_at hl 0 rfl) ?_
  refine lv_iload_n hx hb dX1_take_1 rfl (lv_at hl 1 rfl) ?_
  obtain ⟨M1, eM1, hf⟩ := zlet_e hf
  refine x_put (j := 0) (I2 := M1) (J2 := J) (ty0 := tyX1) (ty := .int) hx hb hts hi1 hown hG hK hP hS hk0 rfl tyX1_ok nmX1 (by decide) (hts (.fieldLink RX1 9 "LeaseOffice$Holder" "sort" "I") (by decide +kernel)) rfl (by decide +kernel) rfl rfl (Nat.le_of_ble_eq_true rfl) (by rw [eM1]; exact zs_1_0 _) (by rw [eM1]; exact zo_C) (by decide) dX1_take_2 (fun H locs hP hS => ?_)
  refine lv_aload_n hx hb dX1_take_5 rfl (lv_at hl 0 rfl) ?_
  refine lv_iload_n hx hb dX1_take_6 rfl (lv_at hl 2 rfl) ?_
  obtain ⟨M2, eM2, hf⟩ := zlet_e hf
  refine x_put (j := 1) (I2 := M2) (J2 := J) (ty0 := tyX1) (ty := .int) hx hb hts hi1 hown hG hK hP hS hk0 rfl tyX1_ok nmX1 (by decide) (hts (.fieldLink RX1 24 "LeaseOffice$Holder" "number" "I") (by decide +kernel)) rfl (by decide +kernel) rfl rfl (Nat.le_of_ble_eq_true rfl) (by rw [eM2]; exact zs_1_1 _) (by rw [eM2]; exact zo_C) (by decide) dX1_take_7 (fun H locs hP hS => ?_)
  obtain rfl := Option.some.inj hf
  exact x_vret hx hb hr hlocks hK hP hS dX1_take_10
set_option maxRecDepth 100000 in
set_option maxHeartbeats 4000000 in
theorem c_X2_isPerson (l : Launch) (G : zGT) (hG : zOK G) (I J : zM) (x0 : Nat) (x1 : Int32) (hk0 : zK x0 = 2) {r : Int32} (hf : f_X2_isPerson I x0 x1 = some r) : Met l yX2_isPerson wsX2_isPerson (zrm 0 0) (va_Pc [.ref (G.2.1 (x0)), .int x1] (zS G I J)) (zQi G r I J) 0 0 (zA G) := by
  refine zMet (cc := cX2_isPerson) (n := 2) (ret := (some .boolean)) (by decide) rfl (Nat.le_of_ble_eq_true rfl) ?_
  intro p e s m args below meth c H locs ls F hK hP hS hl
  obtain ⟨hx, hb, hr, hml, hts, hown, hlocks⟩ := F
  have hown : s.vm.findClass RX2 = some m.cls := hown
  have hl : lv_has ls 2 [(0, .ref (G.2.1 (x0))), (1, .int x1)] := hl
  have hi2 : ∀ w ∈ wsX20, w ∈ wsX2_isPerson := fun _ h => List.mem_cons_of_mem _ (List.mem_append_right _ h)
  unfold f_X2_isPerson at hf
  refine lv_iload_n hx hb dX2_isPerson_0 rfl (lv_at hl 1 rfl) ?_
  refine lv_if_lt (tgt := 16) hx hb dX2_isPerson_1 (by decide) (fun c1 => ?_) (fun c1 => ?_)
  · have hf := zif_t c1 hf
    refine lv_iconst (v := 0) hx hb dX2_isPerson_16 (by decide) ?_
    obtain rfl := Option.some.inj hf
    exact x_zret (v := 0) rfl hx hb hr hlocks hK hP hS dX2_isPerson_17
  · have hf := zif_f c1 hf
    refine lv_iload_n hx hb dX2_isPerson_4 rfl (lv_at hl 1 rfl) ?_
    refine lv_aload_n hx hb dX2_isPerson_5 rfl (lv_at hl 0 rfl) ?_
    refine x_get (j := 5) (v := .int (I x0 5)) hx hb hts hi2 hown hK hP hk0 rfl (by decide) (hts (.fieldLink RX2 40 "LeaseOffice$Office" "personCount" "I") (by decide +kernel)) rfl (by decide) dX2_isPerson_6 ?_
    refine lv_icmp_ge (tgt := 16) hx hb dX2_isPerson_9 (by decide) (fun c2 => ?_) (fun c2 => ?_)
    · have hf := zif_t c2 hf
      refine lv_iconst (v := 0) hx hb dX2_isPerson_16 (by decide) ?_
      obtain rfl := Option.some.inj hf
      exact x_zret (v := 0) rfl hx hb hr hlocks hK hP hS dX2_isPerson_17
    · have hf := zif_f c2 hf
      refine lv_iconst (v := 1) hx hb dX2_isPerson_12 (by decide) ?_
      refine lv_goto (tgt := 17) hx hb dX2_isPerson_13 (by decide) ?_
      obtain rfl := Option.some.inj hf
      exact x_zret (v := 1) rfl hx hb hr hlocks hK hP hS dX2_isPerson_17
set_option maxRecDepth 100000 in
set_option maxHeartbeats 4000000 in
theorem c_X2_personAt (l : Launch) (G : zGT) (hG : zOK G) (I J : zM) (x0 : Nat) (x1 : Int32) (hk0 : zK x0 = 2) {r : Nat} (hf : f_X2_personAt I x0 x1 = some r) : Met l yX2_personAt wsX2_personAt (zrm 0 0) (va_Pc [.ref (G.2.1 (x0)), .int x1] (zS G I J)) (zQr G r I J) 0 0 (zA G) := by
  refine zMet (cc := cX2_personAt) (n := 2) (ret := (some (.object "LeaseOffice$Person"))) (by decide) rfl (Nat.le_of_ble_eq_true rfl) ?_
  intro p e s m args below meth c H locs ls F hK hP hS hl
  obtain ⟨hx, hb, hr, hml, hts, hown, hlocks⟩ := F
  have hown : s.vm.findClass RX2 = some m.cls := hown
  have hl : lv_has ls 2 [(0, .ref (G.2.1 (x0))), (1, .int x1)] := hl
  have hi2 : ∀ w ∈ wsX20, w ∈ wsX2_personAt := fun _ h => List.mem_cons_of_mem _ (List.mem_append_right _ h)
  unfold f_X2_personAt at hf
  refine lv_iload_n hx hb dX2_personAt_0 rfl (lv_at hl 1 rfl) ?_
  refine lv_if_lt (tgt := 22) hx hb dX2_personAt_1 (by decide) (fun c1 => ?_) (fun c1 => ?_)
  · have hf := zif_t c1 hf
    refine lv_aload_n hx hb dX2_personAt_22 rfl (lv_at hl 0 rfl) ?_
    refine x_get (j := 2) (v := .ref (G.2.1 (x0 + 3))) hx hb hts hi2 hown hK hP hk0 rfl (by decide) (hts (.fieldLink RX2 24 "LeaseOffice$Office" "nobody" "LLeaseOffice$Person;") (by decide +kernel)) rfl (by decide) dX2_personAt_23 ?_
    obtain rfl := Option.some.inj hf
    exact x_aret (Or.inl ⟨_, rfl⟩) hx hb hr hlocks hK hP hS dX2_personAt_26
  · have hf := zif_f c1 hf
    refine lv_iload_n hx hb dX2_personAt_4 rfl (lv_at hl 1 rfl) ?_
    refine lv_aload_n hx hb dX2_personAt_5 rfl (lv_at hl 0 rfl) ?_
    refine x_get (j := 0) (v := .ref (G.2.1 (x0 + 1))) hx hb hts hi2 hown hK hP hk0 rfl (by decide) (hts (.fieldLink RX2 11 "LeaseOffice$Office" "persons" "[LLeaseOffice$Person;") (by decide +kernel)) rfl (by decide) dX2_personAt_6 ?_
    refine x_alen 2 (v := 12) hx hb hK hP (zK_lt (zk_2_0 hk0) (by decide)) (zE_12 (zk_2_0 hk0)) rfl rfl dX2_personAt_9 ?_
    refine lv_icmp_ge (tgt := 22) hx hb dX2_personAt_10 (by decide) (fun c2 => ?_) (fun c2 => ?_)
    · have hf := zif_t c2 hf
      refine lv_aload_n hx hb dX2_personAt_22 rfl (lv_at hl 0 rfl) ?_
      refine x_get (j := 2) (v := .ref (G.2.1 (x0 + 3))) hx hb hts hi2 hown hK hP hk0 rfl (by decide) (hts (.fieldLink RX2 24 "LeaseOffice$Office" "nobody" "LLeaseOffice$Person;") (by decide +kernel)) rfl (by decide) dX2_personAt_23 ?_
      obtain rfl := Option.some.inj hf
      exact x_aret (Or.inl ⟨_, rfl⟩) hx hb hr hlocks hK hP hS dX2_personAt_26
    · have hf := zif_f c2 hf
      refine lv_aload_n hx hb dX2_personAt_13 rfl (lv_at hl 0 rfl) ?_
      refine x_get (j := 0) (v := .ref (G.2.1 (x0 + 1))) hx hb hts hi2 hown hK hP hk0 rfl (by decide) (hts (.fieldLink RX2 11 "LeaseOffice$Office" "persons" "[LLeaseOffice$Person;") (by decide +kernel)) rfl (by decide) dX2_personAt_14 ?_
      refine lv_iload_n hx hb dX2_personAt_17 rfl (lv_at hl 1 rfl) ?_
      obtain ⟨h3, hf⟩ := zck_e hf
      refine x_aald12 hk0 hx hb hK hP (zin_e h3) dX2_personAt_18 ?_
      refine lv_goto (tgt := 26) hx hb dX2_personAt_19 (by decide) ?_
      obtain rfl := Option.some.inj hf
      exact x_aret (Or.inl ⟨_, rfl⟩) hx hb hr hlocks hK hP hS dX2_personAt_26
set_option maxRecDepth 100000 in
set_option maxHeartbeats 4000000 in
theorem c_X2_bringCoins (l : Launch) (G : zGT) (hG : zOK G) (I J : zM) (x0 : Nat) (x1 : Int32) (x2 : Int32) (hk0 : zK x0 = 2) {r : Int32 × zM} (hf : f_X2_bringCoins I x0 x1 x2 = some r) : Met l yX2_bringCoins wsX2_bringCoins (zrm 1 21) (va_Pc [.ref (G.2.1 (x0)), .int x1, .int x2] (zS G I J)) (zQi G r.1 r.2 J) 0 0 (zA G) := by
  refine zMet (cc := cX2_bringCoins) (n := 6) (ret := (some .int)) (by decide) rfl (Nat.le_of_ble_eq_true rfl) ?_
  intro p e s m args below meth c H locs ls F hK hP hS hl
  obtain ⟨hx, hb, hr, hml, hts, hown, hlocks⟩ := F
  have hown : s.vm.findClass RX2 = some m.cls := hown
  have hl : lv_has ls 6 [(0, .ref (G.2.1 (x0))), (1, .int x1), (2, .int x2)] := hl
  have hi2 : ∀ w ∈ wsX20, w ∈ wsX2_bringCoins := fun _ h => List.mem_cons_of_mem _ (List.mem_append_right _ h)
  have hi3 : ∀ w ∈ wsX30, w ∈ wsX2_bringCoins := fun _ h => List.mem_cons_of_mem _ (List.mem_append_left _ (List.mem_append_right _ h))
  unfold f_X2_bringCoins at hf
  refine lv_aload_n hx hb dX2_bringCoins_0 rfl (lv_at hl 0 rfl) ?_
  refine lv_iload_n hx hb dX2_bringCoins_1 rfl (lv_at hl 1 rfl) ?_
  obtain ⟨q1, hq1, hf⟩ := zb_e hf
  refine x_calli (x_runV (As := [.int x1]) (rest := []) ⟨hx, hb, hml, hown, hts⟩ (c_X2_isPerson l G hG I J x0 x1 hk0 hq1) (cwV 1 hts gX2_bringCoins_X2_isPerson rfl rfl rfl (by decide +kernel) ⟨Nat.le_of_ble_eq_true rfl, Nat.le_of_ble_eq_true rfl⟩) hK hP hk0 (by decide) rfl rfl hl.1 rfl (Nat.le_of_ble_eq_true rfl) dX2_bringCoins_2 ⟨Nat.zero_le _, Nat.zero_le _⟩) hS (fun H locs hP hS => ?_)
  refine lv_if_eq (tgt := 20) hx hb dX2_bringCoins_5 (by decide) (fun c2 => ?_) (fun c2 => ?_)
  · have hf := zif_t c2 hf
    refine lv_iconst (v := (-1)) hx hb dX2_bringCoins_20 (by decide) ?_
    obtain rfl := Option.some.inj hf
    exact x_iret hx hb hr hlocks hK hP hS dX2_bringCoins_21
  · have hf := zif_f c2 hf
    refine lv_iload_n hx hb dX2_bringCoins_8 rfl (lv_at hl 2 rfl) ?_
    refine lv_iconst (v := 1) hx hb dX2_bringCoins_9 (by decide) ?_
    refine lv_icmp_lt (tgt := 20) hx hb dX2_bringCoins_10 (by decide) (fun c3 => ?_) (fun c3 => ?_)
    · have hf := zif_t c3 hf
      refine lv_iconst (v := (-1)) hx hb dX2_bringCoins_20 (by decide) ?_
      obtain rfl := Option.some.inj hf
      exact x_iret hx hb hr hlocks hK hP hS dX2_bringCoins_21
    · have hf := zif_f c3 hf
      refine lv_iload_n hx hb dX2_bringCoins_13 rfl (lv_at hl 2 rfl) ?_
      refine lv_sipush (v := 999) hx hb dX2_bringCoins_14 (by decide) ?_
      refine lv_icmp_le (tgt := 22) hx hb dX2_bringCoins_17 (by decide) (fun c4 => ?_) (fun c4 => ?_)
      · have hf := zif_t c4 hf
        refine lv_aload_n hx hb dX2_bringCoins_22 rfl (lv_at hl 0 rfl) ?_
        refine lv_iload_n hx hb dX2_bringCoins_23 rfl (lv_at hl 1 rfl) ?_
        obtain ⟨q5, hq5, hf⟩ := zb_e hf
        refine x_callr (x_runV (As := [.int x1]) (rest := []) ⟨hx, hb, hml, hown, hts⟩ (c_X2_personAt l G hG I J x0 x1 hk0 hq5) (cwV 1 hts gX2_bringCoins_X2_personAt rfl rfl rfl (by decide +kernel) ⟨Nat.le_of_ble_eq_true rfl, Nat.le_of_ble_eq_true rfl⟩) hK hP hk0 (by decide) rfl rfl hl.1 rfl (Nat.le_of_ble_eq_true rfl) dX2_bringCoins_24 ⟨Nat.zero_le _, Nat.zero_le _⟩) hS (fun H locs hP hS => ?_)
        refine lv_astore_n (lv' := [(3, .ref (G.2.1 (q5))), (0, .ref (G.2.1 (x0))), (1, .int x1), (2, .int x2)]) hx hb dX2_bringCoins_27 rfl hl (by decide) rfl (fun ls hl => ?_)
        refine lv_aload_n hx hb dX2_bringCoins_28 rfl (lv_at hl 0 rfl) ?_
        refine x_get (j := 4) (v := .int (I q5 4)) hx hb hts hi3 hown hK hP (kd_X2_personAt hk0 hq5) rfl (by decide) (hts (.fieldLink RX2 99 "LeaseOffice$Person" "debt" "I") (by decide +kernel)) rfl (by decide) dX2_bringCoins_29 ?_
        refine lv_iload_n hx hb dX2_bringCoins_32 rfl (lv_at hl 3 rfl) ?_
        obtain ⟨w6, ew6, hf⟩ := zlet_e hf
        refine va_mmin hx hb (hml.trans hl.1.symm) hown (hts (.methodLink RX2 102 Lib.Math.min.name) (by decide +kernel)) (hts (.static Lib.Math.min.name) (by decide +kernel)) (hts (.initialized "java/lang/Math") (by decide +kernel)) (hts (.code Lib.Math.min.name Lib.Math.min.code 2 (some .int)) (by decide +kernel)) (Nat.le_of_ble_eq_true rfl) (Nat.le_of_ble_eq_true rfl) (Nat.zero_le _) (Nat.zero_le _) dX2_bringCoins_33 ?_
        refine z_topi ew6 ?_
        refine lv_istore (lv' := [(4, .int w6), (3, .ref (G.2.1 (q5))), (0, .ref (G.2.1 (x0))), (1, .int x1), (2, .int x2)]) hx hb dX2_bringCoins_36 hl (by decide) rfl (fun ls hl => ?_)
        refine lv_aload_n hx hb dX2_bringCoins_38 rfl (lv_at hl 1 rfl) ?_
        refine x_get (j := 1) (v := .int (I q5 1)) hx hb hts hi3 hown hK hP (kd_X2_personAt hk0 hq5) rfl (by decide) (hts (.fieldLink RX2 108 "LeaseOffice$Person" "purse" "I") (by decide +kernel)) rfl (by decide) dX2_bringCoins_39 ?_
        refine lv_iload_n hx hb dX2_bringCoins_42 rfl (lv_at hl 4 rfl) ?_
        refine lv_iadd hx hb dX2_bringCoins_43 ?_
        refine lv_iload hx hb dX2_bringCoins_44 (lv_at hl 0 rfl) ?_
        refine lv_isub hx hb dX2_bringCoins_46 ?_
        obtain ⟨w7, ew7, hf⟩ := zlet_e hf
        refine z_topi ew7 ?_
        refine lv_istore (lv' := [(5, .int w7), (4, .int w6), (3, .ref (G.2.1 (q5))), (0, .ref (G.2.1 (x0))), (1, .int x1), (2, .int x2)]) hx hb dX2_bringCoins_47 hl (by decide) rfl (fun ls hl => ?_)
        refine lv_iload hx hb dX2_bringCoins_49 (lv_at hl 0 rfl) ?_
        refine lv_sipush (v := 9999) hx hb dX2_bringCoins_51 (by decide) ?_
        refine lv_icmp_le (tgt := 60) hx hb dX2_bringCoins_54 (by decide) (fun c8 => ?_) (fun c8 => ?_)
        · have hf := zif_t c8 hf
          refine lv_aload_n hx hb dX2_bringCoins_60 rfl (lv_at hl 2 rfl) ?_
          refine lv_dup hx hb dX2_bringCoins_61 rfl ?_
          refine x_get (j := 4) (v := .int (I q5 4)) hx hb hts hi3 hown hK hP (kd_X2_personAt hk0 hq5) rfl (by decide) (hts (.fieldLink RX2 99 "LeaseOffice$Person" "debt" "I") (by decide +kernel)) rfl (by decide) dX2_bringCoins_62 ?_
          refine lv_iload hx hb dX2_bringCoins_65 (lv_at hl 1 rfl) ?_
          refine lv_isub hx hb dX2_bringCoins_67 ?_
          obtain ⟨M9, eM9, hf⟩ := zlet_e hf
          refine x_put (j := 4) (I2 := M9) (J2 := J) (ty0 := tyX3) (ty := .int) hx hb hts hi3 hown hG hK hP hS (kd_X2_personAt hk0 hq5) rfl tyX3_ok nmX3 (by decide) (hts (.fieldLink RX2 99 "LeaseOffice$Person" "debt" "I") (by decide +kernel)) rfl (by decide +kernel) rfl rfl (Nat.le_of_ble_eq_true rfl) (by rw [eM9]; exact zs_3_4 _) (by rw [eM9]; exact zo_C) (by decide) dX2_bringCoins_68 (fun H locs hP hS => ?_)
          refine lv_aload_n hx hb dX2_bringCoins_71 rfl (lv_at hl 2 rfl) ?_
          refine lv_iload hx hb dX2_bringCoins_72 (lv_at hl 0 rfl) ?_
          obtain ⟨M10, eM10, hf⟩ := zlet_e hf
          refine x_put (j := 1) (I2 := M10) (J2 := J) (ty0 := tyX3) (ty := .int) hx hb hts hi3 hown hG hK hP hS (kd_X2_personAt hk0 hq5) rfl tyX3_ok nmX3 (by decide) (hts (.fieldLink RX2 108 "LeaseOffice$Person" "purse" "I") (by decide +kernel)) rfl (by decide +kernel) rfl rfl (Nat.le_of_ble_eq_true rfl) (by rw [eM10]; exact zs_3_1 _) (by rw [eM10]; exact zo_C) (by decide) dX2_bringCoins_74 (fun H locs hP hS => ?_)
          refine lv_aload_n hx hb dX2_bringCoins_77 rfl (lv_at hl 3 rfl) ?_
          refine lv_dup hx hb dX2_bringCoins_78 rfl ?_
          refine x_get (j := 8) (v := .int (M10 x0 8)) hx hb hts hi2 hown hK hP hk0 rfl (by decide) (hts (.fieldLink RX2 50 "LeaseOffice$Office" "till" "I") (by decide +kernel)) rfl (by decide) dX2_bringCoins_79 ?_
          refine lv_iload hx hb dX2_bringCoins_82 (lv_at hl 1 rfl) ?_
          refine lv_iadd hx hb dX2_bringCoins_84 ?_
          obtain ⟨M11, eM11, hf⟩ := zlet_e hf
          refine x_put (j := 8) (I2 := M11) (J2 := J) (ty0 := tyX2) (ty := .int) hx hb hts hi2 hown hG hK hP hS hk0 rfl tyX2_ok nmX2 (by decide) (hts (.fieldLink RX2 50 "LeaseOffice$Office" "till" "I") (by decide +kernel)) rfl (by decide +kernel) rfl rfl (Nat.le_of_ble_eq_true rfl) (by rw [eM11]; exact zs_2_8 _) (by rw [eM11]; exact zo_C) (by decide) dX2_bringCoins_85 (fun H locs hP hS => ?_)
          refine lv_iload hx hb dX2_bringCoins_88 (lv_at hl 0 rfl) ?_
          obtain rfl := Option.some.inj hf
          exact x_iret hx hb hr hlocks hK hP hS dX2_bringCoins_90
        · have hf := zif_f c8 hf
          refine lv_bipush (v := (-5)) hx hb dX2_bringCoins_57 (by decide) ?_
          obtain rfl := Option.some.inj hf
          exact x_iret hx hb hr hlocks hK hP hS dX2_bringCoins_59
      · have hf := zif_f c4 hf
        refine lv_iconst (v := (-1)) hx hb dX2_bringCoins_20 (by decide) ?_
        obtain rfl := Option.some.inj hf
        exact x_iret hx hb hr hlocks hK hP hS dX2_bringCoins_21
set_option maxRecDepth 100000 in
set_option maxHeartbeats 4000000 in
theorem c_X2_claimServed (l : Launch) (G : zGT) (hG : zOK G) (I J : zM) (x0 : Nat) (x1 : Nat) (hk0 : zK x0 = 2) (hk1 : zK x1 = 7) {r : Int32} (hf : f_X2_claimServed I x0 x1 = some r) : Met l yX2_claimServed wsX2_claimServed (zrm 1 23) (va_Pc [.ref (G.2.1 (x0)), .ref (G.2.1 (x1))] (zS G I J)) (zQi G r I J) 0 0 (zA G) := by
  refine zMet (cc := cX2_claimServed) (n := 3) (ret := (some .int)) (by decide) rfl (Nat.le_of_ble_eq_true rfl) ?_
  intro p e s m args below meth c H locs ls F hK hP hS hl
  obtain ⟨hx, hb, hr, hml, hts, hown, hlocks⟩ := F
  have hown : s.vm.findClass RX2 = some m.cls := hown
  have hl : lv_has ls 3 [(0, .ref (G.2.1 (x0))), (1, .ref (G.2.1 (x1)))] := hl
  have hi3 : ∀ w ∈ wsX30, w ∈ wsX2_claimServed := fun _ h => List.mem_cons_of_mem _ (List.mem_append_left _ (List.mem_append_left _ (List.mem_append_right _ h)))
  have hi7 : ∀ w ∈ wsX70, w ∈ wsX2_claimServed := fun _ h => List.mem_cons_of_mem _ (List.mem_append_left _ (List.mem_append_left _ (List.mem_append_left _ (List.mem_append_right _ h))))
  have L13 : ∀ (n : Nat) (y2 : Int32) (H : Heap) (locs : List Loc) (ls : Array Slot), f_X2_claimServed_l13 I x0 x1 n y2 = some r → va_P G.1 vwCl (zW G I J) H → va_S (zA G) s.heap H locs → lv_has ls 3 [(0, .ref (G.2.1 (x0))), (1, .ref (G.2.1 (x1))), (2, .int y2)] → W p l e (zrm 1 23) s m args below meth c H locs 0 0 (MQ below (zQi G r I J) args s 0 0 (zA G)) (F0 m 13 ls []) := by
    intro n
    induction n with
    | zero =>
      intro y2 H locs ls hf
      rw [f_X2_claimServed_l13] at hf
      cases hf
    | succ n ih =>
      intro y2 H locs ls hf hP hS hl
      rw [f_X2_claimServed_l13] at hf
      refine lv_iload_n hx hb dX2_claimServed_13 rfl (lv_at hl 2 rfl) ?_
      refine lv_aload_n hx hb dX2_claimServed_14 rfl (lv_at hl 1 rfl) ?_
      refine x_get (j := 9) (v := .ref (G.2.1 (x1 + 5))) hx hb hts hi7 hown hK hP hk1 rfl (by decide) (hts (.fieldLink RX2 150 "LeaseOffice$Tool" "claims" "LLeaseOffice$Table;") (by decide +kernel)) rfl (by decide) dX2_claimServed_15 ?_
      obtain ⟨q2, hq2, hf⟩ := zb_e hf
      refine x_calli (x_runV (As := []) (rest := [.int y2]) ⟨hx, hb, hml, hown, hts⟩ (c_X4_size l G hG I J (x1 + 5) (zk_7_9 hk1) hq2) (cwV 0 hts gX2_claimServed_X4_size rfl rfl rfl (by decide +kernel) ⟨Nat.le_of_ble_eq_true rfl, Nat.le_of_ble_eq_true rfl⟩) hK hP (zk_7_9 hk1) (by decide) rfl rfl hl.1 rfl (Nat.le_of_ble_eq_true rfl) dX2_claimServed_18 ⟨Nat.zero_le _, Nat.zero_le _⟩) hS (fun H locs hP hS => ?_)
      refine lv_icmp_ge (tgt := 55) hx hb dX2_claimServed_21 (by decide) (fun c3 => ?_) (fun c3 => ?_)
      · have hf := zif_t c3 hf
        refine lv_iconst (v := (-1)) hx hb dX2_claimServed_55 (by decide) ?_
        obtain rfl := Option.some.inj hf
        exact x_iret hx hb hr hlocks hK hP hS dX2_claimServed_56
      · have hf := zif_f c3 hf
        refine lv_aload_n hx hb dX2_claimServed_24 rfl (lv_at hl 0 rfl) ?_
        refine lv_aload_n hx hb dX2_claimServed_25 rfl (lv_at hl 1 rfl) ?_
        refine x_get (j := 9) (v := .ref (G.2.1 (x1 + 5))) hx hb hts hi7 hown hK hP hk1 rfl (by decide) (hts (.fieldLink RX2 150 "LeaseOffice$Tool" "claims" "LLeaseOffice$Table;") (by decide +kernel)) rfl (by decide) dX2_claimServed_26 ?_
        refine lv_iload_n hx hb dX2_claimServed_29 rfl (lv_at hl 2 rfl) ?_
        refine lv_iconst (v := 0) hx hb dX2_claimServed_30 (by decide) ?_
        obtain ⟨q4, hq4, hf⟩ := zb_e hf
        refine x_calli (x_runV (As := [.int y2, .int 0]) (rest := [.ref (G.2.1 (x0))]) ⟨hx, hb, hml, hown, hts⟩ (c_X4_cell l G hG I J (x1 + 5) y2 0 (zk_7_9 hk1) hq4) (cwV 2 hts gX2_claimServed_X4_cell rfl rfl rfl (by decide +kernel) ⟨Nat.le_of_ble_eq_true rfl, Nat.le_of_ble_eq_true rfl⟩) hK hP (zk_7_9 hk1) (by decide) rfl rfl hl.1 rfl (Nat.le_of_ble_eq_true rfl) dX2_claimServed_31 ⟨Nat.zero_le _, Nat.zero_le _⟩) hS (fun H locs hP hS => ?_)
        obtain ⟨q5, hq5, hf⟩ := zb_e hf
        refine x_callr (x_runV (As := [.int q4]) (rest := []) ⟨hx, hb, hml, hown, hts⟩ (c_X2_personAt l G hG I J x0 q4 hk0 hq5) (cwV 1 hts gX2_claimServed_X2_personAt rfl rfl rfl (by decide +kernel) ⟨Nat.le_of_ble_eq_true rfl, Nat.le_of_ble_eq_true rfl⟩) hK hP hk0 (by decide) rfl rfl hl.1 rfl (Nat.le_of_ble_eq_true rfl) dX2_claimServed_34 ⟨Nat.zero_le _, Nat.zero_le _⟩) hS (fun H locs hP hS => ?_)
        refine x_get (j := 1) (v := .int (I q5 1)) hx hb hts hi3 hown hK hP (kd_X2_personAt hk0 hq5) rfl (by decide) (hts (.fieldLink RX2 108 "LeaseOffice$Person" "purse" "I") (by decide +kernel)) rfl (by decide) dX2_claimServed_37 ?_
        refine lv_aload_n hx hb dX2_claimServed_40 rfl (lv_at hl 1 rfl) ?_
        refine x_get (j := 0) (v := .int (I x1 0)) hx hb hts hi7 hown hK hP hk1 rfl (by decide) (hts (.fieldLink RX2 134 "LeaseOffice$Tool" "worth" "I") (by decide +kernel)) rfl (by decide) dX2_claimServed_41 ?_
        refine lv_icmp_lt (tgt := 49) hx hb dX2_claimServed_44 (by decide) (fun c6 => ?_) (fun c6 => ?_)
        · have hf := zif_t c6 hf
          refine lv_iinc (v := (y2 + 1)) (lv' := [(2, .int (y2 + 1)), (0, .ref (G.2.1 (x0))), (1, .ref (G.2.1 (x1)))]) hx hb dX2_claimServed_49 hl (k := 2) rfl rfl (by decide) rfl (fun ls hl => ?_)
          refine lv_goto (tgt := 13) hx hb dX2_claimServed_52 (by decide) ?_
          exact ih (y2 + 1) H locs ls hf hP hS (lv_sub hl [1, 2, 0] rfl)
        · have hf := zif_f c6 hf
          refine lv_iload_n hx hb dX2_claimServed_47 rfl (lv_at hl 2 rfl) ?_
          obtain rfl := Option.some.inj hf
          exact x_iret hx hb hr hlocks hK hP hS dX2_claimServed_48
  unfold f_X2_claimServed at hf
  refine lv_aload_n hx hb dX2_claimServed_0 rfl (lv_at hl 1 rfl) ?_
  refine x_get (j := 1) (v := .int (I x1 1)) hx hb hts hi7 hown hK hP hk1 rfl (by decide) (hts (.fieldLink RX2 128 "LeaseOffice$Tool" "wear" "I") (by decide +kernel)) rfl (by decide) dX2_claimServed_1 ?_
  refine lv_bipush (v := 9) hx hb dX2_claimServed_4 (by decide) ?_
  refine lv_icmp_lt (tgt := 11) hx hb dX2_claimServed_6 (by decide) (fun c1 => ?_) (fun c1 => ?_)
  · have hf := zif_t c1 hf
    refine lv_iconst (v := 0) hx hb dX2_claimServed_11 (by decide) ?_
    refine lv_istore_n (lv' := [(2, .int 0), (0, .ref (G.2.1 (x0))), (1, .ref (G.2.1 (x1)))]) hx hb dX2_claimServed_12 rfl hl (by decide) rfl (fun ls hl => ?_)
    exact L13 zFu 0 H locs ls hf hP hS (lv_sub hl [1, 2, 0] rfl)
  · have hf := zif_f c1 hf
    refine lv_iconst (v := (-1)) hx hb dX2_claimServed_9 (by decide) ?_
    obtain rfl := Option.some.inj hf
    exact x_iret hx hb hr hlocks hK hP hS dX2_claimServed_10
set_option maxRecDepth 100000 in
set_option maxHeartbeats 4000000 in
theorem c_X2_toolAt (l : Launch) (G : zGT) (hG : zOK G) (I J : zM) (x0 : Nat) (x1 : Int32) (hk0 : zK x0 = 2) {r : Nat} (hf : f_X2_toolAt I x0 x1 = some r) : Met l yX2_toolAt wsX2_toolAt (zrm 0 0) (va_Pc [.ref (G.2.1 (x0)), .int x1] (zS G I J)) (zQr G r I J) 0 0 (zA G) := by
  refine zMet (cc := cX2_toolAt) (n := 2) (ret := (some (.object "LeaseOffice$Tool"))) (by decide) rfl (Nat.le_of_ble_eq_true rfl) ?_
  intro p e s m args below meth c H locs ls F hK hP hS hl
  obtain ⟨hx, hb, hr, hml, hts, hown, hlocks⟩ := F
  have hown : s.vm.findClass RX2 = some m.cls := hown
  have hl : lv_has ls 2 [(0, .ref (G.2.1 (x0))), (1, .int x1)] := hl
  have hi2 : ∀ w ∈ wsX20, w ∈ wsX2_toolAt := fun _ h => List.mem_cons_of_mem _ (List.mem_append_right _ h)
  unfold f_X2_toolAt at hf
  refine lv_iload_n hx hb dX2_toolAt_0 rfl (lv_at hl 1 rfl) ?_
  refine lv_if_lt (tgt := 22) hx hb dX2_toolAt_1 (by decide) (fun c1 => ?_) (fun c1 => ?_)
  · have hf := zif_t c1 hf
    refine lv_aload_n hx hb dX2_toolAt_22 rfl (lv_at hl 0 rfl) ?_
    refine x_get (j := 3) (v := .ref (G.2.1 (x0 + 5))) hx hb hts hi2 hown hK hP hk0 rfl (by decide) (hts (.fieldLink RX2 29 "LeaseOffice$Office" "noTool" "LLeaseOffice$Tool;") (by decide +kernel)) rfl (by decide) dX2_toolAt_23 ?_
    obtain rfl := Option.some.inj hf
    exact x_aret (Or.inl ⟨_, rfl⟩) hx hb hr hlocks hK hP hS dX2_toolAt_26
  · have hf := zif_f c1 hf
    refine lv_iload_n hx hb dX2_toolAt_4 rfl (lv_at hl 1 rfl) ?_
    refine lv_aload_n hx hb dX2_toolAt_5 rfl (lv_at hl 0 rfl) ?_
    refine x_get (j := 1) (v := .ref (G.2.1 (x0 + 2))) hx hb hts hi2 hown hK hP hk0 rfl (by decide) (hts (.fieldLink RX2 19 "LeaseOffice$Office" "tools" "[LLeaseOffice$Tool;") (by decide +kernel)) rfl (by decide) dX2_toolAt_6 ?_
    refine x_alen 3 (v := 10) hx hb hK hP (zK_lt (zk_2_1 hk0) (by decide)) (zE_13 (zk_2_1 hk0)) rfl rfl dX2_toolAt_9 ?_
    refine lv_icmp_ge (tgt := 22) hx hb dX2_toolAt_10 (by decide) (fun c2 => ?_) (fun c2 => ?_)
    · have hf := zif_t c2 hf
      refine lv_aload_n hx hb dX2_toolAt_22 rfl (lv_at hl 0 rfl) ?_
      refine x_get (j := 3) (v := .ref (G.2.1 (x0 + 5))) hx hb hts hi2 hown hK hP hk0 rfl (by decide) (hts (.fieldLink RX2 29 "LeaseOffice$Office" "noTool" "LLeaseOffice$Tool;") (by decide +kernel)) rfl (by decide) dX2_toolAt_23 ?_
      obtain rfl := Option.some.inj hf
      exact x_aret (Or.inl ⟨_, rfl⟩) hx hb hr hlocks hK hP hS dX2_toolAt_26
    · have hf := zif_f c2 hf
      refine lv_aload_n hx hb dX2_toolAt_13 rfl (lv_at hl 0 rfl) ?_
      refine x_get (j := 1) (v := .ref (G.2.1 (x0 + 2))) hx hb hts hi2 hown hK hP hk0 rfl (by decide) (hts (.fieldLink RX2 19 "LeaseOffice$Office" "tools" "[LLeaseOffice$Tool;") (by decide +kernel)) rfl (by decide) dX2_toolAt_14 ?_
      refine lv_iload_n hx hb dX2_toolAt_17 rfl (lv_at hl 1 rfl) ?_
      obtain ⟨h3, hf⟩ := zck_e hf
      refine x_aald13 hk0 hx hb hK hP (zin_e h3) dX2_toolAt_18 ?_
      refine lv_goto (tgt := 26) hx hb dX2_toolAt_19 (by decide) ?_
      obtain rfl := Option.some.inj hf
      exact x_aret (Or.inl ⟨_, rfl⟩) hx hb hr hlocks hK hP hS dX2_toolAt_26
set_option maxRecDepth 100000 in
set_option maxHeartbeats 4000000 in
theorem c_X7_placeOfClaim (l : Launch) (G : zGT) (hG : zOK G) (I J : zM) (x0 : Nat) (x1 : Int32) (hk0 : zK x0 = 7) {r : Int32} (hf : f_X7_placeOfClaim I x0 x1 = some r) : Met l yX7_placeOfClaim wsX7_placeOfClaim (zrm 1 23) (va_Pc [.ref (G.2.1 (x0)), .int x1] (zS G I J)) (zQi G r I J) 0 0 (zA G) := by
  refine zMet (cc := cX7_placeOfClaim) (n := 3) (ret := (some .int)) (by decide) rfl (Nat.le_of_ble_eq_true rfl) ?_
  intro p e s m args below meth c H locs ls F hK hP hS hl
  obtain ⟨hx, hb, hr, hml, hts, hown, hlocks⟩ := F
  have hown : s.vm.findClass RX7 = some m.cls := hown
  have hl : lv_has ls 3 [(0, .ref (G.2.1 (x0))), (1, .int x1)] := hl
  have hi7 : ∀ w ∈ wsX70, w ∈ wsX7_placeOfClaim := fun _ h => List.mem_cons_of_mem _ (List.mem_append_left _ (List.mem_append_right _ h))
  have L2 : ∀ (n : Nat) (y2 : Int32) (H : Heap) (locs : List Loc) (ls : Array Slot), f_X7_placeOfClaim_l2 I x0 x1 n y2 = some r → va_P G.1 vwCl (zW G I J) H → va_S (zA G) s.heap H locs → lv_has ls 3 [(0, .ref (G.2.1 (x0))), (1, .int x1), (2, .int y2)] → W p l e (zrm 1 23) s m args below meth c H locs 0 0 (MQ below (zQi G r I J) args s 0 0 (zA G)) (F0 m 2 ls []) := by
    intro n
    induction n with
    | zero =>
      intro y2 H locs ls hf
      rw [f_X7_placeOfClaim_l2] at hf
      cases hf
    | succ n ih =>
      intro y2 H locs ls hf hP hS hl
      rw [f_X7_placeOfClaim_l2] at hf
      refine lv_iload_n hx hb dX7_placeOfClaim_2 rfl (lv_at hl 2 rfl) ?_
      refine lv_aload_n hx hb dX7_placeOfClaim_3 rfl (lv_at hl 0 rfl) ?_
      refine x_get (j := 9) (v := .ref (G.2.1 (x0 + 5))) hx hb hts hi7 hown hK hP hk0 rfl (by decide) (hts (.fieldLink RX7 23 "LeaseOffice$Tool" "claims" "LLeaseOffice$Table;") (by decide +kernel)) rfl (by decide) dX7_placeOfClaim_4 ?_
      obtain ⟨q1, hq1, hf⟩ := zb_e hf
      refine x_calli (x_runV (As := []) (rest := [.int y2]) ⟨hx, hb, hml, hown, hts⟩ (c_X4_size l G hG I J (x0 + 5) (zk_7_9 hk0) hq1) (cwV 0 hts gX7_placeOfClaim_X4_size rfl rfl rfl (by decide +kernel) ⟨Nat.le_of_ble_eq_true rfl, Nat.le_of_ble_eq_true rfl⟩) hK hP (zk_7_9 hk0) (by decide) rfl rfl hl.1 rfl (Nat.le_of_ble_eq_true rfl) dX7_placeOfClaim_7 ⟨Nat.zero_le _, Nat.zero_le _⟩) hS (fun H locs hP hS => ?_)
      refine lv_icmp_ge (tgt := 34) hx hb dX7_placeOfClaim_10 (by decide) (fun c2 => ?_) (fun c2 => ?_)
      · have hf := zif_t c2 hf
        refine lv_iconst (v := (-1)) hx hb dX7_placeOfClaim_34 (by decide) ?_
        obtain rfl := Option.some.inj hf
        exact x_iret hx hb hr hlocks hK hP hS dX7_placeOfClaim_35
      · have hf := zif_f c2 hf
        refine lv_aload_n hx hb dX7_placeOfClaim_13 rfl (lv_at hl 0 rfl) ?_
        refine x_get (j := 9) (v := .ref (G.2.1 (x0 + 5))) hx hb hts hi7 hown hK hP hk0 rfl (by decide) (hts (.fieldLink RX7 23 "LeaseOffice$Tool" "claims" "LLeaseOffice$Table;") (by decide +kernel)) rfl (by decide) dX7_placeOfClaim_14 ?_
        refine lv_iload_n hx hb dX7_placeOfClaim_17 rfl (lv_at hl 2 rfl) ?_
        refine lv_iconst (v := 0) hx hb dX7_placeOfClaim_18 (by decide) ?_
        obtain ⟨q3, hq3, hf⟩ := zb_e hf
        refine x_calli (x_runV (As := [.int y2, .int 0]) (rest := []) ⟨hx, hb, hml, hown, hts⟩ (c_X4_cell l G hG I J (x0 + 5) y2 0 (zk_7_9 hk0) hq3) (cwV 2 hts gX7_placeOfClaim_X4_cell rfl rfl rfl (by decide +kernel) ⟨Nat.le_of_ble_eq_true rfl, Nat.le_of_ble_eq_true rfl⟩) hK hP (zk_7_9 hk0) (by decide) rfl rfl hl.1 rfl (Nat.le_of_ble_eq_true rfl) dX7_placeOfClaim_19 ⟨Nat.zero_le _, Nat.zero_le _⟩) hS (fun H locs hP hS => ?_)
        refine lv_iload_n hx hb dX7_placeOfClaim_22 rfl (lv_at hl 1 rfl) ?_
        refine lv_icmp_ne (tgt := 28) hx hb dX7_placeOfClaim_23 (by decide) (fun c4 => ?_) (fun c4 => ?_)
        · have hf := zif_f c4 hf
          refine lv_iinc (v := (y2 + 1)) (lv' := [(2, .int (y2 + 1)), (0, .ref (G.2.1 (x0))), (1, .int x1)]) hx hb dX7_placeOfClaim_28 hl (k := 2) rfl rfl (by decide) rfl (fun ls hl => ?_)
          refine lv_goto (tgt := 2) hx hb dX7_placeOfClaim_31 (by decide) ?_
          exact ih (y2 + 1) H locs ls hf hP hS (lv_sub hl [1, 2, 0] rfl)
        · have hf := zif_t c4 hf
          refine lv_iload_n hx hb dX7_placeOfClaim_26 rfl (lv_at hl 2 rfl) ?_
          obtain rfl := Option.some.inj hf
          exact x_iret hx hb hr hlocks hK hP hS dX7_placeOfClaim_27
  unfold f_X7_placeOfClaim at hf
  refine lv_iconst (v := 0) hx hb dX7_placeOfClaim_0 (by decide) ?_
  refine lv_istore_n (lv' := [(2, .int 0), (0, .ref (G.2.1 (x0))), (1, .int x1)]) hx hb dX7_placeOfClaim_1 rfl hl (by decide) rfl (fun ls hl => ?_)
  exact L2 zFu 0 H locs ls hf hP hS (lv_sub hl [1, 2, 0] rfl)
set_option maxRecDepth 100000 in
set_option maxHeartbeats 4000000 in
theorem c_X2_claimsOf (l : Launch) (G : zGT) (hG : zOK G) (I J : zM) (x0 : Nat) (x1 : Int32) (hk0 : zK x0 = 2) {r : Int32} (hf : f_X2_claimsOf I x0 x1 = some r) : Met l yX2_claimsOf wsX2_claimsOf (zrm 2 45) (va_Pc [.ref (G.2.1 (x0)), .int x1] (zS G I J)) (zQi G r I J) 0 0 (zA G) := by
  refine zMet (cc := cX2_claimsOf) (n := 4) (ret := (some .int)) (by decide) rfl (Nat.le_of_ble_eq_true rfl) ?_
  intro p e s m args below meth c H locs ls F hK hP hS hl
  obtain ⟨hx, hb, hr, hml, hts, hown, hlocks⟩ := F
  have hown : s.vm.findClass RX2 = some m.cls := hown
  have hl : lv_has ls 4 [(0, .ref (G.2.1 (x0))), (1, .int x1)] := hl
  have hi2 : ∀ w ∈ wsX20, w ∈ wsX2_claimsOf := fun _ h => List.mem_cons_of_mem _ (List.mem_append_left _ (List.mem_append_left _ (List.mem_append_right _ h)))
  have L4 : ∀ (n : Nat) (y2 : Int32) (y3 : Int32) (H : Heap) (locs : List Loc) (ls : Array Slot), f_X2_claimsOf_l4 I x0 x1 n y2 y3 = some r → va_P G.1 vwCl (zW G I J) H → va_S (zA G) s.heap H locs → lv_has ls 4 [(0, .ref (G.2.1 (x0))), (1, .int x1), (2, .int y2), (3, .int y3)] → W p l e (zrm 2 45) s m args below meth c H locs 0 0 (MQ below (zQi G r I J) args s 0 0 (zA G)) (F0 m 4 ls []) := by
    intro n
    induction n with
    | zero =>
      intro y2 y3 H locs ls hf
      rw [f_X2_claimsOf_l4] at hf
      cases hf
    | succ n ih =>
      intro y2 y3 H locs ls hf hP hS hl
      rw [f_X2_claimsOf_l4] at hf
      refine lv_iload_n hx hb dX2_claimsOf_4 rfl (lv_at hl 3 rfl) ?_
      refine lv_aload_n hx hb dX2_claimsOf_5 rfl (lv_at hl 0 rfl) ?_
      refine x_get (j := 6) (v := .int (I x0 6)) hx hb hts hi2 hown hK hP hk0 rfl (by decide) (hts (.fieldLink RX2 44 "LeaseOffice$Office" "toolCount" "I") (by decide +kernel)) rfl (by decide) dX2_claimsOf_6 ?_
      refine lv_icmp_ge (tgt := 33) hx hb dX2_claimsOf_9 (by decide) (fun c1 => ?_) (fun c1 => ?_)
      · have hf := zif_t c1 hf
        refine lv_iload_n hx hb dX2_claimsOf_33 rfl (lv_at hl 2 rfl) ?_
        obtain rfl := Option.some.inj hf
        exact x_iret hx hb hr hlocks hK hP hS dX2_claimsOf_34
      · have hf := zif_f c1 hf
        refine lv_aload_n hx hb dX2_claimsOf_12 rfl (lv_at hl 0 rfl) ?_
        refine lv_iload_n hx hb dX2_claimsOf_13 rfl (lv_at hl 3 rfl) ?_
        obtain ⟨q2, hq2, hf⟩ := zb_e hf
        refine x_callr (x_runV (As := [.int y3]) (rest := []) ⟨hx, hb, hml, hown, hts⟩ (c_X2_toolAt l G hG I J x0 y3 hk0 hq2) (cwV 1 hts gX2_claimsOf_X2_toolAt rfl rfl rfl (by decide +kernel) ⟨Nat.le_of_ble_eq_true rfl, Nat.le_of_ble_eq_true rfl⟩) hK hP hk0 (by decide) rfl rfl hl.1 rfl (Nat.le_of_ble_eq_true rfl) dX2_claimsOf_14 ⟨Nat.zero_le _, Nat.zero_le _⟩) hS (fun H locs hP hS => ?_)
        refine lv_iload_n hx hb dX2_claimsOf_17 rfl (lv_at hl 1 rfl) ?_
        obtain ⟨q3, hq3, hf⟩ := zb_e hf
        refine x_calli (x_runV (As := [.int x1]) (rest := []) ⟨hx, hb, hml, hown, hts⟩ (c_X7_placeOfClaim l G hG I J q2 x1 (kd_X2_toolAt hk0 hq2) hq3) (cwV 1 hts gX2_claimsOf_X7_placeOfClaim rfl rfl rfl (by decide +kernel) ⟨Nat.le_of_ble_eq_true rfl, Nat.le_of_ble_eq_true rfl⟩) hK hP (kd_X2_toolAt hk0 hq2) (by decide) rfl rfl hl.1 rfl (Nat.le_of_ble_eq_true rfl) dX2_claimsOf_18 ⟨Nat.zero_le _, Nat.zero_le _⟩) hS (fun H locs hP hS => ?_)
        refine lv_if_lt (tgt := 27) hx hb dX2_claimsOf_21 (by decide) (fun c4 => ?_) (fun c4 => ?_)
        · have hf := zif_t c4 hf
          refine lv_iinc (v := (y3 + 1)) (lv' := [(3, .int (y3 + 1)), (0, .ref (G.2.1 (x0))), (1, .int x1), (2, .int y2)]) hx hb dX2_claimsOf_27 hl (k := 3) rfl rfl (by decide) rfl (fun ls hl => ?_)
          refine lv_goto (tgt := 4) hx hb dX2_claimsOf_30 (by decide) ?_
          exact ih y2 (y3 + 1) H locs ls hf hP hS (lv_sub hl [1, 2, 3, 0] rfl)
        · have hf := zif_f c4 hf
          refine lv_iinc (v := (y2 + 1)) (lv' := [(2, .int (y2 + 1)), (0, .ref (G.2.1 (x0))), (1, .int x1), (3, .int y3)]) hx hb dX2_claimsOf_24 hl (k := 2) rfl rfl (by decide) rfl (fun ls hl => ?_)
          refine lv_iinc (v := (y3 + 1)) (lv' := [(3, .int (y3 + 1)), (2, .int (y2 + 1)), (0, .ref (G.2.1 (x0))), (1, .int x1)]) hx hb dX2_claimsOf_27 hl (k := 3) rfl rfl (by decide) rfl (fun ls hl => ?_)
          refine lv_goto (tgt := 4) hx hb dX2_claimsOf_30 (by decide) ?_
          exact ih (y2 + 1) (y3 + 1) H locs ls hf hP hS (lv_sub hl [2, 3, 1, 0] rfl)
  unfold f_X2_claimsOf at hf
  refine lv_iconst (v := 0) hx hb dX2_claimsOf_0 (by decide) ?_
  refine lv_istore_n (lv' := [(2, .int 0), (0, .ref (G.2.1 (x0))), (1, .int x1)]) hx hb dX2_claimsOf_1 rfl hl (by decide) rfl (fun ls hl => ?_)
  refine lv_iconst (v := 0) hx hb dX2_claimsOf_2 (by decide) ?_
  refine lv_istore_n (lv' := [(3, .int 0), (2, .int 0), (0, .ref (G.2.1 (x0))), (1, .int x1)]) hx hb dX2_claimsOf_3 rfl hl (by decide) rfl (fun ls hl => ?_)
  exact L4 zFu 0 0 H locs ls hf hP hS (lv_sub hl [2, 3, 1, 0] rfl)
set_option maxRecDepth 100000 in
set_option maxHeartbeats 4000000 in
theorem c_X3_wishOf (l : Launch) (G : zGT) (hG : zOK G) (I J : zM) (x0 : Nat) (x1 : Int32) (hk0 : zK x0 = 3) {r : Int32} (hf : f_X3_wishOf I x0 x1 = some r) : Met l yX3_wishOf wsX3_wishOf (zrm 0 0) (va_Pc [.ref (G.2.1 (x0)), .int x1] (zS G I J)) (zQi G r I J) 0 0 (zA G) := by
  refine zMet (cc := cX3_wishOf) (n := 2) (ret := (some .int)) (by decide) rfl (Nat.le_of_ble_eq_true rfl) ?_
  intro p e s m args below meth c H locs ls F hK hP hS hl
  obtain ⟨hx, hb, hr, hml, hts, hown, hlocks⟩ := F
  have hown : s.vm.findClass RX3 = some m.cls := hown
  have hl : lv_has ls 2 [(0, .ref (G.2.1 (x0))), (1, .int x1)] := hl
  have hi3 : ∀ w ∈ wsX30, w ∈ wsX3_wishOf := fun _ h => List.mem_cons_of_mem _ (List.mem_append_right _ h)
  unfold f_X3_wishOf at hf
  refine lv_iload_n hx hb dX3_wishOf_0 rfl (lv_at hl 1 rfl) ?_
  refine lv_if_lt (tgt := 22) hx hb dX3_wishOf_1 (by decide) (fun c1 => ?_) (fun c1 => ?_)
  · have hf := zif_t c1 hf
    refine lv_iconst (v := 0) hx hb dX3_wishOf_22 (by decide) ?_
    obtain rfl := Option.some.inj hf
    exact x_iret hx hb hr hlocks hK hP hS dX3_wishOf_23
  · have hf := zif_f c1 hf
    refine lv_iload_n hx hb dX3_wishOf_4 rfl (lv_at hl 1 rfl) ?_
    refine lv_aload_n hx hb dX3_wishOf_5 rfl (lv_at hl 0 rfl) ?_
    refine x_get (j := 5) (v := .ref (G.2.1 (x0 + 1))) hx hb hts hi3 hown hK hP hk0 rfl (by decide) (hts (.fieldLink RX3 9 "LeaseOffice$Person" "wishes" "[I") (by decide +kernel)) rfl (by decide) dX3_wishOf_6 ?_
    refine x_alen 0 (v := 10) hx hb hK hP (zK_lt (zk_3_5 hk0) (by decide)) (zE_10 (zk_3_5 hk0) (zl_3_5 hk0)) rfl rfl dX3_wishOf_9 ?_
    refine lv_icmp_ge (tgt := 22) hx hb dX3_wishOf_10 (by decide) (fun c2 => ?_) (fun c2 => ?_)
    · have hf := zif_t c2 hf
      refine lv_iconst (v := 0) hx hb dX3_wishOf_22 (by decide) ?_
      obtain rfl := Option.some.inj hf
      exact x_iret hx hb hr hlocks hK hP hS dX3_wishOf_23
    · have hf := zif_f c2 hf
      refine lv_aload_n hx hb dX3_wishOf_13 rfl (lv_at hl 0 rfl) ?_
      refine x_get (j := 5) (v := .ref (G.2.1 (x0 + 1))) hx hb hts hi3 hown hK hP hk0 rfl (by decide) (hts (.fieldLink RX3 9 "LeaseOffice$Person" "wishes" "[I") (by decide +kernel)) rfl (by decide) dX3_wishOf_14 ?_
      refine lv_iload_n hx hb dX3_wishOf_17 rfl (lv_at hl 1 rfl) ?_
      obtain ⟨h3, hf⟩ := zck_e hf
      refine x_iald hx hb hK hP (zK_lt (zk_3_5 hk0) (by decide)) (zE_10 (zk_3_5 hk0) (zl_3_5 hk0)) (zin_e h3) dX3_wishOf_18 ?_
      refine lv_goto (tgt := 23) hx hb dX3_wishOf_19 (by decide) ?_
      obtain rfl := Option.some.inj hf
      exact x_iret hx hb hr hlocks hK hP hS dX3_wishOf_23
set_option maxRecDepth 100000 in
set_option maxHeartbeats 4000000 in
theorem c_X3_setWishOf (l : Launch) (G : zGT) (hG : zOK G) (I J : zM) (x0 : Nat) (x1 : Int32) (x2 : Int32) (hk0 : zK x0 = 3) {r : zM} (hf : f_X3_setWishOf I x0 x1 x2 = some r) : Met l yX3_setWishOf wsX3_setWishOf (zrm 0 0) (va_Pc [.ref (G.2.1 (x0)), .int x1, .int x2] (zS G I J)) (zQv G r J) 0 0 (zA G) := by
  refine zMet (cc := cX3_setWishOf) (n := 3) (ret := none) (by decide) rfl (Nat.le_of_ble_eq_true rfl) ?_
  intro p e s m args below meth c H locs ls F hK hP hS hl
  obtain ⟨hx, hb, hr, hml, hts, hown, hlocks⟩ := F
  have hown : s.vm.findClass RX3 = some m.cls := hown
  have hl : lv_has ls 3 [(0, .ref (G.2.1 (x0))), (1, .int x1), (2, .int x2)] := hl
  have hi3 : ∀ w ∈ wsX30, w ∈ wsX3_setWishOf := fun _ h => List.mem_cons_of_mem _ (List.mem_append_right _ h)
  unfold f_X3_setWishOf at hf
  refine lv_iload_n hx hb dX3_setWishOf_0 rfl (lv_at hl 1 rfl) ?_
  refine lv_if_lt (tgt := 20) hx hb dX3_setWishOf_1 (by decide) (fun c1 => ?_) (fun c1 => ?_)
  · have hf := zif_t c1 hf
    obtain rfl := Option.some.inj hf
    exact x_vret hx hb hr hlocks hK hP hS dX3_setWishOf_20
  · have hf := zif_f c1 hf
    refine lv_iload_n hx hb dX3_setWishOf_4 rfl (lv_at hl 1 rfl) ?_
    refine lv_aload_n hx hb dX3_setWishOf_5 rfl (lv_at hl 0 rfl) ?_
    refine x_get (j := 5) (v := .ref (G.2.1 (x0 + 1))) hx hb hts hi3 hown hK hP hk0 rfl (by decide) (hts (.fieldLink RX3 9 "LeaseOffice$Person" "wishes" "[I") (by decide +kernel)) rfl (by decide) dX3_setWishOf_6 ?_
    refine x_alen 0 (v := 10) hx hb hK hP (zK_lt (zk_3_5 hk0) (by decide)) (zE_10 (zk_3_5 hk0) (zl_3_5 hk0)) rfl rfl dX3_setWishOf_9 ?_
    refine lv_icmp_ge (tgt := 20) hx hb dX3_setWishOf_10 (by decide) (fun c2 => ?_) (fun c2 => ?_)
    · have hf := zif_t c2 hf
      obtain rfl := Option.some.inj hf
      exact x_vret hx hb hr hlocks hK hP hS dX3_setWishOf_20
    · have hf := zif_f c2 hf
      refine lv_aload_n hx hb dX3_setWishOf_13 rfl (lv_at hl 0 rfl) ?_
      refine x_get (j := 5) (v := .ref (G.2.1 (x0 + 1))) hx hb hts hi3 hown hK hP hk0 rfl (by decide) (hts (.fieldLink RX3 9 "LeaseOffice$Person" "wishes" "[I") (by decide +kernel)) rfl (by decide) dX3_setWishOf_14 ?_
      refine lv_iload_n hx hb dX3_setWishOf_17 rfl (lv_at hl 1 rfl) ?_
      refine lv_iload_n hx hb dX3_setWishOf_18 rfl (lv_at hl 2 rfl) ?_
      obtain ⟨h4, hf⟩ := zck_e hf
      obtain ⟨M3, eM3, hf⟩ := zlet_e hf
      refine x_iastC eM3 hx hb hG hK hP hS (zk_3_5 hk0) (zl_3_5 hk0) (zin_e h4) dX3_setWishOf_19 (fun H locs hP hS => ?_)
      obtain rfl := Option.some.inj hf
      exact x_vret hx hb hr hlocks hK hP hS dX3_setWishOf_20
set_option maxRecDepth 100000 in
set_option maxHeartbeats 4000000 in
theorem c_X3_copyFrom (l : Launch) (G : zGT) (hG : zOK G) (I J : zM) (x0 : Nat) (x1 : Nat) (hk0 : zK x0 = 3) (hk1 : zK x1 = 3) {r : zM} (hf : f_X3_copyFrom I x0 x1 = some r) : Met l yX3_copyFrom wsX3_copyFrom (zrm 1 22) (va_Pc [.ref (G.2.1 (x0)), .ref (G.2.1 (x1))] (zS G I J)) (zQv G r J) 0 0 (zA G) := by
  refine zMet (cc := cX3_copyFrom) (n := 3) (ret := none) (by decide) rfl (Nat.le_of_ble_eq_true rfl) ?_
  intro p e s m args below meth c H locs ls F hK hP hS hl
  obtain ⟨hx, hb, hr, hml, hts, hown, hlocks⟩ := F
  have hown : s.vm.findClass RX3 = some m.cls := hown
  have hl : lv_has ls 3 [(0, .ref (G.2.1 (x0))), (1, .ref (G.2.1 (x1)))] := hl
  have hi3 : ∀ w ∈ wsX30, w ∈ wsX3_copyFrom := fun _ h => List.mem_cons_of_mem _ (List.mem_append_right _ h)
  have L42 : ∀ (n : Nat) (M : zM) (y2 : Int32) (H : Heap) (locs : List Loc) (ls : Array Slot), f_X3_copyFrom_l42 x0 x1 n M y2 = some r → va_P G.1 vwCl (zW G M J) H → va_S (zA G) s.heap H locs → lv_has ls 3 [(0, .ref (G.2.1 (x0))), (1, .ref (G.2.1 (x1))), (2, .int y2)] → W p l e (zrm 1 22) s m args below meth c H locs 0 0 (MQ below (zQv G r J) args s 0 0 (zA G)) (F0 m 42 ls []) := by
    intro n
    induction n with
    | zero =>
      intro M y2 H locs ls hf
      rw [f_X3_copyFrom_l42] at hf
      cases hf
    | succ n ih =>
      intro M y2 H locs ls hf hP hS hl
      rw [f_X3_copyFrom_l42] at hf
      refine lv_iload_n hx hb dX3_copyFrom_42 rfl (lv_at hl 2 rfl) ?_
      refine lv_bipush (v := 10) hx hb dX3_copyFrom_43 (by decide) ?_
      refine lv_icmp_ge (tgt := 64) hx hb dX3_copyFrom_45 (by decide) (fun c6 => ?_) (fun c6 => ?_)
      · have hf := zif_t c6 hf
        obtain rfl := Option.some.inj hf
        exact x_vret hx hb hr hlocks hK hP hS dX3_copyFrom_64
      · have hf := zif_f c6 hf
        refine lv_aload_n hx hb dX3_copyFrom_48 rfl (lv_at hl 0 rfl) ?_
        refine lv_iload_n hx hb dX3_copyFrom_49 rfl (lv_at hl 2 rfl) ?_
        refine lv_aload_n hx hb dX3_copyFrom_50 rfl (lv_at hl 1 rfl) ?_
        refine lv_iload_n hx hb dX3_copyFrom_51 rfl (lv_at hl 2 rfl) ?_
        obtain ⟨q7, hq7, hf⟩ := zb_e hf
        refine x_calli (x_runV (As := [.int y2]) (rest := [.int y2, .ref (G.2.1 (x0))]) ⟨hx, hb, hml, hown, hts⟩ (c_X3_wishOf l G hG M J x1 y2 hk1 hq7) (cwV 1 hts gX3_copyFrom_X3_wishOf rfl rfl rfl (by decide +kernel) ⟨Nat.le_of_ble_eq_true rfl, Nat.le_of_ble_eq_true rfl⟩) hK hP hk1 (by decide) rfl rfl hl.1 rfl (Nat.le_of_ble_eq_true rfl) dX3_copyFrom_52 ⟨Nat.zero_le _, Nat.zero_le _⟩) hS (fun H locs hP hS => ?_)
        obtain ⟨q8, hq8, hf⟩ := zb_e hf
        refine x_callv (x_runV (As := [.int y2, .int q7]) (rest := []) ⟨hx, hb, hml, hown, hts⟩ (c_X3_setWishOf l G hG M J x0 y2 q7 hk0 hq8) (cwV 2 hts gX3_copyFrom_X3_setWishOf rfl rfl rfl (by decide +kernel) ⟨Nat.le_of_ble_eq_true rfl, Nat.le_of_ble_eq_true rfl⟩) hK hP hk0 (by decide) rfl rfl hl.1 rfl (Nat.le_of_ble_eq_true rfl) dX3_copyFrom_55 ⟨Nat.zero_le _, Nat.zero_le _⟩) hS (fun H locs hP hS => ?_)
        refine lv_iinc (v := (y2 + 1)) (lv' := [(2, .int (y2 + 1)), (0, .ref (G.2.1 (x0))), (1, .ref (G.2.1 (x1)))]) hx hb dX3_copyFrom_58 hl (k := 2) rfl rfl (by decide) rfl (fun ls hl => ?_)
        refine lv_goto (tgt := 42) hx hb dX3_copyFrom_61 (by decide) ?_
        exact ih q8 (y2 + 1) H locs ls hf hP hS (lv_sub hl [1, 2, 0] rfl)
  unfold f_X3_copyFrom at hf
  refine lv_aload_n hx hb dX3_copyFrom_0 rfl (lv_at hl 0 rfl) ?_
  refine lv_aload_n hx hb dX3_copyFrom_1 rfl (lv_at hl 1 rfl) ?_
  refine x_get (j := 0) (v := .int (I x1 0)) hx hb hts hi3 hown hK hP hk1 rfl (by decide) (hts (.fieldLink RX3 15 "LeaseOffice$Person" "name" "I") (by decide +kernel)) rfl (by decide) dX3_copyFrom_2 ?_
  obtain ⟨M1, eM1, hf⟩ := zlet_e hf
  refine x_put (j := 0) (I2 := M1) (J2 := J) (ty0 := tyX3) (ty := .int) hx hb hts hi3 hown hG hK hP hS hk0 rfl tyX3_ok nmX3 (by decide) (hts (.fieldLink RX3 15 "LeaseOffice$Person" "name" "I") (by decide +kernel)) rfl (by decide +kernel) rfl rfl (Nat.le_of_ble_eq_true rfl) (by rw [eM1]; exact zs_3_0 _) (by rw [eM1]; exact zo_C) (by decide) dX3_copyFrom_5 (fun H locs hP hS => ?_)
  refine lv_aload_n hx hb dX3_copyFrom_8 rfl (lv_at hl 0 rfl) ?_
  refine lv_aload_n hx hb dX3_copyFrom_9 rfl (lv_at hl 1 rfl) ?_
  refine x_get (j := 1) (v := .int (M1 x1 1)) hx hb hts hi3 hown hK hP hk1 rfl (by decide) (hts (.fieldLink RX3 19 "LeaseOffice$Person" "purse" "I") (by decide +kernel)) rfl (by decide) dX3_copyFrom_10 ?_
  obtain ⟨M2, eM2, hf⟩ := zlet_e hf
  refine x_put (j := 1) (I2 := M2) (J2 := J) (ty0 := tyX3) (ty := .int) hx hb hts hi3 hown hG hK hP hS hk0 rfl tyX3_ok nmX3 (by decide) (hts (.fieldLink RX3 19 "LeaseOffice$Person" "purse" "I") (by decide +kernel)) rfl (by decide +kernel) rfl rfl (Nat.le_of_ble_eq_true rfl) (by rw [eM2]; exact zs_3_1 _) (by rw [eM2]; exact zo_C) (by decide) dX3_copyFrom_13 (fun H locs hP hS => ?_)
  refine lv_aload_n hx hb dX3_copyFrom_16 rfl (lv_at hl 0 rfl) ?_
  refine lv_aload_n hx hb dX3_copyFrom_17 rfl (lv_at hl 1 rfl) ?_
  refine x_get (j := 2) (v := .int (M2 x1 2)) hx hb hts hi3 hown hK hP hk1 rfl (by decide) (hts (.fieldLink RX3 22 "LeaseOffice$Person" "trust" "I") (by decide +kernel)) rfl (by decide) dX3_copyFrom_18 ?_
  obtain ⟨M3, eM3, hf⟩ := zlet_e hf
  refine x_put (j := 2) (I2 := M3) (J2 := J) (ty0 := tyX3) (ty := .int) hx hb hts hi3 hown hG hK hP hS hk0 rfl tyX3_ok nmX3 (by decide) (hts (.fieldLink RX3 22 "LeaseOffice$Person" "trust" "I") (by decide +kernel)) rfl (by decide +kernel) rfl rfl (Nat.le_of_ble_eq_true rfl) (by rw [eM3]; exact zs_3_2 _) (by rw [eM3]; exact zo_C) (by decide) dX3_copyFrom_21 (fun H locs hP hS => ?_)
  refine lv_aload_n hx hb dX3_copyFrom_24 rfl (lv_at hl 0 rfl) ?_
  refine lv_aload_n hx hb dX3_copyFrom_25 rfl (lv_at hl 1 rfl) ?_
  refine x_get (j := 3) (v := .int (M3 x1 3)) hx hb hts hi3 hown hK hP hk1 rfl (by decide) (hts (.fieldLink RX3 25 "LeaseOffice$Person" "late" "I") (by decide +kernel)) rfl (by decide) dX3_copyFrom_26 ?_
  obtain ⟨M4, eM4, hf⟩ := zlet_e hf
  refine x_put (j := 3) (I2 := M4) (J2 := J) (ty0 := tyX3) (ty := .int) hx hb hts hi3 hown hG hK hP hS hk0 rfl tyX3_ok nmX3 (by decide) (hts (.fieldLink RX3 25 "LeaseOffice$Person" "late" "I") (by decide +kernel)) rfl (by decide +kernel) rfl rfl (Nat.le_of_ble_eq_true rfl) (by rw [eM4]; exact zs_3_3 _) (by rw [eM4]; exact zo_C) (by decide) dX3_copyFrom_29 (fun H locs hP hS => ?_)
  refine lv_aload_n hx hb dX3_copyFrom_32 rfl (lv_at hl 0 rfl) ?_
  refine lv_aload_n hx hb dX3_copyFrom_33 rfl (lv_at hl 1 rfl) ?_
  refine x_get (j := 4) (v := .int (M4 x1 4)) hx hb hts hi3 hown hK hP hk1 rfl (by decide) (hts (.fieldLink RX3 28 "LeaseOffice$Person" "debt" "I") (by decide +kernel)) rfl (by decide) dX3_copyFrom_34 ?_
  obtain ⟨M5, eM5, hf⟩ := zlet_e hf
  refine x_put (j := 4) (I2 := M5) (J2 := J) (ty0 := tyX3) (ty := .int) hx hb hts hi3 hown hG hK hP hS hk0 rfl tyX3_ok nmX3 (by decide) (hts (.fieldLink RX3 28 "LeaseOffice$Person" "debt" "I") (by decide +kernel)) rfl (by decide +kernel) rfl rfl (Nat.le_of_ble_eq_true rfl) (by rw [eM5]; exact zs_3_4 _) (by rw [eM5]; exact zo_C) (by decide) dX3_copyFrom_37 (fun H locs hP hS => ?_)
  refine lv_iconst (v := 0) hx hb dX3_copyFrom_40 (by decide) ?_
  refine lv_istore_n (lv' := [(2, .int 0), (0, .ref (G.2.1 (x0))), (1, .ref (G.2.1 (x1)))]) hx hb dX3_copyFrom_41 rfl hl (by decide) rfl (fun ls hl => ?_)
  exact L42 zFu M5 0 H locs ls hf hP hS (lv_sub hl [1, 2, 0] rfl)
set_option maxRecDepth 100000 in
set_option maxHeartbeats 4000000 in
theorem c_X4_copyFrom (l : Launch) (G : zGT) (hG : zOK G) (I J : zM) (x0 : Nat) (x1 : Nat) (hk0 : zK x0 = 4) (hk1 : zK x1 = 4) {r : zM} (hf : f_X4_copyFrom I x0 x1 = some r) : Met l yX4_copyFrom wsX4_copyFrom (zrm 1 24) (va_Pc [.ref (G.2.1 (x0)), .ref (G.2.1 (x1))] (zS G I J)) (zQv G r J) 0 0 (zA G) := by
  refine zMet (cc := cX4_copyFrom) (n := 4) (ret := none) (by decide) rfl (Nat.le_of_ble_eq_true rfl) ?_
  intro p e s m args below meth c H locs ls F hK hP hS hl
  obtain ⟨hx, hb, hr, hml, hts, hown, hlocks⟩ := F
  have hown : s.vm.findClass RX4 = some m.cls := hown
  have hl : lv_has ls 4 [(0, .ref (G.2.1 (x0))), (1, .ref (G.2.1 (x1)))] := hl
  have hi4 : ∀ w ∈ wsX40, w ∈ wsX4_copyFrom := fun _ h => List.mem_cons_of_mem _ (List.mem_append_right _ h)
  have L27 : ∀ (y2 : Int32) (K : zM → Option (zM)) (hKK : ∀ (M2 : zM) (H : Heap) (locs : List Loc) (ls : Array Slot), K M2 = some r → va_P G.1 vwCl (zW G M2 J) H → va_S (zA G) s.heap H locs → lv_has ls 4 [(0, .ref (G.2.1 (x0))), (1, .ref (G.2.1 (x1))), (2, .int y2)] → W p l e (zrm 1 24) s m args below meth c H locs 0 0 (MQ below (zQv G r J) args s 0 0 (zA G)) (F0 m 53 ls [])) (n : Nat) (M : zM) (y3 : Int32) (H : Heap) (locs : List Loc) (ls : Array Slot), f_X4_copyFrom_l27 x0 x1 y2 K n M y3 = some r → va_P G.1 vwCl (zW G M J) H → va_S (zA G) s.heap H locs → lv_has ls 4 [(0, .ref (G.2.1 (x0))), (1, .ref (G.2.1 (x1))), (2, .int y2), (3, .int y3)] → W p l e (zrm 1 24) s m args below meth c H locs 0 0 (MQ below (zQv G r J) args s 0 0 (zA G)) (F0 m 27 ls []) := by
    intro y2 K hKK n
    induction n with
    | zero =>
      intro M y3 H locs ls hf
      rw [f_X4_copyFrom_l27] at hf
      cases hf
    | succ n ih =>
      intro M y3 H locs ls hf hP hS hl
      rw [f_X4_copyFrom_l27] at hf
      refine lv_iload_n hx hb dX4_copyFrom_27 rfl (lv_at hl 3 rfl) ?_
      refine lv_aload_n hx hb dX4_copyFrom_28 rfl (lv_at hl 0 rfl) ?_
      refine x_get (j := 1) (v := .int (M x0 1)) hx hb hts hi4 hown hK hP hk0 rfl (by decide) (hts (.fieldLink RX4 13 "LeaseOffice$Table" "width" "I") (by decide +kernel)) rfl (by decide) dX4_copyFrom_29 ?_
      refine lv_icmp_ge (tgt := 53) hx hb dX4_copyFrom_32 (by decide) (fun c4 => ?_) (fun c4 => ?_)
      · have hf := zif_t c4 hf
        exact hKK M H locs ls hf hP hS (lv_sub hl [0, 1, 2] rfl)
      · have hf := zif_f c4 hf
        refine lv_aload_n hx hb dX4_copyFrom_35 rfl (lv_at hl 0 rfl) ?_
        refine lv_iload_n hx hb dX4_copyFrom_36 rfl (lv_at hl 2 rfl) ?_
        refine lv_iload_n hx hb dX4_copyFrom_37 rfl (lv_at hl 3 rfl) ?_
        refine lv_aload_n hx hb dX4_copyFrom_38 rfl (lv_at hl 1 rfl) ?_
        refine lv_iload_n hx hb dX4_copyFrom_39 rfl (lv_at hl 2 rfl) ?_
        refine lv_iload_n hx hb dX4_copyFrom_40 rfl (lv_at hl 3 rfl) ?_
        obtain ⟨q5, hq5, hf⟩ := zb_e hf
        refine x_calli (x_runV (As := [.int y2, .int y3]) (rest := [.int y3, .int y2, .ref (G.2.1 (x0))]) ⟨hx, hb, hml, hown, hts⟩ (c_X4_cell l G hG M J x1 y2 y3 hk1 hq5) (cwV 2 hts gX4_copyFrom_X4_cell rfl rfl rfl (by decide +kernel) ⟨Nat.le_of_ble_eq_true rfl, Nat.le_of_ble_eq_true rfl⟩) hK hP hk1 (by decide) rfl rfl hl.1 rfl (Nat.le_of_ble_eq_true rfl) dX4_copyFrom_41 ⟨Nat.zero_le _, Nat.zero_le _⟩) hS (fun H locs hP hS => ?_)
        obtain ⟨q6, hq6, hf⟩ := zb_e hf
        refine x_callv (x_runV (As := [.int y2, .int y3, .int q5]) (rest := []) ⟨hx, hb, hml, hown, hts⟩ (c_X4_setCell l G hG M J x0 y2 y3 q5 hk0 hq6) (cwV 3 hts gX4_copyFrom_X4_setCell rfl rfl rfl (by decide +kernel) ⟨Nat.le_of_ble_eq_true rfl, Nat.le_of_ble_eq_true rfl⟩) hK hP hk0 (by decide) rfl rfl hl.1 rfl (Nat.le_of_ble_eq_true rfl) dX4_copyFrom_44 ⟨Nat.zero_le _, Nat.zero_le _⟩) hS (fun H locs hP hS => ?_)
        refine lv_iinc (v := (y3 + 1)) (lv' := [(3, .int (y3 + 1)), (0, .ref (G.2.1 (x0))), (1, .ref (G.2.1 (x1))), (2, .int y2)]) hx hb dX4_copyFrom_47 hl (k := 3) rfl rfl (by decide) rfl (fun ls hl => ?_)
        refine lv_goto (tgt := 27) hx hb dX4_copyFrom_50 (by decide) ?_
        exact ih q6 (y3 + 1) H locs ls hf hP hS (lv_sub hl [1, 2, 3, 0] rfl)
  have L17 : ∀ (n : Nat) (M : zM) (y2 : Int32) (H : Heap) (locs : List Loc) (ls : Array Slot), f_X4_copyFrom_l17 x0 x1 n M y2 = some r → va_P G.1 vwCl (zW G M J) H → va_S (zA G) s.heap H locs → lv_has ls 4 [(0, .ref (G.2.1 (x0))), (1, .ref (G.2.1 (x1))), (2, .int y2)] → W p l e (zrm 1 24) s m args below meth c H locs 0 0 (MQ below (zQv G r J) args s 0 0 (zA G)) (F0 m 17 ls []) := by
    intro n
    induction n with
    | zero =>
      intro M y2 H locs ls hf
      rw [f_X4_copyFrom_l17] at hf
      cases hf
    | succ n ih =>
      intro M y2 H locs ls hf hP hS hl
      rw [f_X4_copyFrom_l17] at hf
      refine lv_iload_n hx hb dX4_copyFrom_17 rfl (lv_at hl 2 rfl) ?_
      refine lv_aload_n hx hb dX4_copyFrom_18 rfl (lv_at hl 0 rfl) ?_
      refine x_get (j := 3) (v := .int (M x0 3)) hx hb hts hi4 hown hK hP hk0 rfl (by decide) (hts (.fieldLink RX4 26 "LeaseOffice$Table" "size" "I") (by decide +kernel)) rfl (by decide) dX4_copyFrom_19 ?_
      refine lv_icmp_ge (tgt := 59) hx hb dX4_copyFrom_22 (by decide) (fun c3 => ?_) (fun c3 => ?_)
      · have hf := zif_t c3 hf
        obtain rfl := Option.some.inj hf
        exact x_vret hx hb hr hlocks hK hP hS dX4_copyFrom_59
      · have hf := zif_f c3 hf
        refine lv_iconst (v := 0) hx hb dX4_copyFrom_25 (by decide) ?_
        refine lv_istore_n (lv' := [(3, .int 0), (0, .ref (G.2.1 (x0))), (1, .ref (G.2.1 (x1))), (2, .int y2)]) hx hb dX4_copyFrom_26 rfl hl (by decide) rfl (fun ls hl => ?_)
        refine L27 y2 _ (fun M7 H locs ls hf hP hS hl => ?_) zFu M 0 H locs ls hf hP hS (lv_sub hl [1, 2, 3, 0] rfl)
        refine lv_iinc (v := (y2 + 1)) (lv' := [(2, .int (y2 + 1)), (0, .ref (G.2.1 (x0))), (1, .ref (G.2.1 (x1)))]) hx hb dX4_copyFrom_53 hl (k := 2) rfl rfl (by decide) rfl (fun ls hl => ?_)
        refine lv_goto (tgt := 17) hx hb dX4_copyFrom_56 (by decide) ?_
        exact ih M7 (y2 + 1) H locs ls hf hP hS (lv_sub hl [1, 2, 0] rfl)
  unfold f_X4_copyFrom at hf
  refine lv_aload_n hx hb dX4_copyFrom_0 rfl (lv_at hl 0 rfl) ?_
  refine lv_aload_n hx hb dX4_copyFrom_1 rfl (lv_at hl 1 rfl) ?_
  refine x_get (j := 3) (v := .int (I x1 3)) hx hb hts hi4 hown hK hP hk1 rfl (by decide) (hts (.fieldLink RX4 26 "LeaseOffice$Table" "size" "I") (by decide +kernel)) rfl (by decide) dX4_copyFrom_2 ?_
  refine lv_aload_n hx hb dX4_copyFrom_5 rfl (lv_at hl 0 rfl) ?_
  refine x_get (j := 0) (v := .int (I x0 0)) hx hb hts hi4 hown hK hP hk0 rfl (by decide) (hts (.fieldLink RX4 7 "LeaseOffice$Table" "rows" "I") (by decide +kernel)) rfl (by decide) dX4_copyFrom_6 ?_
  obtain ⟨w1, ew1, hf⟩ := zlet_e hf
  refine va_mmin hx hb (hml.trans hl.1.symm) hown (hts (.methodLink RX4 33 Lib.Math.min.name) (by decide +kernel)) (hts (.static Lib.Math.min.name) (by decide +kernel)) (hts (.initialized "java/lang/Math") (by decide +kernel)) (hts (.code Lib.Math.min.name Lib.Math.min.code 2 (some .int)) (by decide +kernel)) (Nat.le_of_ble_eq_true rfl) (Nat.le_of_ble_eq_true rfl) (Nat.zero_le _) (Nat.zero_le _) dX4_copyFrom_9 ?_
  refine z_topi ew1 ?_
  obtain ⟨M2, eM2, hf⟩ := zlet_e hf
  refine x_put (j := 3) (I2 := M2) (J2 := J) (ty0 := tyX4) (ty := .int) hx hb hts hi4 hown hG hK hP hS hk0 rfl tyX4_ok nmX4 (by decide) (hts (.fieldLink RX4 26 "LeaseOffice$Table" "size" "I") (by decide +kernel)) rfl (by decide +kernel) rfl rfl (Nat.le_of_ble_eq_true rfl) (by rw [eM2]; exact zs_4_3 _) (by rw [eM2]; exact zo_C) (by decide) dX4_copyFrom_12 (fun H locs hP hS => ?_)
  refine lv_iconst (v := 0) hx hb dX4_copyFrom_15 (by decide) ?_
  refine lv_istore_n (lv' := [(2, .int 0), (0, .ref (G.2.1 (x0))), (1, .ref (G.2.1 (x1)))]) hx hb dX4_copyFrom_16 rfl hl (by decide) rfl (fun ls hl => ?_)
  exact L17 zFu M2 0 H locs ls hf hP hS (lv_sub hl [1, 2, 0] rfl)
set_option maxRecDepth 100000 in
set_option maxHeartbeats 4000000 in
theorem c_X7_copyFrom (l : Launch) (G : zGT) (hG : zOK G) (I J : zM) (x0 : Nat) (x1 : Nat) (hk0 : zK x0 = 7) (hk1 : zK x1 = 7) {r : zM} (hf : f_X7_copyFrom I x0 x1 = some r) : Met l yX7_copyFrom wsX7_copyFrom (zrm 2 47) (va_Pc [.ref (G.2.1 (x0)), .ref (G.2.1 (x1))] (zS G I J)) (zQv G r J) 0 0 (zA G) := by
  refine zMet (cc := cX7_copyFrom) (n := 2) (ret := none) (by decide) rfl (Nat.le_of_ble_eq_true rfl) ?_
  intro p e s m args below meth c H locs ls F hK hP hS hl
  obtain ⟨hx, hb, hr, hml, hts, hown, hlocks⟩ := F
  have hown : s.vm.findClass RX7 = some m.cls := hown
  have hl : lv_has ls 2 [(0, .ref (G.2.1 (x0))), (1, .ref (G.2.1 (x1)))] := hl
  have hi7 : ∀ w ∈ wsX70, w ∈ wsX7_copyFrom := fun _ h => List.mem_cons_of_mem _ (List.mem_append_left _ (List.mem_append_right _ h))
  unfold f_X7_copyFrom at hf
  refine lv_aload_n hx hb dX7_copyFrom_0 rfl (lv_at hl 0 rfl) ?_
  refine lv_aload_n hx hb dX7_copyFrom_1 rfl (lv_at hl 1 rfl) ?_
  refine x_get (j := 0) (v := .int (I x1 0)) hx hb hts hi7 hown hK hP hk1 rfl (by decide) (hts (.fieldLink RX7 26 "LeaseOffice$Tool" "worth" "I") (by decide +kernel)) rfl (by decide) dX7_copyFrom_2 ?_
  obtain ⟨M1, eM1, hf⟩ := zlet_e hf
  refine x_put (j := 0) (I2 := M1) (J2 := J) (ty0 := tyX7) (ty := .int) hx hb hts hi7 hown hG hK hP hS hk0 rfl tyX7_ok nmX7 (by decide) (hts (.fieldLink RX7 26 "LeaseOffice$Tool" "worth" "I") (by decide +kernel)) rfl (by decide +kernel) rfl rfl (Nat.le_of_ble_eq_true rfl) (by rw [eM1]; exact zs_7_0 _) (by rw [eM1]; exact zo_C) (by decide) dX7_copyFrom_5 (fun H locs hP hS => ?_)
  refine lv_aload_n hx hb dX7_copyFrom_8 rfl (lv_at hl 0 rfl) ?_
  refine lv_aload_n hx hb dX7_copyFrom_9 rfl (lv_at hl 1 rfl) ?_
  refine x_get (j := 1) (v := .int (M1 x1 1)) hx hb hts hi7 hown hK hP hk1 rfl (by decide) (hts (.fieldLink RX7 30 "LeaseOffice$Tool" "wear" "I") (by decide +kernel)) rfl (by decide) dX7_copyFrom_10 ?_
  obtain ⟨M2, eM2, hf⟩ := zlet_e hf
  refine x_put (j := 1) (I2 := M2) (J2 := J) (ty0 := tyX7) (ty := .int) hx hb hts hi7 hown hG hK hP hS hk0 rfl tyX7_ok nmX7 (by decide) (hts (.fieldLink RX7 30 "LeaseOffice$Tool" "wear" "I") (by decide +kernel)) rfl (by decide +kernel) rfl rfl (Nat.le_of_ble_eq_true rfl) (by rw [eM2]; exact zs_7_1 _) (by rw [eM2]; exact zo_C) (by decide) dX7_copyFrom_13 (fun H locs hP hS => ?_)
  refine lv_aload_n hx hb dX7_copyFrom_16 rfl (lv_at hl 0 rfl) ?_
  refine lv_aload_n hx hb dX7_copyFrom_17 rfl (lv_at hl 1 rfl) ?_
  refine x_get (j := 2) (v := .int (M2 x1 2)) hx hb hts hi7 hown hK hP hk1 rfl (by decide) (hts (.fieldLink RX7 46 "LeaseOffice$Tool" "holder" "I") (by decide +kernel)) rfl (by decide) dX7_copyFrom_18 ?_
  obtain ⟨M3, eM3, hf⟩ := zlet_e hf
  refine x_put (j := 2) (I2 := M3) (J2 := J) (ty0 := tyX7) (ty := .int) hx hb hts hi7 hown hG hK hP hS hk0 rfl tyX7_ok nmX7 (by decide) (hts (.fieldLink RX7 46 "LeaseOffice$Tool" "holder" "I") (by decide +kernel)) rfl (by decide +kernel) rfl rfl (Nat.le_of_ble_eq_true rfl) (by rw [eM3]; exact zs_7_2 _) (by rw [eM3]; exact zo_C) (by decide) dX7_copyFrom_21 (fun H locs hP hS => ?_)
  refine lv_aload_n hx hb dX7_copyFrom_24 rfl (lv_at hl 0 rfl) ?_
  refine lv_aload_n hx hb dX7_copyFrom_25 rfl (lv_at hl 1 rfl) ?_
  refine x_get (j := 3) (v := .int (M3 x1 3)) hx hb hts hi7 hown hK hP hk1 rfl (by decide) (hts (.fieldLink RX7 49 "LeaseOffice$Tool" "since" "I") (by decide +kernel)) rfl (by decide) dX7_copyFrom_26 ?_
  obtain ⟨M4, eM4, hf⟩ := zlet_e hf
  refine x_put (j := 3) (I2 := M4) (J2 := J) (ty0 := tyX7) (ty := .int) hx hb hts hi7 hown hG hK hP hS hk0 rfl tyX7_ok nmX7 (by decide) (hts (.fieldLink RX7 49 "LeaseOffice$Tool" "since" "I") (by decide +kernel)) rfl (by decide +kernel) rfl rfl (Nat.le_of_ble_eq_true rfl) (by rw [eM4]; exact zs_7_3 _) (by rw [eM4]; exact zo_C) (by decide) dX7_copyFrom_29 (fun H locs hP hS => ?_)
  refine lv_aload_n hx hb dX7_copyFrom_32 rfl (lv_at hl 0 rfl) ?_
  refine lv_aload_n hx hb dX7_copyFrom_33 rfl (lv_at hl 1 rfl) ?_
  refine x_get (j := 4) (v := .int (M4 x1 4)) hx hb hts hi7 hown hK hP hk1 rfl (by decide) (hts (.fieldLink RX7 52 "LeaseOffice$Tool" "due" "I") (by decide +kernel)) rfl (by decide) dX7_copyFrom_34 ?_
  obtain ⟨M5, eM5, hf⟩ := zlet_e hf
  refine x_put (j := 4) (I2 := M5) (J2 := J) (ty0 := tyX7) (ty := .int) hx hb hts hi7 hown hG hK hP hS hk0 rfl tyX7_ok nmX7 (by decide) (hts (.fieldLink RX7 52 "LeaseOffice$Tool" "due" "I") (by decide +kernel)) rfl (by decide +kernel) rfl rfl (Nat.le_of_ble_eq_true rfl) (by rw [eM5]; exact zs_7_4 _) (by rw [eM5]; exact zo_C) (by decide) dX7_copyFrom_37 (fun H locs hP hS => ?_)
  refine lv_aload_n hx hb dX7_copyFrom_40 rfl (lv_at hl 0 rfl) ?_
  refine lv_aload_n hx hb dX7_copyFrom_41 rfl (lv_at hl 1 rfl) ?_
  refine x_get (j := 5) (v := .int (M5 x1 5)) hx hb hts hi7 hown hK hP hk1 rfl (by decide) (hts (.fieldLink RX7 55 "LeaseOffice$Tool" "deposit" "I") (by decide +kernel)) rfl (by decide) dX7_copyFrom_42 ?_
  obtain ⟨M6, eM6, hf⟩ := zlet_e hf
  refine x_put (j := 5) (I2 := M6) (J2 := J) (ty0 := tyX7) (ty := .int) hx hb hts hi7 hown hG hK hP hS hk0 rfl tyX7_ok nmX7 (by decide) (hts (.fieldLink RX7 55 "LeaseOffice$Tool" "deposit" "I") (by decide +kernel)) rfl (by decide +kernel) rfl rfl (Nat.le_of_ble_eq_true rfl) (by rw [eM6]; exact zs_7_5 _) (by rw [eM6]; exact zo_C) (by decide) dX7_copyFrom_45 (fun H locs hP hS => ?_)
  refine lv_aload_n hx hb dX7_copyFrom_48 rfl (lv_at hl 0 rfl) ?_
  refine lv_aload_n hx hb dX7_copyFrom_49 rfl (lv_at hl 1 rfl) ?_
  refine x_get (j := 6) (v := .int (M6 x1 6)) hx hb hts hi7 hown hK hP hk1 rfl (by decide) (hts (.fieldLink RX7 33 "LeaseOffice$Tool" "linksEver" "I") (by decide +kernel)) rfl (by decide) dX7_copyFrom_50 ?_
  obtain ⟨M7, eM7, hf⟩ := zlet_e hf
  refine x_put (j := 6) (I2 := M7) (J2 := J) (ty0 := tyX7) (ty := .int) hx hb hts hi7 hown hG hK hP hS hk0 rfl tyX7_ok nmX7 (by decide) (hts (.fieldLink RX7 33 "LeaseOffice$Tool" "linksEver" "I") (by decide +kernel)) rfl (by decide +kernel) rfl rfl (Nat.le_of_ble_eq_true rfl) (by rw [eM7]; exact zs_7_6 _) (by rw [eM7]; exact zo_C) (by decide) dX7_copyFrom_53 (fun H locs hP hS => ?_)
  refine lv_aload_n hx hb dX7_copyFrom_56 rfl (lv_at hl 0 rfl) ?_
  refine x_get (j := 7) (v := .ref (G.2.1 (x0 + 1))) hx hb hts hi7 hown hK hP hk0 rfl (by decide) (hts (.fieldLink RX7 14 "LeaseOffice$Tool" "links" "LLeaseOffice$Table;") (by decide +kernel)) rfl (by decide) dX7_copyFrom_57 ?_
  refine lv_aload_n hx hb dX7_copyFrom_60 rfl (lv_at hl 1 rfl) ?_
  refine x_get (j := 7) (v := .ref (G.2.1 (x1 + 1))) hx hb hts hi7 hown hK hP hk1 rfl (by decide) (hts (.fieldLink RX7 14 "LeaseOffice$Tool" "links" "LLeaseOffice$Table;") (by decide +kernel)) rfl (by decide) dX7_copyFrom_61 ?_
  obtain ⟨q8, hq8, hf⟩ := zb_e hf
  refine x_callv (x_runV (As := [.ref (G.2.1 (x1 + 1))]) (rest := []) ⟨hx, hb, hml, hown, hts⟩ (c_X4_copyFrom l G hG M7 J (x0 + 1) (x1 + 1) (zk_7_7 hk0) (zk_7_7 hk1) hq8) (cwV 1 hts gX7_copyFrom_X4_copyFrom rfl rfl rfl (by decide +kernel) ⟨Nat.le_of_ble_eq_true rfl, Nat.le_of_ble_eq_true rfl⟩) hK hP (zk_7_7 hk0) (by decide) rfl rfl hl.1 rfl (Nat.le_of_ble_eq_true rfl) dX7_copyFrom_64 ⟨Nat.zero_le _, Nat.zero_le _⟩) hS (fun H locs hP hS => ?_)
  refine lv_aload_n hx hb dX7_copyFrom_67 rfl (lv_at hl 0 rfl) ?_
  refine x_get (j := 8) (v := .ref (G.2.1 (x0 + 3))) hx hb hts hi7 hown hK hP hk0 rfl (by decide) (hts (.fieldLink RX7 20 "LeaseOffice$Tool" "looks" "LLeaseOffice$Table;") (by decide +kernel)) rfl (by decide) dX7_copyFrom_68 ?_
  refine lv_aload_n hx hb dX7_copyFrom_71 rfl (lv_at hl 1 rfl) ?_
  refine x_get (j := 8) (v := .ref (G.2.1 (x1 + 3))) hx hb hts hi7 hown hK hP hk1 rfl (by decide) (hts (.fieldLink RX7 20 "LeaseOffice$Tool" "looks" "LLeaseOffice$Table;") (by decide +kernel)) rfl (by decide) dX7_copyFrom_72 ?_
  obtain ⟨q9, hq9, hf⟩ := zb_e hf
  refine x_callv (x_runV (As := [.ref (G.2.1 (x1 + 3))]) (rest := []) ⟨hx, hb, hml, hown, hts⟩ (c_X4_copyFrom l G hG q8 J (x0 + 3) (x1 + 3) (zk_7_8 hk0) (zk_7_8 hk1) hq9) (cwV 1 hts gX7_copyFrom_X4_copyFrom rfl rfl rfl (by decide +kernel) ⟨Nat.le_of_ble_eq_true rfl, Nat.le_of_ble_eq_true rfl⟩) hK hP (zk_7_8 hk0) (by decide) rfl rfl hl.1 rfl (Nat.le_of_ble_eq_true rfl) dX7_copyFrom_75 ⟨Nat.zero_le _, Nat.zero_le _⟩) hS (fun H locs hP hS => ?_)
  refine lv_aload_n hx hb dX7_copyFrom_78 rfl (lv_at hl 0 rfl) ?_
  refine x_get (j := 9) (v := .ref (G.2.1 (x0 + 5))) hx hb hts hi7 hown hK hP hk0 rfl (by decide) (hts (.fieldLink RX7 23 "LeaseOffice$Tool" "claims" "LLeaseOffice$Table;") (by decide +kernel)) rfl (by decide) dX7_copyFrom_79 ?_
  refine lv_aload_n hx hb dX7_copyFrom_82 rfl (lv_at hl 1 rfl) ?_
  refine x_get (j := 9) (v := .ref (G.2.1 (x1 + 5))) hx hb hts hi7 hown hK hP hk1 rfl (by decide) (hts (.fieldLink RX7 23 "LeaseOffice$Tool" "claims" "LLeaseOffice$Table;") (by decide +kernel)) rfl (by decide) dX7_copyFrom_83 ?_
  obtain ⟨q10, hq10, hf⟩ := zb_e hf
  refine x_callv (x_runV (As := [.ref (G.2.1 (x1 + 5))]) (rest := []) ⟨hx, hb, hml, hown, hts⟩ (c_X4_copyFrom l G hG q9 J (x0 + 5) (x1 + 5) (zk_7_9 hk0) (zk_7_9 hk1) hq10) (cwV 1 hts gX7_copyFrom_X4_copyFrom rfl rfl rfl (by decide +kernel) ⟨Nat.le_of_ble_eq_true rfl, Nat.le_of_ble_eq_true rfl⟩) hK hP (zk_7_9 hk0) (by decide) rfl rfl hl.1 rfl (Nat.le_of_ble_eq_true rfl) dX7_copyFrom_86 ⟨Nat.zero_le _, Nat.zero_le _⟩) hS (fun H locs hP hS => ?_)
  obtain rfl := Option.some.inj hf
  exact x_vret hx hb hr hlocks hK hP hS dX7_copyFrom_89
set_option maxRecDepth 100000 in
set_option maxHeartbeats 4000000 in
theorem c_X2_copyFrom (l : Launch) (G : zGT) (hG : zOK G) (I J : zM) (x0 : Nat) (x1 : Nat) (hk0 : zK x0 = 2) (hk1 : zK x1 = 2) {r : zM} (hf : f_X2_copyFrom I x0 x1 = some r) : Met l yX2_copyFrom wsX2_copyFrom (zrm 3 68) (va_Pc [.ref (G.2.1 (x0)), .ref (G.2.1 (x1))] (zS G I J)) (zQv G r J) 0 0 (zA G) := by
  refine zMet (cc := cX2_copyFrom) (n := 3) (ret := none) (by decide) rfl (Nat.le_of_ble_eq_true rfl) ?_
  intro p e s m args below meth c H locs ls F hK hP hS hl
  obtain ⟨hx, hb, hr, hml, hts, hown, hlocks⟩ := F
  have hown : s.vm.findClass RX2 = some m.cls := hown
  have hl : lv_has ls 3 [(0, .ref (G.2.1 (x0))), (1, .ref (G.2.1 (x1)))] := hl
  have hi2 : ∀ w ∈ wsX20, w ∈ wsX2_copyFrom := fun _ h => List.mem_cons_of_mem _ (List.mem_append_left _ (List.mem_append_left _ (List.mem_append_left _ (List.mem_append_right _ h))))
  have L50 : ∀ (K : zM → Option (zM)) (hKK : ∀ (M2 : zM) (H : Heap) (locs : List Loc) (ls : Array Slot), K M2 = some r → va_P G.1 vwCl (zW G M2 J) H → va_S (zA G) s.heap H locs → lv_has ls 3 [(0, .ref (G.2.1 (x0))), (1, .ref (G.2.1 (x1)))] → W p l e (zrm 3 68) s m args below meth c H locs 0 0 (MQ below (zQv G r J) args s 0 0 (zA G)) (F0 m 77 ls [])) (n : Nat) (M : zM) (y2 : Int32) (H : Heap) (locs : List Loc) (ls : Array Slot), f_X2_copyFrom_l50 x0 x1 K n M y2 = some r → va_P G.1 vwCl (zW G M J) H → va_S (zA G) s.heap H locs → lv_has ls 3 [(0, .ref (G.2.1 (x0))), (1, .ref (G.2.1 (x1))), (2, .int y2)] → W p l e (zrm 3 68) s m args below meth c H locs 0 0 (MQ below (zQv G r J) args s 0 0 (zA G)) (F0 m 50 ls []) := by
    intro K hKK n
    induction n with
    | zero =>
      intro M y2 H locs ls hf
      rw [f_X2_copyFrom_l50] at hf
      cases hf
    | succ n ih =>
      intro M y2 H locs ls hf hP hS hl
      rw [f_X2_copyFrom_l50] at hf
      refine lv_iload_n hx hb dX2_copyFrom_50 rfl (lv_at hl 2 rfl) ?_
      refine lv_aload_n hx hb dX2_copyFrom_51 rfl (lv_at hl 0 rfl) ?_
      refine x_get (j := 5) (v := .int (M x0 5)) hx hb hts hi2 hown hK hP hk0 rfl (by decide) (hts (.fieldLink RX2 40 "LeaseOffice$Office" "personCount" "I") (by decide +kernel)) rfl (by decide) dX2_copyFrom_52 ?_
      refine lv_icmp_ge (tgt := 77) hx hb dX2_copyFrom_55 (by decide) (fun c7 => ?_) (fun c7 => ?_)
      · have hf := zif_t c7 hf
        exact hKK M H locs ls hf hP hS (lv_sub hl [0, 1] rfl)
      · have hf := zif_f c7 hf
        refine lv_aload_n hx hb dX2_copyFrom_58 rfl (lv_at hl 0 rfl) ?_
        refine lv_iload_n hx hb dX2_copyFrom_59 rfl (lv_at hl 2 rfl) ?_
        obtain ⟨q8, hq8, hf⟩ := zb_e hf
        refine x_callr (x_runV (As := [.int y2]) (rest := []) ⟨hx, hb, hml, hown, hts⟩ (c_X2_personAt l G hG M J x0 y2 hk0 hq8) (cwV 1 hts gX2_copyFrom_X2_personAt rfl rfl rfl (by decide +kernel) ⟨Nat.le_of_ble_eq_true rfl, Nat.le_of_ble_eq_true rfl⟩) hK hP hk0 (by decide) rfl rfl hl.1 rfl (Nat.le_of_ble_eq_true rfl) dX2_copyFrom_60 ⟨Nat.zero_le _, Nat.zero_le _⟩) hS (fun H locs hP hS => ?_)
        refine lv_aload_n hx hb dX2_copyFrom_63 rfl (lv_at hl 1 rfl) ?_
        refine lv_iload_n hx hb dX2_copyFrom_64 rfl (lv_at hl 2 rfl) ?_
        obtain ⟨q9, hq9, hf⟩ := zb_e hf
        refine x_callr (x_runV (As := [.int y2]) (rest := [.ref (G.2.1 (q8))]) ⟨hx, hb, hml, hown, hts⟩ (c_X2_personAt l G hG M J x1 y2 hk1 hq9) (cwV 1 hts gX2_copyFrom_X2_personAt rfl rfl rfl (by decide +kernel) ⟨Nat.le_of_ble_eq_true rfl, Nat.le_of_ble_eq_true rfl⟩) hK hP hk1 (by decide) rfl rfl hl.1 rfl (Nat.le_of_ble_eq_true rfl) dX2_copyFrom_65 ⟨Nat.zero_le _, Nat.zero_le _⟩) hS (fun H locs hP hS => ?_)
        obtain ⟨q10, hq10, hf⟩ := zb_e hf
        refine x_callv (x_runV (As := [.ref (G.2.1 (q9))]) (rest := []) ⟨hx, hb, hml, hown, hts⟩ (c_X3_copyFrom l G hG M J q8 q9 (kd_X2_personAt hk0 hq8) (kd_X2_personAt hk1 hq9) hq10) (cwV 1 hts gX2_copyFrom_X3_copyFrom rfl rfl rfl (by decide +kernel) ⟨Nat.le_of_ble_eq_true rfl, Nat.le_of_ble_eq_true rfl⟩) hK hP (kd_X2_personAt hk0 hq8) (by decide) rfl rfl hl.1 rfl (Nat.le_of_ble_eq_true rfl) dX2_copyFrom_68 ⟨Nat.zero_le _, Nat.zero_le _⟩) hS (fun H locs hP hS => ?_)
        refine lv_iinc (v := (y2 + 1)) (lv' := [(2, .int (y2 + 1)), (0, .ref (G.2.1 (x0))), (1, .ref (G.2.1 (x1)))]) hx hb dX2_copyFrom_71 hl (k := 2) rfl rfl (by decide) rfl (fun ls hl => ?_)
        refine lv_goto (tgt := 50) hx hb dX2_copyFrom_74 (by decide) ?_
        exact ih q10 (y2 + 1) H locs ls hf hP hS (lv_sub hl [1, 2, 0] rfl)
  have L79 : ∀ (n : Nat) (M : zM) (y2 : Int32) (H : Heap) (locs : List Loc) (ls : Array Slot), f_X2_copyFrom_l79 x0 x1 n M y2 = some r → va_P G.1 vwCl (zW G M J) H → va_S (zA G) s.heap H locs → lv_has ls 3 [(0, .ref (G.2.1 (x0))), (1, .ref (G.2.1 (x1))), (2, .int y2)] → W p l e (zrm 3 68) s m args below meth c H locs 0 0 (MQ below (zQv G r J) args s 0 0 (zA G)) (F0 m 79 ls []) := by
    intro n
    induction n with
    | zero =>
      intro M y2 H locs ls hf
      rw [f_X2_copyFrom_l79] at hf
      cases hf
    | succ n ih =>
      intro M y2 H locs ls hf hP hS hl
      rw [f_X2_copyFrom_l79] at hf
      refine lv_iload_n hx hb dX2_copyFrom_79 rfl (lv_at hl 2 rfl) ?_
      refine lv_aload_n hx hb dX2_copyFrom_80 rfl (lv_at hl 0 rfl) ?_
      refine x_get (j := 6) (v := .int (M x0 6)) hx hb hts hi2 hown hK hP hk0 rfl (by decide) (hts (.fieldLink RX2 44 "LeaseOffice$Office" "toolCount" "I") (by decide +kernel)) rfl (by decide) dX2_copyFrom_81 ?_
      refine lv_icmp_ge (tgt := 106) hx hb dX2_copyFrom_84 (by decide) (fun c12 => ?_) (fun c12 => ?_)
      · have hf := zif_t c12 hf
        obtain rfl := Option.some.inj hf
        exact x_vret hx hb hr hlocks hK hP hS dX2_copyFrom_106
      · have hf := zif_f c12 hf
        refine lv_aload_n hx hb dX2_copyFrom_87 rfl (lv_at hl 0 rfl) ?_
        refine lv_iload_n hx hb dX2_copyFrom_88 rfl (lv_at hl 2 rfl) ?_
        obtain ⟨q13, hq13, hf⟩ := zb_e hf
        refine x_callr (x_runV (As := [.int y2]) (rest := []) ⟨hx, hb, hml, hown, hts⟩ (c_X2_toolAt l G hG M J x0 y2 hk0 hq13) (cwV 1 hts gX2_copyFrom_X2_toolAt rfl rfl rfl (by decide +kernel) ⟨Nat.le_of_ble_eq_true rfl, Nat.le_of_ble_eq_true rfl⟩) hK hP hk0 (by decide) rfl rfl hl.1 rfl (Nat.le_of_ble_eq_true rfl) dX2_copyFrom_89 ⟨Nat.zero_le _, Nat.zero_le _⟩) hS (fun H locs hP hS => ?_)
        refine lv_aload_n hx hb dX2_copyFrom_92 rfl (lv_at hl 1 rfl) ?_
        refine lv_iload_n hx hb dX2_copyFrom_93 rfl (lv_at hl 2 rfl) ?_
        obtain ⟨q14, hq14, hf⟩ := zb_e hf
        refine x_callr (x_runV (As := [.int y2]) (rest := [.ref (G.2.1 (q13))]) ⟨hx, hb, hml, hown, hts⟩ (c_X2_toolAt l G hG M J x1 y2 hk1 hq14) (cwV 1 hts gX2_copyFrom_X2_toolAt rfl rfl rfl (by decide +kernel) ⟨Nat.le_of_ble_eq_true rfl, Nat.le_of_ble_eq_true rfl⟩) hK hP hk1 (by decide) rfl rfl hl.1 rfl (Nat.le_of_ble_eq_true rfl) dX2_copyFrom_94 ⟨Nat.zero_le _, Nat.zero_le _⟩) hS (fun H locs hP hS => ?_)
        obtain ⟨q15, hq15, hf⟩ := zb_e hf
        refine x_callv (x_runV (As := [.ref (G.2.1 (q14))]) (rest := []) ⟨hx, hb, hml, hown, hts⟩ (c_X7_copyFrom l G hG M J q13 q14 (kd_X2_toolAt hk0 hq13) (kd_X2_toolAt hk1 hq14) hq15) (cwV 1 hts gX2_copyFrom_X7_copyFrom rfl rfl rfl (by decide +kernel) ⟨Nat.le_of_ble_eq_true rfl, Nat.le_of_ble_eq_true rfl⟩) hK hP (kd_X2_toolAt hk0 hq13) (by decide) rfl rfl hl.1 rfl (Nat.le_of_ble_eq_true rfl) dX2_copyFrom_97 ⟨Nat.zero_le _, Nat.zero_le _⟩) hS (fun H locs hP hS => ?_)
        refine lv_iinc (v := (y2 + 1)) (lv' := [(2, .int (y2 + 1)), (0, .ref (G.2.1 (x0))), (1, .ref (G.2.1 (x1)))]) hx hb dX2_copyFrom_100 hl (k := 2) rfl rfl (by decide) rfl (fun ls hl => ?_)
        refine lv_goto (tgt := 79) hx hb dX2_copyFrom_103 (by decide) ?_
        exact ih q15 (y2 + 1) H locs ls hf hP hS (lv_sub hl [1, 2, 0] rfl)
  unfold f_X2_copyFrom at hf
  refine lv_aload_n hx hb dX2_copyFrom_0 rfl (lv_at hl 0 rfl) ?_
  refine lv_aload_n hx hb dX2_copyFrom_1 rfl (lv_at hl 1 rfl) ?_
  refine x_get (j := 5) (v := .int (I x1 5)) hx hb hts hi2 hown hK hP hk1 rfl (by decide) (hts (.fieldLink RX2 40 "LeaseOffice$Office" "personCount" "I") (by decide +kernel)) rfl (by decide) dX2_copyFrom_2 ?_
  obtain ⟨M1, eM1, hf⟩ := zlet_e hf
  refine x_put (j := 5) (I2 := M1) (J2 := J) (ty0 := tyX2) (ty := .int) hx hb hts hi2 hown hG hK hP hS hk0 rfl tyX2_ok nmX2 (by decide) (hts (.fieldLink RX2 40 "LeaseOffice$Office" "personCount" "I") (by decide +kernel)) rfl (by decide +kernel) rfl rfl (Nat.le_of_ble_eq_true rfl) (by rw [eM1]; exact zs_2_5 _) (by rw [eM1]; exact zo_C) (by decide) dX2_copyFrom_5 (fun H locs hP hS => ?_)
  refine lv_aload_n hx hb dX2_copyFrom_8 rfl (lv_at hl 0 rfl) ?_
  refine lv_aload_n hx hb dX2_copyFrom_9 rfl (lv_at hl 1 rfl) ?_
  refine x_get (j := 6) (v := .int (M1 x1 6)) hx hb hts hi2 hown hK hP hk1 rfl (by decide) (hts (.fieldLink RX2 44 "LeaseOffice$Office" "toolCount" "I") (by decide +kernel)) rfl (by decide) dX2_copyFrom_10 ?_
  obtain ⟨M2, eM2, hf⟩ := zlet_e hf
  refine x_put (j := 6) (I2 := M2) (J2 := J) (ty0 := tyX2) (ty := .int) hx hb hts hi2 hown hG hK hP hS hk0 rfl tyX2_ok nmX2 (by decide) (hts (.fieldLink RX2 44 "LeaseOffice$Office" "toolCount" "I") (by decide +kernel)) rfl (by decide +kernel) rfl rfl (Nat.le_of_ble_eq_true rfl) (by rw [eM2]; exact zs_2_6 _) (by rw [eM2]; exact zo_C) (by decide) dX2_copyFrom_13 (fun H locs hP hS => ?_)
  refine lv_aload_n hx hb dX2_copyFrom_16 rfl (lv_at hl 0 rfl) ?_
  refine lv_aload_n hx hb dX2_copyFrom_17 rfl (lv_at hl 1 rfl) ?_
  refine x_get (j := 7) (v := .int (M2 x1 7)) hx hb hts hi2 hown hK hP hk1 rfl (by decide) (hts (.fieldLink RX2 47 "LeaseOffice$Office" "day" "I") (by decide +kernel)) rfl (by decide) dX2_copyFrom_18 ?_
  obtain ⟨M3, eM3, hf⟩ := zlet_e hf
  refine x_put (j := 7) (I2 := M3) (J2 := J) (ty0 := tyX2) (ty := .int) hx hb hts hi2 hown hG hK hP hS hk0 rfl tyX2_ok nmX2 (by decide) (hts (.fieldLink RX2 47 "LeaseOffice$Office" "day" "I") (by decide +kernel)) rfl (by decide +kernel) rfl rfl (Nat.le_of_ble_eq_true rfl) (by rw [eM3]; exact zs_2_7 _) (by rw [eM3]; exact zo_C) (by decide) dX2_copyFrom_21 (fun H locs hP hS => ?_)
  refine lv_aload_n hx hb dX2_copyFrom_24 rfl (lv_at hl 0 rfl) ?_
  refine lv_aload_n hx hb dX2_copyFrom_25 rfl (lv_at hl 1 rfl) ?_
  refine x_get (j := 8) (v := .int (M3 x1 8)) hx hb hts hi2 hown hK hP hk1 rfl (by decide) (hts (.fieldLink RX2 50 "LeaseOffice$Office" "till" "I") (by decide +kernel)) rfl (by decide) dX2_copyFrom_26 ?_
  obtain ⟨M4, eM4, hf⟩ := zlet_e hf
  refine x_put (j := 8) (I2 := M4) (J2 := J) (ty0 := tyX2) (ty := .int) hx hb hts hi2 hown hG hK hP hS hk0 rfl tyX2_ok nmX2 (by decide) (hts (.fieldLink RX2 50 "LeaseOffice$Office" "till" "I") (by decide +kernel)) rfl (by decide +kernel) rfl rfl (Nat.le_of_ble_eq_true rfl) (by rw [eM4]; exact zs_2_8 _) (by rw [eM4]; exact zo_C) (by decide) dX2_copyFrom_29 (fun H locs hP hS => ?_)
  refine lv_aload_n hx hb dX2_copyFrom_32 rfl (lv_at hl 0 rfl) ?_
  refine lv_aload_n hx hb dX2_copyFrom_33 rfl (lv_at hl 1 rfl) ?_
  refine x_get (j := 9) (v := .int (M4 x1 9)) hx hb hts hi2 hown hK hP hk1 rfl (by decide) (hts (.fieldLink RX2 53 "LeaseOffice$Office" "why" "I") (by decide +kernel)) rfl (by decide) dX2_copyFrom_34 ?_
  obtain ⟨M5, eM5, hf⟩ := zlet_e hf
  refine x_put (j := 9) (I2 := M5) (J2 := J) (ty0 := tyX2) (ty := .int) hx hb hts hi2 hown hG hK hP hS hk0 rfl tyX2_ok nmX2 (by decide) (hts (.fieldLink RX2 53 "LeaseOffice$Office" "why" "I") (by decide +kernel)) rfl (by decide +kernel) rfl rfl (Nat.le_of_ble_eq_true rfl) (by rw [eM5]; exact zs_2_9 _) (by rw [eM5]; exact zo_C) (by decide) dX2_copyFrom_37 (fun H locs hP hS => ?_)
  refine lv_aload_n hx hb dX2_copyFrom_40 rfl (lv_at hl 0 rfl) ?_
  refine lv_aload_n hx hb dX2_copyFrom_41 rfl (lv_at hl 1 rfl) ?_
  refine x_get (j := 10) (v := .int (M5 x1 10)) hx hb hts hi2 hown hK hP hk1 rfl (by decide) (hts (.fieldLink RX2 56 "LeaseOffice$Office" "whyBehind" "I") (by decide +kernel)) rfl (by decide) dX2_copyFrom_42 ?_
  obtain ⟨M6, eM6, hf⟩ := zlet_e hf
  refine x_put (j := 10) (I2 := M6) (J2 := J) (ty0 := tyX2) (ty := .int) hx hb hts hi2 hown hG hK hP hS hk0 rfl tyX2_ok nmX2 (by decide) (hts (.fieldLink RX2 56 "LeaseOffice$Office" "whyBehind" "I") (by decide +kernel)) rfl (by decide +kernel) rfl rfl (Nat.le_of_ble_eq_true rfl) (by rw [eM6]; exact zs_2_10 _) (by rw [eM6]; exact zo_C) (by decide) dX2_copyFrom_45 (fun H locs hP hS => ?_)
  refine lv_iconst (v := 0) hx hb dX2_copyFrom_48 (by decide) ?_
  refine lv_istore_n (lv' := [(2, .int 0), (0, .ref (G.2.1 (x0))), (1, .ref (G.2.1 (x1)))]) hx hb dX2_copyFrom_49 rfl hl (by decide) rfl (fun ls hl => ?_)
  refine L50 _ (fun M11 H locs ls hf hP hS hl => ?_) zFu M6 0 H locs ls hf hP hS (lv_sub hl [1, 2, 0] rfl)
  refine lv_iconst (v := 0) hx hb dX2_copyFrom_77 (by decide) ?_
  refine lv_istore_n (lv' := [(2, .int 0), (0, .ref (G.2.1 (x0))), (1, .ref (G.2.1 (x1)))]) hx hb dX2_copyFrom_78 rfl hl (by decide) rfl (fun ls hl => ?_)
  exact L79 zFu M11 0 H locs ls hf hP hS (lv_sub hl [1, 2, 0] rfl)
set_option maxRecDepth 100000 in
set_option maxHeartbeats 4000000 in
theorem c_X2_isTool (l : Launch) (G : zGT) (hG : zOK G) (I J : zM) (x0 : Nat) (x1 : Int32) (hk0 : zK x0 = 2) {r : Int32} (hf : f_X2_isTool I x0 x1 = some r) : Met l yX2_isTool wsX2_isTool (zrm 0 0) (va_Pc [.ref (G.2.1 (x0)), .int x1] (zS G I J)) (zQi G r I J) 0 0 (zA G) := by
  refine zMet (cc := cX2_isTool) (n := 2) (ret := (some .boolean)) (by decide) rfl (Nat.le_of_ble_eq_true rfl) ?_
  intro p e s m args below meth c H locs ls F hK hP hS hl
  obtain ⟨hx, hb, hr, hml, hts, hown, hlocks⟩ := F
  have hown : s.vm.findClass RX2 = some m.cls := hown
  have hl : lv_has ls 2 [(0, .ref (G.2.1 (x0))), (1, .int x1)] := hl
  have hi2 : ∀ w ∈ wsX20, w ∈ wsX2_isTool := fun _ h => List.mem_cons_of_mem _ (List.mem_append_right _ h)
  unfold f_X2_isTool at hf
  refine lv_iload_n hx hb dX2_isTool_0 rfl (lv_at hl 1 rfl) ?_
  refine lv_if_lt (tgt := 16) hx hb dX2_isTool_1 (by decide) (fun c1 => ?_) (fun c1 => ?_)
  · have hf := zif_t c1 hf
    refine lv_iconst (v := 0) hx hb dX2_isTool_16 (by decide) ?_
    obtain rfl := Option.some.inj hf
    exact x_zret (v := 0) rfl hx hb hr hlocks hK hP hS dX2_isTool_17
  · have hf := zif_f c1 hf
    refine lv_iload_n hx hb dX2_isTool_4 rfl (lv_at hl 1 rfl) ?_
    refine lv_aload_n hx hb dX2_isTool_5 rfl (lv_at hl 0 rfl) ?_
    refine x_get (j := 6) (v := .int (I x0 6)) hx hb hts hi2 hown hK hP hk0 rfl (by decide) (hts (.fieldLink RX2 44 "LeaseOffice$Office" "toolCount" "I") (by decide +kernel)) rfl (by decide) dX2_isTool_6 ?_
    refine lv_icmp_ge (tgt := 16) hx hb dX2_isTool_9 (by decide) (fun c2 => ?_) (fun c2 => ?_)
    · have hf := zif_t c2 hf
      refine lv_iconst (v := 0) hx hb dX2_isTool_16 (by decide) ?_
      obtain rfl := Option.some.inj hf
      exact x_zret (v := 0) rfl hx hb hr hlocks hK hP hS dX2_isTool_17
    · have hf := zif_f c2 hf
      refine lv_iconst (v := 1) hx hb dX2_isTool_12 (by decide) ?_
      refine lv_goto (tgt := 17) hx hb dX2_isTool_13 (by decide) ?_
      obtain rfl := Option.some.inj hf
      exact x_zret (v := 1) rfl hx hb hr hlocks hK hP hS dX2_isTool_17
set_option maxRecDepth 100000 in
set_option maxHeartbeats 4000000 in
theorem c_X4_remove (l : Launch) (G : zGT) (hG : zOK G) (I J : zM) (x0 : Nat) (x1 : Int32) (hk0 : zK x0 = 4) {r : zM} (hf : f_X4_remove I x0 x1 = some r) : Met l yX4_remove wsX4_remove (zrm 0 0) (va_Pc [.ref (G.2.1 (x0)), .int x1] (zS G I J)) (zQv G r J) 0 0 (zA G) := by
  refine zMet (cc := cX4_remove) (n := 4) (ret := none) (by decide) rfl (Nat.le_of_ble_eq_true rfl) ?_
  intro p e s m args below meth c H locs ls F hK hP hS hl
  obtain ⟨hx, hb, hr, hml, hts, hown, hlocks⟩ := F
  have hown : s.vm.findClass RX4 = some m.cls := hown
  have hl : lv_has ls 4 [(0, .ref (G.2.1 (x0))), (1, .int x1)] := hl
  have hi4 : ∀ w ∈ wsX40, w ∈ wsX4_remove := fun _ h => List.mem_cons_of_mem _ (List.mem_append_right _ h)
  have L20 : ∀ (n : Nat) (M : zM) (y2 : Int32) (H : Heap) (locs : List Loc) (ls : Array Slot), f_X4_remove_l20 x0 n M y2 = some r → va_P G.1 vwCl (zW G M J) H → va_S (zA G) s.heap H locs → lv_has ls 4 [(0, .ref (G.2.1 (x0))), (2, .int y2)] → W p l e (zrm 0 0) s m args below meth c H locs 0 0 (MQ below (zQv G r J) args s 0 0 (zA G)) (F0 m 20 ls []) := by
    intro n
    induction n with
    | zero =>
      intro M y2 H locs ls hf
      rw [f_X4_remove_l20] at hf
      cases hf
    | succ n ih =>
      intro M y2 H locs ls hf hP hS hl
      rw [f_X4_remove_l20] at hf
      refine lv_iload_n hx hb dX4_remove_20 rfl (lv_at hl 1 rfl) ?_
      refine lv_if_lt (tgt := 71) hx hb dX4_remove_21 (by decide) (fun c4 => ?_) (fun c4 => ?_)
      · have hf := zif_t c4 hf
        refine lv_aload_n hx hb dX4_remove_71 rfl (lv_at hl 0 rfl) ?_
        refine lv_dup hx hb dX4_remove_72 rfl ?_
        refine x_get (j := 3) (v := .int (M x0 3)) hx hb hts hi4 hown hK hP hk0 rfl (by decide) (hts (.fieldLink RX4 26 "LeaseOffice$Table" "size" "I") (by decide +kernel)) rfl (by decide) dX4_remove_73 ?_
        refine lv_iconst (v := 1) hx hb dX4_remove_76 (by decide) ?_
        refine lv_isub hx hb dX4_remove_77 ?_
        obtain ⟨M5, eM5, hf⟩ := zlet_e hf
        refine x_put (j := 3) (I2 := M5) (J2 := J) (ty0 := tyX4) (ty := .int) hx hb hts hi4 hown hG hK hP hS hk0 rfl tyX4_ok nmX4 (by decide) (hts (.fieldLink RX4 26 "LeaseOffice$Table" "size" "I") (by decide +kernel)) rfl (by decide +kernel) rfl rfl (Nat.le_of_ble_eq_true rfl) (by rw [eM5]; exact zs_4_3 _) (by rw [eM5]; exact zo_C) (by decide) dX4_remove_78 (fun H locs hP hS => ?_)
        obtain rfl := Option.some.inj hf
        exact x_vret hx hb hr hlocks hK hP hS dX4_remove_81
      · have hf := zif_f c4 hf
        refine lv_iload_n hx hb dX4_remove_24 rfl (lv_at hl 1 rfl) ?_
        refine lv_aload_n hx hb dX4_remove_25 rfl (lv_at hl 0 rfl) ?_
        refine x_get (j := 2) (v := .ref (G.2.1 (x0 + 1))) hx hb hts hi4 hown hK hP hk0 rfl (by decide) (hts (.fieldLink RX4 22 "LeaseOffice$Table" "cells" "[I") (by decide +kernel)) rfl (by decide) dX4_remove_26 ?_
        refine x_alen 0 (v := (Int32.ofNat (zLn (x0 + 1)))) hx hb hK hP (zK_lt (zk_4_2 hk0) (by decide)) (zE_10 (zk_4_2 hk0) rfl) rfl rfl dX4_remove_29 ?_
        refine lv_icmp_ge (tgt := 71) hx hb dX4_remove_30 (by decide) (fun c6 => ?_) (fun c6 => ?_)
        · have hf := zif_t c6 hf
          refine lv_aload_n hx hb dX4_remove_71 rfl (lv_at hl 0 rfl) ?_
          refine lv_dup hx hb dX4_remove_72 rfl ?_
          refine x_get (j := 3) (v := .int (M x0 3)) hx hb hts hi4 hown hK hP hk0 rfl (by decide) (hts (.fieldLink RX4 26 "LeaseOffice$Table" "size" "I") (by decide +kernel)) rfl (by decide) dX4_remove_73 ?_
          refine lv_iconst (v := 1) hx hb dX4_remove_76 (by decide) ?_
          refine lv_isub hx hb dX4_remove_77 ?_
          obtain ⟨M7, eM7, hf⟩ := zlet_e hf
          refine x_put (j := 3) (I2 := M7) (J2 := J) (ty0 := tyX4) (ty := .int) hx hb hts hi4 hown hG hK hP hS hk0 rfl tyX4_ok nmX4 (by decide) (hts (.fieldLink RX4 26 "LeaseOffice$Table" "size" "I") (by decide +kernel)) rfl (by decide +kernel) rfl rfl (Nat.le_of_ble_eq_true rfl) (by rw [eM7]; exact zs_4_3 _) (by rw [eM7]; exact zo_C) (by decide) dX4_remove_78 (fun H locs hP hS => ?_)
          obtain rfl := Option.some.inj hf
          exact x_vret hx hb hr hlocks hK hP hS dX4_remove_81
        · have hf := zif_f c6 hf
          refine lv_iload_n hx hb dX4_remove_33 rfl (lv_at hl 1 rfl) ?_
          refine lv_aload_n hx hb dX4_remove_34 rfl (lv_at hl 0 rfl) ?_
          refine x_get (j := 1) (v := .int (M x0 1)) hx hb hts hi4 hown hK hP hk0 rfl (by decide) (hts (.fieldLink RX4 13 "LeaseOffice$Table" "width" "I") (by decide +kernel)) rfl (by decide) dX4_remove_35 ?_
          refine lv_iadd hx hb dX4_remove_38 ?_
          obtain ⟨w8, ew8, hf⟩ := zlet_e hf
          refine z_topi ew8 ?_
          refine lv_istore_n (lv' := [(3, .int w8), (0, .ref (G.2.1 (x0))), (2, .int y2)]) hx hb dX4_remove_39 rfl hl (by decide) rfl (fun ls hl => ?_)
          refine lv_iload_n hx hb dX4_remove_40 rfl (lv_at hl 0 rfl) ?_
          refine lv_if_lt (tgt := 65) hx hb dX4_remove_41 (by decide) (fun c9 => ?_) (fun c9 => ?_)
          · have hf := zif_t c9 hf
            refine lv_iinc (v := (y2 + 1)) (lv' := [(2, .int (y2 + 1)), (3, .int w8), (0, .ref (G.2.1 (x0)))]) hx hb dX4_remove_65 hl (k := 2) rfl rfl (by decide) rfl (fun ls hl => ?_)
            refine lv_goto (tgt := 20) hx hb dX4_remove_68 (by decide) ?_
            exact ih M (y2 + 1) H locs ls hf hP hS (lv_sub hl [2, 0] rfl)
          · have hf := zif_f c9 hf
            refine lv_iload_n hx hb dX4_remove_44 rfl (lv_at hl 0 rfl) ?_
            refine lv_aload_n hx hb dX4_remove_45 rfl (lv_at hl 1 rfl) ?_
            refine x_get (j := 2) (v := .ref (G.2.1 (x0 + 1))) hx hb hts hi4 hown hK hP hk0 rfl (by decide) (hts (.fieldLink RX4 22 "LeaseOffice$Table" "cells" "[I") (by decide +kernel)) rfl (by decide) dX4_remove_46 ?_
            refine x_alen 0 (v := (Int32.ofNat (zLn (x0 + 1)))) hx hb hK hP (zK_lt (zk_4_2 hk0) (by decide)) (zE_10 (zk_4_2 hk0) rfl) rfl rfl dX4_remove_49 ?_
            refine lv_icmp_ge (tgt := 65) hx hb dX4_remove_50 (by decide) (fun c10 => ?_) (fun c10 => ?_)
            · have hf := zif_t c10 hf
              refine lv_iinc (v := (y2 + 1)) (lv' := [(2, .int (y2 + 1)), (3, .int w8), (0, .ref (G.2.1 (x0)))]) hx hb dX4_remove_65 hl (k := 2) rfl rfl (by decide) rfl (fun ls hl => ?_)
              refine lv_goto (tgt := 20) hx hb dX4_remove_68 (by decide) ?_
              exact ih M (y2 + 1) H locs ls hf hP hS (lv_sub hl [2, 0] rfl)
            · have hf := zif_f c10 hf
              refine lv_aload_n hx hb dX4_remove_53 rfl (lv_at hl 1 rfl) ?_
              refine x_get (j := 2) (v := .ref (G.2.1 (x0 + 1))) hx hb hts hi4 hown hK hP hk0 rfl (by decide) (hts (.fieldLink RX4 22 "LeaseOffice$Table" "cells" "[I") (by decide +kernel)) rfl (by decide) dX4_remove_54 ?_
              refine lv_iload_n hx hb dX4_remove_57 rfl (lv_at hl 2 rfl) ?_
              refine lv_aload_n hx hb dX4_remove_58 rfl (lv_at hl 1 rfl) ?_
              refine x_get (j := 2) (v := .ref (G.2.1 (x0 + 1))) hx hb hts hi4 hown hK hP hk0 rfl (by decide) (hts (.fieldLink RX4 22 "LeaseOffice$Table" "cells" "[I") (by decide +kernel)) rfl (by decide) dX4_remove_59 ?_
              refine lv_iload_n hx hb dX4_remove_62 rfl (lv_at hl 0 rfl) ?_
              obtain ⟨h11, hf⟩ := zck_e hf
              refine x_iald hx hb hK hP (zK_lt (zk_4_2 hk0) (by decide)) (zE_10 (zk_4_2 hk0) rfl) (zin_e h11) dX4_remove_63 ?_
              obtain ⟨h13, hf⟩ := zck_e hf
              obtain ⟨M12, eM12, hf⟩ := zlet_e hf
              refine x_iastC eM12 hx hb hG hK hP hS (zk_4_2 hk0) rfl (zin_e h13) dX4_remove_64 (fun H locs hP hS => ?_)
              refine lv_iinc (v := (y2 + 1)) (lv' := [(2, .int (y2 + 1)), (3, .int w8), (0, .ref (G.2.1 (x0)))]) hx hb dX4_remove_65 hl (k := 2) rfl rfl (by decide) rfl (fun ls hl => ?_)
              refine lv_goto (tgt := 20) hx hb dX4_remove_68 (by decide) ?_
              exact ih M12 (y2 + 1) H locs ls hf hP hS (lv_sub hl [2, 0] rfl)
  unfold f_X4_remove at hf
  refine lv_iload_n hx hb dX4_remove_0 rfl (lv_at hl 1 rfl) ?_
  refine lv_if_lt (tgt := 12) hx hb dX4_remove_1 (by decide) (fun c1 => ?_) (fun c1 => ?_)
  · have hf := zif_t c1 hf
    obtain rfl := Option.some.inj hf
    exact x_vret hx hb hr hlocks hK hP hS dX4_remove_12
  · have hf := zif_f c1 hf
    refine lv_iload_n hx hb dX4_remove_4 rfl (lv_at hl 1 rfl) ?_
    refine lv_aload_n hx hb dX4_remove_5 rfl (lv_at hl 0 rfl) ?_
    refine x_get (j := 3) (v := .int (I x0 3)) hx hb hts hi4 hown hK hP hk0 rfl (by decide) (hts (.fieldLink RX4 26 "LeaseOffice$Table" "size" "I") (by decide +kernel)) rfl (by decide) dX4_remove_6 ?_
    refine lv_icmp_lt (tgt := 13) hx hb dX4_remove_9 (by decide) (fun c2 => ?_) (fun c2 => ?_)
    · have hf := zif_t c2 hf
      refine lv_iload_n hx hb dX4_remove_13 rfl (lv_at hl 1 rfl) ?_
      refine lv_aload_n hx hb dX4_remove_14 rfl (lv_at hl 0 rfl) ?_
      refine x_get (j := 1) (v := .int (I x0 1)) hx hb hts hi4 hown hK hP hk0 rfl (by decide) (hts (.fieldLink RX4 13 "LeaseOffice$Table" "width" "I") (by decide +kernel)) rfl (by decide) dX4_remove_15 ?_
      refine lv_imul hx hb dX4_remove_18 ?_
      obtain ⟨w3, ew3, hf⟩ := zlet_e hf
      refine z_topi ew3 ?_
      refine lv_istore_n (lv' := [(2, .int w3), (0, .ref (G.2.1 (x0))), (1, .int x1)]) hx hb dX4_remove_19 rfl hl (by decide) rfl (fun ls hl => ?_)
      exact L20 zFu I w3 H locs ls hf hP hS (lv_sub hl [1, 0] rfl)
    · have hf := zif_f c2 hf
      obtain rfl := Option.some.inj hf
      exact x_vret hx hb hr hlocks hK hP hS dX4_remove_12
