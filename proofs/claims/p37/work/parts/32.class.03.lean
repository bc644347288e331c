set_option maxRecDepth 100000 in
set_option maxHeartbeats 4000000 in
theorem c_X3_payOrOwe (l : Launch) (G : zGT) (hG : zOK G) (I J : zM) (x0 : Nat) (x1 : Int32) (hk0 : zK x0 = 3) {r : Int32 × zM} (hf : f_X3_payOrOwe I x0 x1 = some r) : Met l yX3_payOrOwe wsX3_payOrOwe (zrm 1 21) (va_Pc [.ref (G.2.1 (x0)), .int x1] (zS G I J)) (zQi G r.1 r.2 J) 0 0 (zA G) := by
  refine zMet (cc := cX3_payOrOwe) (n := 3) (ret := (some .int)) (by decide) rfl (Nat.le_of_ble_eq_true rfl) ?_
  intro p e s m args below meth c H locs ls F hK hP hS hl
  obtain ⟨hx, hb, hr, hml, hts, hown, hlocks⟩ := F
  have hown : s.vm.findClass RX3 = some m.cls := hown
  have hl : lv_has ls 3 [(0, .ref (G.2.1 (x0))), (1, .int x1)] := hl
  have hi3 : ∀ w ∈ wsX30, w ∈ wsX3_payOrOwe := fun _ h => List.mem_cons_of_mem _ (List.mem_append_right _ h)
  unfold f_X3_payOrOwe at hf
  refine lv_aload_n hx hb dX3_payOrOwe_0 rfl (lv_at hl 0 rfl) ?_
  refine x_get (j := 1) (v := .int (I x0 1)) hx hb hts hi3 hown hK hP hk0 rfl (by decide) (hts (.fieldLink RX3 19 "LeaseOffice$Person" "purse" "I") (by decide +kernel)) rfl (by decide) dX3_payOrOwe_1 ?_
  refine lv_iload_n hx hb dX3_payOrOwe_4 rfl (lv_at hl 1 rfl) ?_
  obtain ⟨w1, ew1, hf⟩ := zlet_e hf
  refine va_mmin hx hb (hml.trans hl.1.symm) hown (hts (.methodLink RX3 35 Lib.Math.min.name) (by decide +kernel)) (hts (.static Lib.Math.min.name) (by decide +kernel)) (hts (.initialized "java/lang/Math") (by decide +kernel)) (hts (.code Lib.Math.min.name Lib.Math.min.code 2 (some .int)) (by decide +kernel)) (Nat.le_of_ble_eq_true rfl) (Nat.le_of_ble_eq_true rfl) (Nat.zero_le _) (Nat.zero_le _) dX3_payOrOwe_5 ?_
  refine z_topi ew1 ?_
  refine lv_istore_n (lv' := [(2, .int w1), (0, .ref (G.2.1 (x0))), (1, .int x1)]) hx hb dX3_payOrOwe_8 rfl hl (by decide) rfl (fun ls hl => ?_)
  refine lv_aload_n hx hb dX3_payOrOwe_9 rfl (lv_at hl 1 rfl) ?_
  refine lv_dup hx hb dX3_payOrOwe_10 rfl ?_
  refine x_get (j := 1) (v := .int (I x0 1)) hx hb hts hi3 hown hK hP hk0 rfl (by decide) (hts (.fieldLink RX3 19 "LeaseOffice$Person" "purse" "I") (by decide +kernel)) rfl (by decide) dX3_payOrOwe_11 ?_
  refine lv_iload_n hx hb dX3_payOrOwe_14 rfl (lv_at hl 0 rfl) ?_
  refine lv_isub hx hb dX3_payOrOwe_15 ?_
  obtain ⟨M2, eM2, hf⟩ := zlet_e hf
  refine x_put (j := 1) (I2 := M2) (J2 := J) (ty0 := tyX3) (ty := .int) hx hb hts hi3 hown hG hK hP hS hk0 rfl tyX3_ok nmX3 (by decide) (hts (.fieldLink RX3 19 "LeaseOffice$Person" "purse" "I") (by decide +kernel)) rfl (by decide +kernel) rfl rfl (Nat.le_of_ble_eq_true rfl) (by rw [eM2]; exact zs_3_1 _) (by rw [eM2]; exact zo_C) (by decide) dX3_payOrOwe_16 (fun H locs hP hS => ?_)
  refine lv_aload_n hx hb dX3_payOrOwe_19 rfl (lv_at hl 1 rfl) ?_
  refine lv_dup hx hb dX3_payOrOwe_20 rfl ?_
  refine x_get (j := 4) (v := .int (M2 x0 4)) hx hb hts hi3 hown hK hP hk0 rfl (by decide) (hts (.fieldLink RX3 28 "LeaseOffice$Person" "debt" "I") (by decide +kernel)) rfl (by decide) dX3_payOrOwe_21 ?_
  refine lv_iload_n hx hb dX3_payOrOwe_24 rfl (lv_at hl 2 rfl) ?_
  refine lv_iload_n hx hb dX3_payOrOwe_25 rfl (lv_at hl 0 rfl) ?_
  refine lv_isub hx hb dX3_payOrOwe_26 ?_
  refine lv_iadd hx hb dX3_payOrOwe_27 ?_
  obtain ⟨M3, eM3, hf⟩ := zlet_e hf
  refine x_put (j := 4) (I2 := M3) (J2 := J) (ty0 := tyX3) (ty := .int) hx hb hts hi3 hown hG hK hP hS hk0 rfl tyX3_ok nmX3 (by decide) (hts (.fieldLink RX3 28 "LeaseOffice$Person" "debt" "I") (by decide +kernel)) rfl (by decide +kernel) rfl rfl (Nat.le_of_ble_eq_true rfl) (by rw [eM3]; exact zs_3_4 _) (by rw [eM3]; exact zo_C) (by decide) dX3_payOrOwe_28 (fun H locs hP hS => ?_)
  refine lv_iload_n hx hb dX3_payOrOwe_31 rfl (lv_at hl 0 rfl) ?_
  obtain rfl := Option.some.inj hf
  exact x_iret hx hb hr hlocks hK hP hS dX3_payOrOwe_32
set_option maxRecDepth 100000 in
set_option maxHeartbeats 4000000 in
theorem c_X3_loseTrust (l : Launch) (G : zGT) (hG : zOK G) (I J : zM) (x0 : Nat) (x1 : Int32) (hk0 : zK x0 = 3) {r : zM} (hf : f_X3_loseTrust I x0 x1 = some r) : Met l yX3_loseTrust wsX3_loseTrust (zrm 1 21) (va_Pc [.ref (G.2.1 (x0)), .int x1] (zS G I J)) (zQv G r J) 0 0 (zA G) := by
  refine zMet (cc := cX3_loseTrust) (n := 2) (ret := none) (by decide) rfl (Nat.le_of_ble_eq_true rfl) ?_
  intro p e s m args below meth c H locs ls F hK hP hS hl
  obtain ⟨hx, hb, hr, hml, hts, hown, hlocks⟩ := F
  have hown : s.vm.findClass RX3 = some m.cls := hown
  have hl : lv_has ls 2 [(0, .ref (G.2.1 (x0))), (1, .int x1)] := hl
  have hi3 : ∀ w ∈ wsX30, w ∈ wsX3_loseTrust := fun _ h => List.mem_cons_of_mem _ (List.mem_append_right _ h)
  unfold f_X3_loseTrust at hf
  refine lv_aload_n hx hb dX3_loseTrust_0 rfl (lv_at hl 0 rfl) ?_
  refine lv_aload_n hx hb dX3_loseTrust_1 rfl (lv_at hl 0 rfl) ?_
  refine x_get (j := 2) (v := .int (I x0 2)) hx hb hts hi3 hown hK hP hk0 rfl (by decide) (hts (.fieldLink RX3 22 "LeaseOffice$Person" "trust" "I") (by decide +kernel)) rfl (by decide) dX3_loseTrust_2 ?_
  refine lv_iload_n hx hb dX3_loseTrust_5 rfl (lv_at hl 1 rfl) ?_
  refine lv_isub hx hb dX3_loseTrust_6 ?_
  refine lv_iconst (v := 0) hx hb dX3_loseTrust_7 (by decide) ?_
  obtain ⟨w1, ew1, hf⟩ := zlet_e hf
  refine va_mmax hx hb (hml.trans hl.1.symm) hown (hts (.methodLink RX3 41 Lib.Math.max.name) (by decide +kernel)) (hts (.static Lib.Math.max.name) (by decide +kernel)) (hts (.initialized "java/lang/Math") (by decide +kernel)) (hts (.code Lib.Math.max.name Lib.Math.max.code 2 (some .int)) (by decide +kernel)) (Nat.le_of_ble_eq_true rfl) (Nat.le_of_ble_eq_true rfl) (Nat.zero_le _) (Nat.zero_le _) dX3_loseTrust_8 ?_
  refine z_topi ew1 ?_
  obtain ⟨M2, eM2, hf⟩ := zlet_e hf
  refine x_put (j := 2) (I2 := M2) (J2 := J) (ty0 := tyX3) (ty := .int) hx hb hts hi3 hown hG hK hP hS hk0 rfl tyX3_ok nmX3 (by decide) (hts (.fieldLink RX3 22 "LeaseOffice$Person" "trust" "I") (by decide +kernel)) rfl (by decide +kernel) rfl rfl (Nat.le_of_ble_eq_true rfl) (by rw [eM2]; exact zs_3_2 _) (by rw [eM2]; exact zo_C) (by decide) dX3_loseTrust_11 (fun H locs hP hS => ?_)
  obtain rfl := Option.some.inj hf
  exact x_vret hx hb hr hlocks hK hP hS dX3_loseTrust_14
set_option maxRecDepth 100000 in
set_option maxHeartbeats 4000000 in
theorem c_X2_lookAt (l : Launch) (G : zGT) (hG : zOK G) (I J : zM) (x0 : Nat) (x1 : Int32) (hk0 : zK x0 = 2) {r : Int32 × zM} (hf : f_X2_lookAt I x0 x1 = some r) : Met l yX2_lookAt wsX2_lookAt (zrm 3 70) (va_Pc [.ref (G.2.1 (x0)), .int x1] (zS G I J)) (zQi G r.1 r.2 J) 0 0 (zA G) := by
  refine zMet (cc := cX2_lookAt) (n := 7) (ret := (some .int)) (by decide) rfl (Nat.le_of_ble_eq_true rfl) ?_
  intro p e s m args below meth c H locs ls F hK hP hS hl
  obtain ⟨hx, hb, hr, hml, hts, hown, hlocks⟩ := F
  have hown : s.vm.findClass RX2 = some m.cls := hown
  have hl : lv_has ls 7 [(0, .ref (G.2.1 (x0))), (1, .int x1)] := hl
  have hi2 : ∀ w ∈ wsX20, w ∈ wsX2_lookAt := fun _ h => List.mem_cons_of_mem _ (List.mem_append_left _ (List.mem_append_left _ (List.mem_append_left _ (List.mem_append_left _ (List.mem_append_right _ h)))))
  have L52 : ∀ (y3 : Int32) (y4 : Int32) (K : zM → Option (Int32 × zM)) (hKK : ∀ (M2 : zM) (H : Heap) (locs : List Loc) (ls : Array Slot), K M2 = some r → va_P G.1 vwCl (zW G M2 J) H → va_S (zA G) s.heap H locs → lv_has ls 7 [(0, .ref (G.2.1 (x0)))] → W p l e (zrm 3 70) s m args below meth c H locs 0 0 (MQ below (zQi G r.1 r.2 J) args s 0 0 (zA G)) (F0 m 123 ls [])) (n : Nat) (M : zM) (y5 : Int32) (H : Heap) (locs : List Loc) (ls : Array Slot), f_X2_lookAt_l52 x0 y3 y4 K n M y5 = some r → va_P G.1 vwCl (zW G M J) H → va_S (zA G) s.heap H locs → lv_has ls 7 [(0, .ref (G.2.1 (x0))), (3, .int y3), (4, .int y4), (5, .int y5)] → W p l e (zrm 3 70) s m args below meth c H locs 0 0 (MQ below (zQi G r.1 r.2 J) args s 0 0 (zA G)) (F0 m 52 ls []) := by
    intro y3 y4 K hKK n
    induction n with
    | zero =>
      intro M y5 H locs ls hf
      rw [f_X2_lookAt_l52] at hf
      cases hf
    | succ n ih =>
      intro M y5 H locs ls hf hP hS hl
      rw [f_X2_lookAt_l52] at hf
      refine lv_iload hx hb dX2_lookAt_52 (lv_at hl 3 rfl) ?_
      refine lv_aload_n hx hb dX2_lookAt_54 rfl (lv_at hl 0 rfl) ?_
      refine x_get (j := 4) (v := .ref (G.2.1 (x0 + 12))) hx hb hts hi2 hown hK hP hk0 rfl (by decide) (hts (.fieldLink RX2 36 "LeaseOffice$Office" "blame" "LLeaseOffice$Blame;") (by decide +kernel)) rfl (by decide) dX2_lookAt_55 ?_
      obtain ⟨q9, hq9, hf⟩ := zb_e hf
      refine x_calli (x_runV (As := []) (rest := [.int y5]) ⟨hx, hb, hml, hown, hts⟩ (c_X0_size l G hG M J (x0 + 12) (zk_2_4 hk0) hq9) (cwV 0 hts gX2_lookAt_X0_size rfl rfl rfl (by decide +kernel) ⟨Nat.le_of_ble_eq_true rfl, Nat.le_of_ble_eq_true rfl⟩) hK hP (zk_2_4 hk0) (by decide) rfl rfl hl.1 rfl (Nat.le_of_ble_eq_true rfl) dX2_lookAt_58 ⟨Nat.zero_le _, Nat.zero_le _⟩) hS (fun H locs hP hS => ?_)
      refine lv_icmp_ge (tgt := 123) hx hb dX2_lookAt_61 (by decide) (fun c10 => ?_) (fun c10 => ?_)
      · have hf := zif_t c10 hf
        exact hKK M H locs ls hf hP hS (lv_sub hl [0] rfl)
      · have hf := zif_f c10 hf
        refine lv_aload_n hx hb dX2_lookAt_64 rfl (lv_at hl 0 rfl) ?_
        refine lv_aload_n hx hb dX2_lookAt_65 rfl (lv_at hl 0 rfl) ?_
        refine x_get (j := 4) (v := .ref (G.2.1 (x0 + 12))) hx hb hts hi2 hown hK hP hk0 rfl (by decide) (hts (.fieldLink RX2 36 "LeaseOffice$Office" "blame" "LLeaseOffice$Blame;") (by decide +kernel)) rfl (by decide) dX2_lookAt_66 ?_
        refine lv_iload hx hb dX2_lookAt_69 (lv_at hl 3 rfl) ?_
        obtain ⟨q11, hq11, hf⟩ := zb_e hf
        refine x_calli (x_runV (As := [.int y5]) (rest := [.ref (G.2.1 (x0))]) ⟨hx, hb, hml, hown, hts⟩ (c_X0_personAt l G hG M J (x0 + 12) y5 (zk_2_4 hk0) hq11) (cwV 1 hts gX2_lookAt_X0_personAt rfl rfl rfl (by decide +kernel) ⟨Nat.le_of_ble_eq_true rfl, Nat.le_of_ble_eq_true rfl⟩) hK hP (zk_2_4 hk0) (by decide) rfl rfl hl.1 rfl (Nat.le_of_ble_eq_true rfl) dX2_lookAt_71 ⟨Nat.zero_le _, Nat.zero_le _⟩) hS (fun H locs hP hS => ?_)
        obtain ⟨q12, hq12, hf⟩ := zb_e hf
        refine x_callr (x_runV (As := [.int q11]) (rest := []) ⟨hx, hb, hml, hown, hts⟩ (c_X2_personAt l G hG M J x0 q11 hk0 hq12) (cwV 1 hts gX2_lookAt_X2_personAt rfl rfl rfl (by decide +kernel) ⟨Nat.le_of_ble_eq_true rfl, Nat.le_of_ble_eq_true rfl⟩) hK hP hk0 (by decide) rfl rfl hl.1 rfl (Nat.le_of_ble_eq_true rfl) dX2_lookAt_74 ⟨Nat.zero_le _, Nat.zero_le _⟩) hS (fun H locs hP hS => ?_)
        refine lv_astore (lv' := [(6, .ref (G.2.1 (q12))), (0, .ref (G.2.1 (x0))), (3, .int y3), (4, .int y4), (5, .int y5)]) hx hb dX2_lookAt_77 hl (by decide) rfl (fun ls hl => ?_)
        refine lv_aload_n hx hb dX2_lookAt_79 rfl (lv_at hl 1 rfl) ?_
        refine lv_dup hx hb dX2_lookAt_80 rfl ?_
        refine x_get (j := 8) (v := .int (M x0 8)) hx hb hts hi2 hown hK hP hk0 rfl (by decide) (hts (.fieldLink RX2 50 "LeaseOffice$Office" "till" "I") (by decide +kernel)) rfl (by decide) dX2_lookAt_81 ?_
        refine lv_aload hx hb dX2_lookAt_84 (lv_at hl 0 rfl) ?_
        refine lv_aload_n hx hb dX2_lookAt_86 rfl (lv_at hl 1 rfl) ?_
        refine x_get (j := 4) (v := .ref (G.2.1 (x0 + 12))) hx hb hts hi2 hown hK hP hk0 rfl (by decide) (hts (.fieldLink RX2 36 "LeaseOffice$Office" "blame" "LLeaseOffice$Blame;") (by decide +kernel)) rfl (by decide) dX2_lookAt_87 ?_
        refine lv_aload_n hx hb dX2_lookAt_90 rfl (lv_at hl 1 rfl) ?_
        refine x_get (j := 4) (v := .ref (G.2.1 (x0 + 12))) hx hb hts hi2 hown hK hP hk0 rfl (by decide) (hts (.fieldLink RX2 36 "LeaseOffice$Office" "blame" "LLeaseOffice$Blame;") (by decide +kernel)) rfl (by decide) dX2_lookAt_91 ?_
        refine lv_iload hx hb dX2_lookAt_94 (lv_at hl 4 rfl) ?_
        obtain ⟨q13, hq13, hf⟩ := zb_e hf
        refine x_calli (x_runV (As := [.int y5]) (rest := [.ref (G.2.1 (x0 + 12)), .ref (G.2.1 (q12)), .int (M x0 8), .ref (G.2.1 (x0))]) ⟨hx, hb, hml, hown, hts⟩ (c_X0_personAt l G hG M J (x0 + 12) y5 (zk_2_4 hk0) hq13) (cwV 1 hts gX2_lookAt_X0_personAt rfl rfl rfl (by decide +kernel) ⟨Nat.le_of_ble_eq_true rfl, Nat.le_of_ble_eq_true rfl⟩) hK hP (zk_2_4 hk0) (by decide) rfl rfl hl.1 rfl (Nat.le_of_ble_eq_true rfl) dX2_lookAt_96 ⟨Nat.zero_le _, Nat.zero_le _⟩) hS (fun H locs hP hS => ?_)
        refine lv_iload hx hb dX2_lookAt_99 (lv_at hl 3 rfl) ?_
        obtain ⟨q14, hq14, hf⟩ := zb_e hf
        refine x_calli (x_runV (As := [.int q13, .int y4]) (rest := [.ref (G.2.1 (q12)), .int (M x0 8), .ref (G.2.1 (x0))]) ⟨hx, hb, hml, hown, hts⟩ (c_X0_shareOf l G hG M J (x0 + 12) q13 y4 (zk_2_4 hk0) hq14) (cwV 2 hts gX2_lookAt_X0_shareOf rfl rfl rfl (by decide +kernel) ⟨Nat.le_of_ble_eq_true rfl, Nat.le_of_ble_eq_true rfl⟩) hK hP (zk_2_4 hk0) (by decide) rfl rfl hl.1 rfl (Nat.le_of_ble_eq_true rfl) dX2_lookAt_101 ⟨Nat.zero_le _, Nat.zero_le _⟩) hS (fun H locs hP hS => ?_)
        obtain ⟨q15, hq15, hf⟩ := zb_e hf
        refine x_calli (x_runV (As := [.int q14]) (rest := [.int (M x0 8), .ref (G.2.1 (x0))]) ⟨hx, hb, hml, hown, hts⟩ (c_X3_payOrOwe l G hG M J q12 q14 (kd_X2_personAt hk0 hq12) hq15) (cwV 1 hts gX2_lookAt_X3_payOrOwe rfl rfl rfl (by decide +kernel) ⟨Nat.le_of_ble_eq_true rfl, Nat.le_of_ble_eq_true rfl⟩) hK hP (kd_X2_personAt hk0 hq12) (by decide) rfl rfl hl.1 rfl (Nat.le_of_ble_eq_true rfl) dX2_lookAt_104 ⟨Nat.zero_le _, Nat.zero_le _⟩) hS (fun H locs hP hS => ?_)
        refine lv_iadd hx hb dX2_lookAt_107 ?_
        obtain ⟨M16, eM16, hf⟩ := zlet_e hf
        refine x_put (j := 8) (I2 := M16) (J2 := J) (ty0 := tyX2) (ty := .int) hx hb hts hi2 hown hG hK hP hS hk0 rfl tyX2_ok nmX2 (by decide) (hts (.fieldLink RX2 50 "LeaseOffice$Office" "till" "I") (by decide +kernel)) rfl (by decide +kernel) rfl rfl (Nat.le_of_ble_eq_true rfl) (by rw [eM16]; exact zs_2_8 _) (by rw [eM16]; exact zo_C) (by decide) dX2_lookAt_108 (fun H locs hP hS => ?_)
        refine lv_aload hx hb dX2_lookAt_111 (lv_at hl 0 rfl) ?_
        refine lv_iload_n hx hb dX2_lookAt_113 rfl (lv_at hl 2 rfl) ?_
        obtain ⟨q17, hq17, hf⟩ := zb_e hf
        refine x_callv (x_runV (As := [.int y3]) (rest := []) ⟨hx, hb, hml, hown, hts⟩ (c_X3_loseTrust l G hG M16 J q12 y3 (kd_X2_personAt hk0 hq12) hq17) (cwV 1 hts gX2_lookAt_X3_loseTrust rfl rfl rfl (by decide +kernel) ⟨Nat.le_of_ble_eq_true rfl, Nat.le_of_ble_eq_true rfl⟩) hK hP (kd_X2_personAt hk0 hq12) (by decide) rfl rfl hl.1 rfl (Nat.le_of_ble_eq_true rfl) dX2_lookAt_114 ⟨Nat.zero_le _, Nat.zero_le _⟩) hS (fun H locs hP hS => ?_)
        refine lv_iinc (v := (y5 + 1)) (lv' := [(5, .int (y5 + 1)), (6, .ref (G.2.1 (q12))), (0, .ref (G.2.1 (x0))), (3, .int y3), (4, .int y4)]) hx hb dX2_lookAt_117 hl (k := 4) rfl rfl (by decide) rfl (fun ls hl => ?_)
        refine lv_goto (tgt := 52) hx hb dX2_lookAt_120 (by decide) ?_
        exact ih q17 (y5 + 1) H locs ls hf hP hS (lv_sub hl [2, 3, 4, 0] rfl)
  unfold f_X2_lookAt at hf
  refine lv_aload_n hx hb dX2_lookAt_0 rfl (lv_at hl 0 rfl) ?_
  refine lv_iload_n hx hb dX2_lookAt_1 rfl (lv_at hl 1 rfl) ?_
  obtain ⟨q1, hq1, hf⟩ := zb_e hf
  refine x_calli (x_runV (As := [.int x1]) (rest := []) ⟨hx, hb, hml, hown, hts⟩ (c_X2_isTool l G hG I J x0 x1 hk0 hq1) (cwV 1 hts gX2_lookAt_X2_isTool rfl rfl rfl (by decide +kernel) ⟨Nat.le_of_ble_eq_true rfl, Nat.le_of_ble_eq_true rfl⟩) hK hP hk0 (by decide) rfl rfl hl.1 rfl (Nat.le_of_ble_eq_true rfl) dX2_lookAt_2 ⟨Nat.zero_le _, Nat.zero_le _⟩) hS (fun H locs hP hS => ?_)
  refine lv_if_ne (tgt := 10) hx hb dX2_lookAt_5 (by decide) (fun c2 => ?_) (fun c2 => ?_)
  · have hf := zif_f c2 hf
    refine lv_aload_n hx hb dX2_lookAt_10 rfl (lv_at hl 0 rfl) ?_
    refine lv_iload_n hx hb dX2_lookAt_11 rfl (lv_at hl 1 rfl) ?_
    obtain ⟨q3, hq3, hf⟩ := zb_e hf
    refine x_callr (x_runV (As := [.int x1]) (rest := []) ⟨hx, hb, hml, hown, hts⟩ (c_X2_toolAt l G hG I J x0 x1 hk0 hq3) (cwV 1 hts gX2_lookAt_X2_toolAt rfl rfl rfl (by decide +kernel) ⟨Nat.le_of_ble_eq_true rfl, Nat.le_of_ble_eq_true rfl⟩) hK hP hk0 (by decide) rfl rfl hl.1 rfl (Nat.le_of_ble_eq_true rfl) dX2_lookAt_12 ⟨Nat.zero_le _, Nat.zero_le _⟩) hS (fun H locs hP hS => ?_)
    refine lv_astore_n (lv' := [(2, .ref (G.2.1 (q3))), (0, .ref (G.2.1 (x0))), (1, .int x1)]) hx hb dX2_lookAt_15 rfl hl (by decide) rfl (fun ls hl => ?_)
    refine lv_aload_n hx hb dX2_lookAt_16 rfl (lv_at hl 0 rfl) ?_
    obtain ⟨q4, hq4, hf⟩ := zb_e hf
    refine x_calli (x_runV (As := []) (rest := []) ⟨hx, hb, hml, hown, hts⟩ (c_X7_wearSinceLook l G hG I J q3 (kd_X2_toolAt hk0 hq3) hq4) (cwV 0 hts gX2_lookAt_X7_wearSinceLook rfl rfl rfl (by decide +kernel) ⟨Nat.le_of_ble_eq_true rfl, Nat.le_of_ble_eq_true rfl⟩) hK hP (kd_X2_toolAt hk0 hq3) (by decide) rfl rfl hl.1 rfl (Nat.le_of_ble_eq_true rfl) dX2_lookAt_17 ⟨Nat.zero_le _, Nat.zero_le _⟩) hS (fun H locs hP hS => ?_)
    refine lv_istore_n (lv' := [(3, .int q4), (2, .ref (G.2.1 (q3))), (0, .ref (G.2.1 (x0))), (1, .int x1)]) hx hb dX2_lookAt_20 rfl hl (by decide) rfl (fun ls hl => ?_)
    refine lv_aload_n hx hb dX2_lookAt_21 rfl (lv_at hl 1 rfl) ?_
    obtain ⟨q5, hq5, hf⟩ := zb_e hf
    refine x_calli (x_runV (As := []) (rest := []) ⟨hx, hb, hml, hown, hts⟩ (c_X7_cost l G hG I J q3 (kd_X2_toolAt hk0 hq3) hq5) (cwV 0 hts gX2_lookAt_X7_cost rfl rfl rfl (by decide +kernel) ⟨Nat.le_of_ble_eq_true rfl, Nat.le_of_ble_eq_true rfl⟩) hK hP (kd_X2_toolAt hk0 hq3) (by decide) rfl rfl hl.1 rfl (Nat.le_of_ble_eq_true rfl) dX2_lookAt_22 ⟨Nat.zero_le _, Nat.zero_le _⟩) hS (fun H locs hP hS => ?_)
    refine lv_istore (lv' := [(4, .int q5), (3, .int q4), (2, .ref (G.2.1 (q3))), (0, .ref (G.2.1 (x0))), (1, .int x1)]) hx hb dX2_lookAt_25 hl (by decide) rfl (fun ls hl => ?_)
    refine lv_aload_n hx hb dX2_lookAt_27 rfl (lv_at hl 3 rfl) ?_
    refine x_get (j := 4) (v := .ref (G.2.1 (x0 + 12))) hx hb hts hi2 hown hK hP hk0 rfl (by decide) (hts (.fieldLink RX2 36 "LeaseOffice$Office" "blame" "LLeaseOffice$Blame;") (by decide +kernel)) rfl (by decide) dX2_lookAt_28 ?_
    refine lv_aload_n hx hb dX2_lookAt_31 rfl (lv_at hl 2 rfl) ?_
    obtain ⟨q6, hq6, hf⟩ := zb_e hf
    refine x_callv (x_runV (As := [.ref (G.2.1 (q3))]) (rest := []) ⟨hx, hb, hml, hown, hts⟩ (c_X0_findFor l G hG I J (x0 + 12) q3 (zk_2_4 hk0) (kd_X2_toolAt hk0 hq3) hq6) (cwV 1 hts gX2_lookAt_X0_findFor rfl rfl rfl (by decide +kernel) ⟨Nat.le_of_ble_eq_true rfl, Nat.le_of_ble_eq_true rfl⟩) hK hP (zk_2_4 hk0) (by decide) rfl rfl hl.1 rfl (Nat.le_of_ble_eq_true rfl) dX2_lookAt_32 ⟨Nat.zero_le _, Nat.zero_le _⟩) hS (fun H locs hP hS => ?_)
    refine lv_aload_n hx hb dX2_lookAt_35 rfl (lv_at hl 2 rfl) ?_
    refine lv_aload_n hx hb dX2_lookAt_36 rfl (lv_at hl 3 rfl) ?_
    refine x_get (j := 7) (v := .int (q6 x0 7)) hx hb hts hi2 hown hK hP hk0 rfl (by decide) (hts (.fieldLink RX2 47 "LeaseOffice$Office" "day" "I") (by decide +kernel)) rfl (by decide) dX2_lookAt_37 ?_
    obtain ⟨q7, hq7, hf⟩ := zb_e hf
    refine x_callv (x_runV (As := [.int (q6 x0 7)]) (rest := []) ⟨hx, hb, hml, hown, hts⟩ (c_X7_noteLook l G hG q6 J q3 (q6 x0 7) (kd_X2_toolAt hk0 hq3) hq7) (cwV 1 hts gX2_lookAt_X7_noteLook rfl rfl rfl (by decide +kernel) ⟨Nat.le_of_ble_eq_true rfl, Nat.le_of_ble_eq_true rfl⟩) hK hP (kd_X2_toolAt hk0 hq3) (by decide) rfl rfl hl.1 rfl (Nat.le_of_ble_eq_true rfl) dX2_lookAt_40 ⟨Nat.zero_le _, Nat.zero_le _⟩) hS (fun H locs hP hS => ?_)
    refine lv_iload_n hx hb dX2_lookAt_43 rfl (lv_at hl 1 rfl) ?_
    refine lv_if_gt (tgt := 49) hx hb dX2_lookAt_44 (by decide) (fun c8 => ?_) (fun c8 => ?_)
    · have hf := zif_t c8 hf
      refine lv_iconst (v := 0) hx hb dX2_lookAt_49 (by decide) ?_
      refine lv_istore (lv' := [(5, .int 0), (4, .int q5), (3, .int q4), (2, .ref (G.2.1 (q3))), (0, .ref (G.2.1 (x0))), (1, .int x1)]) hx hb dX2_lookAt_50 hl (by decide) rfl (fun ls hl => ?_)
      refine L52 q4 q5 _ (fun M18 H locs ls hf hP hS hl => ?_) zFu q7 0 H locs ls hf hP hS (lv_sub hl [4, 2, 1, 0] rfl)
      refine lv_aload_n hx hb dX2_lookAt_123 rfl (lv_at hl 0 rfl) ?_
      refine x_get (j := 4) (v := .ref (G.2.1 (x0 + 12))) hx hb hts hi2 hown hK hP hk0 rfl (by decide) (hts (.fieldLink RX2 36 "LeaseOffice$Office" "blame" "LLeaseOffice$Blame;") (by decide +kernel)) rfl (by decide) dX2_lookAt_124 ?_
      obtain ⟨q19, hq19, hf⟩ := zb_e hf
      refine x_calli (x_runV (As := []) (rest := []) ⟨hx, hb, hml, hown, hts⟩ (c_X0_size l G hG M18 J (x0 + 12) (zk_2_4 hk0) hq19) (cwV 0 hts gX2_lookAt_X0_size rfl rfl rfl (by decide +kernel) ⟨Nat.le_of_ble_eq_true rfl, Nat.le_of_ble_eq_true rfl⟩) hK hP (zk_2_4 hk0) (by decide) rfl rfl hl.1 rfl (Nat.le_of_ble_eq_true rfl) dX2_lookAt_127 ⟨Nat.zero_le _, Nat.zero_le _⟩) hS (fun H locs hP hS => ?_)
      obtain rfl := Option.some.inj hf
      exact x_iret hx hb hr hlocks hK hP hS dX2_lookAt_130
    · have hf := zif_f c8 hf
      refine lv_iconst (v := 0) hx hb dX2_lookAt_47 (by decide) ?_
      obtain rfl := Option.some.inj hf
      exact x_iret hx hb hr hlocks hK hP hS dX2_lookAt_48
  · have hf := zif_t c2 hf
    refine lv_iconst (v := (-1)) hx hb dX2_lookAt_8 (by decide) ?_
    obtain rfl := Option.some.inj hf
    exact x_iret hx hb hr hlocks hK hP hS dX2_lookAt_9
set_option maxRecDepth 100000 in
set_option maxHeartbeats 4000000 in
theorem c_X7_daysLateOn (l : Launch) (G : zGT) (hG : zOK G) (I J : zM) (x0 : Nat) (x1 : Int32) (hk0 : zK x0 = 7) {r : Int32} (hf : f_X7_daysLateOn I x0 x1 = some r) : Met l yX7_daysLateOn wsX7_daysLateOn (zrm 1 21) (va_Pc [.ref (G.2.1 (x0)), .int x1] (zS G I J)) (zQi G r I J) 0 0 (zA G) := by
  refine zMet (cc := cX7_daysLateOn) (n := 2) (ret := (some .int)) (by decide) rfl (Nat.le_of_ble_eq_true rfl) ?_
  intro p e s m args below meth c H locs ls F hK hP hS hl
  obtain ⟨hx, hb, hr, hml, hts, hown, hlocks⟩ := F
  have hown : s.vm.findClass RX7 = some m.cls := hown
  have hl : lv_has ls 2 [(0, .ref (G.2.1 (x0))), (1, .int x1)] := hl
  have hi7 : ∀ w ∈ wsX70, w ∈ wsX7_daysLateOn := fun _ h => List.mem_cons_of_mem _ (List.mem_append_right _ h)
  unfold f_X7_daysLateOn at hf
  refine lv_aload_n hx hb dX7_daysLateOn_0 rfl (lv_at hl 0 rfl) ?_
  obtain ⟨q1, hq1, hf⟩ := zb_e hf
  refine x_calli (x_runV (As := []) (rest := []) ⟨hx, hb, hml, hown, hts⟩ (c_X7_isLeased l G hG I J x0 hk0 hq1) (cwV 0 hts gX7_daysLateOn_X7_isLeased rfl rfl rfl (by decide +kernel) ⟨Nat.le_of_ble_eq_true rfl, Nat.le_of_ble_eq_true rfl⟩) hK hP hk0 (by decide) rfl rfl hl.1 rfl (Nat.le_of_ble_eq_true rfl) dX7_daysLateOn_1 ⟨Nat.zero_le _, Nat.zero_le _⟩) hS (fun H locs hP hS => ?_)
  refine lv_if_eq (tgt := 20) hx hb dX7_daysLateOn_4 (by decide) (fun c2 => ?_) (fun c2 => ?_)
  · have hf := zif_t c2 hf
    refine lv_iconst (v := 0) hx hb dX7_daysLateOn_20 (by decide) ?_
    obtain rfl := Option.some.inj hf
    exact x_iret hx hb hr hlocks hK hP hS dX7_daysLateOn_21
  · have hf := zif_f c2 hf
    refine lv_iload_n hx hb dX7_daysLateOn_7 rfl (lv_at hl 1 rfl) ?_
    refine lv_aload_n hx hb dX7_daysLateOn_8 rfl (lv_at hl 0 rfl) ?_
    refine x_get (j := 4) (v := .int (I x0 4)) hx hb hts hi7 hown hK hP hk0 rfl (by decide) (hts (.fieldLink RX7 52 "LeaseOffice$Tool" "due" "I") (by decide +kernel)) rfl (by decide) dX7_daysLateOn_9 ?_
    refine lv_isub hx hb dX7_daysLateOn_12 ?_
    refine lv_iconst (v := 0) hx hb dX7_daysLateOn_13 (by decide) ?_
    obtain ⟨w3, ew3, hf⟩ := zlet_e hf
    refine va_mmax hx hb (hml.trans hl.1.symm) hown (hts (.methodLink RX7 80 Lib.Math.max.name) (by decide +kernel)) (hts (.static Lib.Math.max.name) (by decide +kernel)) (hts (.initialized "java/lang/Math") (by decide +kernel)) (hts (.code Lib.Math.max.name Lib.Math.max.code 2 (some .int)) (by decide +kernel)) (Nat.le_of_ble_eq_true rfl) (Nat.le_of_ble_eq_true rfl) (Nat.zero_le _) (Nat.zero_le _) dX7_daysLateOn_14 ?_
    refine z_topi ew3 ?_
    refine lv_goto (tgt := 21) hx hb dX7_daysLateOn_17 (by decide) ?_
    obtain rfl := Option.some.inj hf
    exact x_iret hx hb hr hlocks hK hP hS dX7_daysLateOn_21
set_option maxRecDepth 100000 in
set_option maxHeartbeats 4000000 in
theorem c_X7_feeOn (l : Launch) (G : zGT) (hG : zOK G) (I J : zM) (x0 : Nat) (x1 : Int32) (hk0 : zK x0 = 7) {r : Int32} (hf : f_X7_feeOn I x0 x1 = some r) : Met l yX7_feeOn wsX7_feeOn (zrm 2 42) (va_Pc [.ref (G.2.1 (x0)), .int x1] (zS G I J)) (zQi G r I J) 0 0 (zA G) := by
  refine zMet (cc := cX7_feeOn) (n := 2) (ret := (some .int)) (by decide) rfl (Nat.le_of_ble_eq_true rfl) ?_
  intro p e s m args below meth c H locs ls F hK hP hS hl
  obtain ⟨hx, hb, hr, hml, hts, hown, hlocks⟩ := F
  have hown : s.vm.findClass RX7 = some m.cls := hown
  have hl : lv_has ls 2 [(0, .ref (G.2.1 (x0))), (1, .int x1)] := hl
  have hi7 : ∀ w ∈ wsX70, w ∈ wsX7_feeOn := fun _ h => List.mem_cons_of_mem _ (List.mem_append_right _ h)
  unfold f_X7_feeOn at hf
  refine lv_aload_n hx hb dX7_feeOn_0 rfl (lv_at hl 0 rfl) ?_
  refine lv_iload_n hx hb dX7_feeOn_1 rfl (lv_at hl 1 rfl) ?_
  obtain ⟨q1, hq1, hf⟩ := zb_e hf
  refine x_calli (x_runV (As := [.int x1]) (rest := []) ⟨hx, hb, hml, hown, hts⟩ (c_X7_daysLateOn l G hG I J x0 x1 hk0 hq1) (cwV 1 hts gX7_feeOn_X7_daysLateOn rfl rfl rfl (by decide +kernel) ⟨Nat.le_of_ble_eq_true rfl, Nat.le_of_ble_eq_true rfl⟩) hK hP hk0 (by decide) rfl rfl hl.1 rfl (Nat.le_of_ble_eq_true rfl) dX7_feeOn_2 ⟨Nat.zero_le _, Nat.zero_le _⟩) hS (fun H locs hP hS => ?_)
  refine lv_iconst (v := 1) hx hb dX7_feeOn_5 (by decide) ?_
  refine lv_aload_n hx hb dX7_feeOn_6 rfl (lv_at hl 0 rfl) ?_
  refine x_get (j := 0) (v := .int (I x0 0)) hx hb hts hi7 hown hK hP hk0 rfl (by decide) (hts (.fieldLink RX7 26 "LeaseOffice$Tool" "worth" "I") (by decide +kernel)) rfl (by decide) dX7_feeOn_7 ?_
  refine lv_bipush (v := 10) hx hb dX7_feeOn_10 (by decide) ?_
  refine lv_idiv hx hb dX7_feeOn_12 (by decide) ?_
  refine lv_iadd hx hb dX7_feeOn_13 ?_
  refine lv_imul hx hb dX7_feeOn_14 ?_
  refine lv_aload_n hx hb dX7_feeOn_15 rfl (lv_at hl 0 rfl) ?_
  refine x_get (j := 5) (v := .int (I x0 5)) hx hb hts hi7 hown hK hP hk0 rfl (by decide) (hts (.fieldLink RX7 55 "LeaseOffice$Tool" "deposit" "I") (by decide +kernel)) rfl (by decide) dX7_feeOn_16 ?_
  obtain ⟨w2, ew2, hf⟩ := zlet_e hf
  refine va_mmin hx hb (hml.trans hl.1.symm) hown (hts (.methodLink RX7 89 Lib.Math.min.name) (by decide +kernel)) (hts (.static Lib.Math.min.name) (by decide +kernel)) (hts (.initialized "java/lang/Math") (by decide +kernel)) (hts (.code Lib.Math.min.name Lib.Math.min.code 2 (some .int)) (by decide +kernel)) (Nat.le_of_ble_eq_true rfl) (Nat.le_of_ble_eq_true rfl) (Nat.zero_le _) (Nat.zero_le _) dX7_feeOn_19 ?_
  refine z_topi ew2 ?_
  obtain rfl := Option.some.inj hf
  exact x_iret hx hb hr hlocks hK hP hS dX7_feeOn_22
set_option maxRecDepth 100000 in
set_option maxHeartbeats 4000000 in
theorem c_X3_gainTrust (l : Launch) (G : zGT) (hG : zOK G) (I J : zM) (x0 : Nat) (x1 : Int32) (hk0 : zK x0 = 3) {r : zM} (hf : f_X3_gainTrust I x0 x1 = some r) : Met l yX3_gainTrust wsX3_gainTrust (zrm 1 21) (va_Pc [.ref (G.2.1 (x0)), .int x1] (zS G I J)) (zQv G r J) 0 0 (zA G) := by
  refine zMet (cc := cX3_gainTrust) (n := 2) (ret := none) (by decide) rfl (Nat.le_of_ble_eq_true rfl) ?_
  intro p e s m args below meth c H locs ls F hK hP hS hl
  obtain ⟨hx, hb, hr, hml, hts, hown, hlocks⟩ := F
  have hown : s.vm.findClass RX3 = some m.cls := hown
  have hl : lv_has ls 2 [(0, .ref (G.2.1 (x0))), (1, .int x1)] := hl
  have hi3 : ∀ w ∈ wsX30, w ∈ wsX3_gainTrust := fun _ h => List.mem_cons_of_mem _ (List.mem_append_right _ h)
  unfold f_X3_gainTrust at hf
  refine lv_aload_n hx hb dX3_gainTrust_0 rfl (lv_at hl 0 rfl) ?_
  refine lv_aload_n hx hb dX3_gainTrust_1 rfl (lv_at hl 0 rfl) ?_
  refine x_get (j := 2) (v := .int (I x0 2)) hx hb hts hi3 hown hK hP hk0 rfl (by decide) (hts (.fieldLink RX3 22 "LeaseOffice$Person" "trust" "I") (by decide +kernel)) rfl (by decide) dX3_gainTrust_2 ?_
  refine lv_iload_n hx hb dX3_gainTrust_5 rfl (lv_at hl 1 rfl) ?_
  refine lv_iadd hx hb dX3_gainTrust_6 ?_
  refine lv_bipush (v := 99) hx hb dX3_gainTrust_7 (by decide) ?_
  obtain ⟨w1, ew1, hf⟩ := zlet_e hf
  refine va_mmin hx hb (hml.trans hl.1.symm) hown (hts (.methodLink RX3 35 Lib.Math.min.name) (by decide +kernel)) (hts (.static Lib.Math.min.name) (by decide +kernel)) (hts (.initialized "java/lang/Math") (by decide +kernel)) (hts (.code Lib.Math.min.name Lib.Math.min.code 2 (some .int)) (by decide +kernel)) (Nat.le_of_ble_eq_true rfl) (Nat.le_of_ble_eq_true rfl) (Nat.zero_le _) (Nat.zero_le _) dX3_gainTrust_9 ?_
  refine z_topi ew1 ?_
  obtain ⟨M2, eM2, hf⟩ := zlet_e hf
  refine x_put (j := 2) (I2 := M2) (J2 := J) (ty0 := tyX3) (ty := .int) hx hb hts hi3 hown hG hK hP hS hk0 rfl tyX3_ok nmX3 (by decide) (hts (.fieldLink RX3 22 "LeaseOffice$Person" "trust" "I") (by decide +kernel)) rfl (by decide +kernel) rfl rfl (Nat.le_of_ble_eq_true rfl) (by rw [eM2]; exact zs_3_2 _) (by rw [eM2]; exact zo_C) (by decide) dX3_gainTrust_12 (fun H locs hP hS => ?_)
  obtain rfl := Option.some.inj hf
  exact x_vret hx hb hr hlocks hK hP hS dX3_gainTrust_15
set_option maxRecDepth 100000 in
set_option maxHeartbeats 4000000 in
theorem c_X2_handOut (l : Launch) (G : zGT) (hG : zOK G) (I J : zM) (x0 : Nat) (x1 : Nat) (x2 : Int32) (x3 : Int32) (hk0 : zK x0 = 2) (hk1 : zK x1 = 7) {r : zM} (hf : f_X2_handOut I x0 x1 x2 x3 = some r) : Met l yX2_handOut wsX2_handOut (zrm 2 47) (va_Pc [.ref (G.2.1 (x0)), .ref (G.2.1 (x1)), .int x2, .int x3] (zS G I J)) (zQv G r J) 0 0 (zA G) := by
  refine zMet (cc := cX2_handOut) (n := 4) (ret := none) (by decide) rfl (Nat.le_of_ble_eq_true rfl) ?_
  intro p e s m args below meth c H locs ls F hK hP hS hl
  obtain ⟨hx, hb, hr, hml, hts, hown, hlocks⟩ := F
  have hown : s.vm.findClass RX2 = some m.cls := hown
  have hl : lv_has ls 4 [(0, .ref (G.2.1 (x0))), (1, .ref (G.2.1 (x1))), (2, .int x2), (3, .int x3)] := hl
  have hi2 : ∀ w ∈ wsX20, w ∈ wsX2_handOut := fun _ h => List.mem_cons_of_mem _ (List.mem_append_left _ (List.mem_append_right _ h))
  have hi3 : ∀ w ∈ wsX30, w ∈ wsX2_handOut := fun _ h => List.mem_cons_of_mem _ (List.mem_append_left _ (List.mem_append_left _ (List.mem_append_left _ (List.mem_append_right _ h))))
  have hi7 : ∀ w ∈ wsX70, w ∈ wsX2_handOut := fun _ h => List.mem_cons_of_mem _ (List.mem_append_left _ (List.mem_append_left _ (List.mem_append_right _ h)))
  unfold f_X2_handOut at hf
  refine lv_aload_n hx hb dX2_handOut_0 rfl (lv_at hl 0 rfl) ?_
  refine lv_iload_n hx hb dX2_handOut_1 rfl (lv_at hl 2 rfl) ?_
  obtain ⟨q1, hq1, hf⟩ := zb_e hf
  refine x_callr (x_runV (As := [.int x2]) (rest := []) ⟨hx, hb, hml, hown, hts⟩ (c_X2_personAt l G hG I J x0 x2 hk0 hq1) (cwV 1 hts gX2_handOut_X2_personAt rfl rfl rfl (by decide +kernel) ⟨Nat.le_of_ble_eq_true rfl, Nat.le_of_ble_eq_true rfl⟩) hK hP hk0 (by decide) rfl rfl hl.1 rfl (Nat.le_of_ble_eq_true rfl) dX2_handOut_2 ⟨Nat.zero_le _, Nat.zero_le _⟩) hS (fun H locs hP hS => ?_)
  refine lv_dup hx hb dX2_handOut_5 rfl ?_
  refine x_get (j := 1) (v := .int (I q1 1)) hx hb hts hi3 hown hK hP (kd_X2_personAt hk0 hq1) rfl (by decide) (hts (.fieldLink RX2 108 "LeaseOffice$Person" "purse" "I") (by decide +kernel)) rfl (by decide) dX2_handOut_6 ?_
  refine lv_aload_n hx hb dX2_handOut_9 rfl (lv_at hl 1 rfl) ?_
  refine x_get (j := 0) (v := .int (I x1 0)) hx hb hts hi7 hown hK hP hk1 rfl (by decide) (hts (.fieldLink RX2 134 "LeaseOffice$Tool" "worth" "I") (by decide +kernel)) rfl (by decide) dX2_handOut_10 ?_
  refine lv_isub hx hb dX2_handOut_13 ?_
  obtain ⟨M2, eM2, hf⟩ := zlet_e hf
  refine x_put (j := 1) (I2 := M2) (J2 := J) (ty0 := tyX3) (ty := .int) hx hb hts hi3 hown hG hK hP hS (kd_X2_personAt hk0 hq1) rfl tyX3_ok nmX3 (by decide) (hts (.fieldLink RX2 108 "LeaseOffice$Person" "purse" "I") (by decide +kernel)) rfl (by decide +kernel) rfl rfl (Nat.le_of_ble_eq_true rfl) (by rw [eM2]; exact zs_3_1 _) (by rw [eM2]; exact zo_C) (by decide) dX2_handOut_14 (fun H locs hP hS => ?_)
  refine lv_aload_n hx hb dX2_handOut_17 rfl (lv_at hl 1 rfl) ?_
  refine lv_aload_n hx hb dX2_handOut_18 rfl (lv_at hl 1 rfl) ?_
  refine x_get (j := 0) (v := .int (M2 x1 0)) hx hb hts hi7 hown hK hP hk1 rfl (by decide) (hts (.fieldLink RX2 134 "LeaseOffice$Tool" "worth" "I") (by decide +kernel)) rfl (by decide) dX2_handOut_19 ?_
  obtain ⟨M3, eM3, hf⟩ := zlet_e hf
  refine x_put (j := 5) (I2 := M3) (J2 := J) (ty0 := tyX7) (ty := .int) hx hb hts hi7 hown hG hK hP hS hk1 rfl tyX7_ok nmX7 (by decide) (hts (.fieldLink RX2 144 "LeaseOffice$Tool" "deposit" "I") (by decide +kernel)) rfl (by decide +kernel) rfl rfl (Nat.le_of_ble_eq_true rfl) (by rw [eM3]; exact zs_7_5 _) (by rw [eM3]; exact zo_C) (by decide) dX2_handOut_22 (fun H locs hP hS => ?_)
  refine lv_aload_n hx hb dX2_handOut_25 rfl (lv_at hl 1 rfl) ?_
  refine lv_aload_n hx hb dX2_handOut_26 rfl (lv_at hl 0 rfl) ?_
  refine x_get (j := 7) (v := .int (M3 x0 7)) hx hb hts hi2 hown hK hP hk0 rfl (by decide) (hts (.fieldLink RX2 47 "LeaseOffice$Office" "day" "I") (by decide +kernel)) rfl (by decide) dX2_handOut_27 ?_
  refine lv_iload_n hx hb dX2_handOut_30 rfl (lv_at hl 3 rfl) ?_
  refine lv_iadd hx hb dX2_handOut_31 ?_
  obtain ⟨M4, eM4, hf⟩ := zlet_e hf
  refine x_put (j := 4) (I2 := M4) (J2 := J) (ty0 := tyX7) (ty := .int) hx hb hts hi7 hown hG hK hP hS hk1 rfl tyX7_ok nmX7 (by decide) (hts (.fieldLink RX2 141 "LeaseOffice$Tool" "due" "I") (by decide +kernel)) rfl (by decide +kernel) rfl rfl (Nat.le_of_ble_eq_true rfl) (by rw [eM4]; exact zs_7_4 _) (by rw [eM4]; exact zo_C) (by decide) dX2_handOut_32 (fun H locs hP hS => ?_)
  refine lv_aload_n hx hb dX2_handOut_35 rfl (lv_at hl 1 rfl) ?_
  refine lv_iload_n hx hb dX2_handOut_36 rfl (lv_at hl 2 rfl) ?_
  refine lv_aload_n hx hb dX2_handOut_37 rfl (lv_at hl 0 rfl) ?_
  refine x_get (j := 7) (v := .int (M4 x0 7)) hx hb hts hi2 hown hK hP hk0 rfl (by decide) (hts (.fieldLink RX2 47 "LeaseOffice$Office" "day" "I") (by decide +kernel)) rfl (by decide) dX2_handOut_38 ?_
  obtain ⟨q5, hq5, hf⟩ := zb_e hf
  refine x_callv (x_runV (As := [.int x2, .int (M4 x0 7)]) (rest := []) ⟨hx, hb, hml, hown, hts⟩ (c_X7_goTo l G hG M4 J x1 x2 (M4 x0 7) hk1 hq5) (cwV 2 hts gX2_handOut_X7_goTo rfl rfl rfl (by decide +kernel) ⟨Nat.le_of_ble_eq_true rfl, Nat.le_of_ble_eq_true rfl⟩) hK hP hk1 (by decide) rfl rfl hl.1 rfl (Nat.le_of_ble_eq_true rfl) dX2_handOut_41 ⟨Nat.zero_le _, Nat.zero_le _⟩) hS (fun H locs hP hS => ?_)
  obtain rfl := Option.some.inj hf
  exact x_vret hx hb hr hlocks hK hP hS dX2_handOut_44
set_option maxRecDepth 100000 in
set_option maxHeartbeats 4000000 in
theorem c_X2_offer (l : Launch) (G : zGT) (hG : zOK G) (I J : zM) (x0 : Nat) (x1 : Nat) (hk0 : zK x0 = 2) (hk1 : zK x1 = 7) {r : zM} (hf : f_X2_offer I x0 x1 = some r) : Met l yX2_offer wsX2_offer (zrm 3 70) (va_Pc [.ref (G.2.1 (x0)), .ref (G.2.1 (x1))] (zS G I J)) (zQv G r J) 0 0 (zA G) := by
  refine zMet (cc := cX2_offer) (n := 5) (ret := none) (by decide) rfl (Nat.le_of_ble_eq_true rfl) ?_
  intro p e s m args below meth c H locs ls F hK hP hS hl
  obtain ⟨hx, hb, hr, hml, hts, hown, hlocks⟩ := F
  have hown : s.vm.findClass RX2 = some m.cls := hown
  have hl : lv_has ls 5 [(0, .ref (G.2.1 (x0))), (1, .ref (G.2.1 (x1)))] := hl
  have hi7 : ∀ w ∈ wsX70, w ∈ wsX2_offer := fun _ h => List.mem_cons_of_mem _ (List.mem_append_left _ (List.mem_append_left _ (List.mem_append_left _ (List.mem_append_right _ h))))
  unfold f_X2_offer at hf
  refine lv_aload_n hx hb dX2_offer_0 rfl (lv_at hl 0 rfl) ?_
  refine lv_aload_n hx hb dX2_offer_1 rfl (lv_at hl 1 rfl) ?_
  obtain ⟨q1, hq1, hf⟩ := zb_e hf
  refine x_calli (x_runV (As := [.ref (G.2.1 (x1))]) (rest := []) ⟨hx, hb, hml, hown, hts⟩ (c_X2_claimServed l G hG I J x0 x1 hk0 hk1 hq1) (cwV 1 hts gX2_offer_X2_claimServed rfl rfl rfl (by decide +kernel) ⟨Nat.le_of_ble_eq_true rfl, Nat.le_of_ble_eq_true rfl⟩) hK hP hk0 (by decide) rfl rfl hl.1 rfl (Nat.le_of_ble_eq_true rfl) dX2_offer_2 ⟨Nat.zero_le _, Nat.zero_le _⟩) hS (fun H locs hP hS => ?_)
  refine lv_istore_n (lv' := [(2, .int q1), (0, .ref (G.2.1 (x0))), (1, .ref (G.2.1 (x1)))]) hx hb dX2_offer_5 rfl hl (by decide) rfl (fun ls hl => ?_)
  refine lv_iload_n hx hb dX2_offer_6 rfl (lv_at hl 0 rfl) ?_
  refine lv_if_lt (tgt := 47) hx hb dX2_offer_7 (by decide) (fun c2 => ?_) (fun c2 => ?_)
  · have hf := zif_t c2 hf
    obtain rfl := Option.some.inj hf
    exact x_vret hx hb hr hlocks hK hP hS dX2_offer_47
  · have hf := zif_f c2 hf
    refine lv_aload_n hx hb dX2_offer_10 rfl (lv_at hl 2 rfl) ?_
    refine x_get (j := 9) (v := .ref (G.2.1 (x1 + 5))) hx hb hts hi7 hown hK hP hk1 rfl (by decide) (hts (.fieldLink RX2 150 "LeaseOffice$Tool" "claims" "LLeaseOffice$Table;") (by decide +kernel)) rfl (by decide) dX2_offer_11 ?_
    refine lv_iload_n hx hb dX2_offer_14 rfl (lv_at hl 0 rfl) ?_
    refine lv_iconst (v := 0) hx hb dX2_offer_15 (by decide) ?_
    obtain ⟨q3, hq3, hf⟩ := zb_e hf
    refine x_calli (x_runV (As := [.int q1, .int 0]) (rest := []) ⟨hx, hb, hml, hown, hts⟩ (c_X4_cell l G hG I J (x1 + 5) q1 0 (zk_7_9 hk1) hq3) (cwV 2 hts gX2_offer_X4_cell rfl rfl rfl (by decide +kernel) ⟨Nat.le_of_ble_eq_true rfl, Nat.le_of_ble_eq_true rfl⟩) hK hP (zk_7_9 hk1) (by decide) rfl rfl hl.1 rfl (Nat.le_of_ble_eq_true rfl) dX2_offer_16 ⟨Nat.zero_le _, Nat.zero_le _⟩) hS (fun H locs hP hS => ?_)
    refine lv_istore_n (lv' := [(3, .int q3), (2, .int q1), (0, .ref (G.2.1 (x0))), (1, .ref (G.2.1 (x1)))]) hx hb dX2_offer_19 rfl hl (by decide) rfl (fun ls hl => ?_)
    refine lv_aload_n hx hb dX2_offer_20 rfl (lv_at hl 3 rfl) ?_
    refine x_get (j := 9) (v := .ref (G.2.1 (x1 + 5))) hx hb hts hi7 hown hK hP hk1 rfl (by decide) (hts (.fieldLink RX2 150 "LeaseOffice$Tool" "claims" "LLeaseOffice$Table;") (by decide +kernel)) rfl (by decide) dX2_offer_21 ?_
    refine lv_iload_n hx hb dX2_offer_24 rfl (lv_at hl 1 rfl) ?_
    refine lv_iconst (v := 2) hx hb dX2_offer_25 (by decide) ?_
    obtain ⟨q4, hq4, hf⟩ := zb_e hf
    refine x_calli (x_runV (As := [.int q1, .int 2]) (rest := []) ⟨hx, hb, hml, hown, hts⟩ (c_X4_cell l G hG I J (x1 + 5) q1 2 (zk_7_9 hk1) hq4) (cwV 2 hts gX2_offer_X4_cell rfl rfl rfl (by decide +kernel) ⟨Nat.le_of_ble_eq_true rfl, Nat.le_of_ble_eq_true rfl⟩) hK hP (zk_7_9 hk1) (by decide) rfl rfl hl.1 rfl (Nat.le_of_ble_eq_true rfl) dX2_offer_26 ⟨Nat.zero_le _, Nat.zero_le _⟩) hS (fun H locs hP hS => ?_)
    refine lv_istore (lv' := [(4, .int q4), (3, .int q3), (2, .int q1), (0, .ref (G.2.1 (x0))), (1, .ref (G.2.1 (x1)))]) hx hb dX2_offer_29 hl (by decide) rfl (fun ls hl => ?_)
    refine lv_aload_n hx hb dX2_offer_31 rfl (lv_at hl 4 rfl) ?_
    refine x_get (j := 9) (v := .ref (G.2.1 (x1 + 5))) hx hb hts hi7 hown hK hP hk1 rfl (by decide) (hts (.fieldLink RX2 150 "LeaseOffice$Tool" "claims" "LLeaseOffice$Table;") (by decide +kernel)) rfl (by decide) dX2_offer_32 ?_
    refine lv_iload_n hx hb dX2_offer_35 rfl (lv_at hl 2 rfl) ?_
    obtain ⟨q5, hq5, hf⟩ := zb_e hf
    refine x_callv (x_runV (As := [.int q1]) (rest := []) ⟨hx, hb, hml, hown, hts⟩ (c_X4_remove l G hG I J (x1 + 5) q1 (zk_7_9 hk1) hq5) (cwV 1 hts gX2_offer_X4_remove rfl rfl rfl (by decide +kernel) ⟨Nat.le_of_ble_eq_true rfl, Nat.le_of_ble_eq_true rfl⟩) hK hP (zk_7_9 hk1) (by decide) rfl rfl hl.1 rfl (Nat.le_of_ble_eq_true rfl) dX2_offer_36 ⟨Nat.zero_le _, Nat.zero_le _⟩) hS (fun H locs hP hS => ?_)
    refine lv_aload_n hx hb dX2_offer_39 rfl (lv_at hl 3 rfl) ?_
    refine lv_aload_n hx hb dX2_offer_40 rfl (lv_at hl 4 rfl) ?_
    refine lv_iload_n hx hb dX2_offer_41 rfl (lv_at hl 1 rfl) ?_
    refine lv_iload hx hb dX2_offer_42 (lv_at hl 0 rfl) ?_
    obtain ⟨q6, hq6, hf⟩ := zb_e hf
    refine x_callv (x_runV (As := [.ref (G.2.1 (x1)), .int q3, .int q4]) (rest := []) ⟨hx, hb, hml, hown, hts⟩ (c_X2_handOut l G hG q5 J x0 x1 q3 q4 hk0 hk1 hq6) (cwV 3 hts gX2_offer_X2_handOut rfl rfl rfl (by decide +kernel) ⟨Nat.le_of_ble_eq_true rfl, Nat.le_of_ble_eq_true rfl⟩) hK hP hk0 (by decide) rfl rfl hl.1 rfl (Nat.le_of_ble_eq_true rfl) dX2_offer_44 ⟨Nat.zero_le _, Nat.zero_le _⟩) hS (fun H locs hP hS => ?_)
    obtain rfl := Option.some.inj hf
    exact x_vret hx hb hr hlocks hK hP hS dX2_offer_47
set_option maxRecDepth 100000 in
set_option maxHeartbeats 4000000 in
theorem c_X2_giveBack (l : Launch) (G : zGT) (hG : zOK G) (I J : zM) (x0 : Nat) (x1 : Int32) (hk0 : zK x0 = 2) {r : Int32 × zM} (hf : f_X2_giveBack I x0 x1 = some r) : Met l yX2_giveBack wsX2_giveBack (zrm 4 96) (va_Pc [.ref (G.2.1 (x0)), .int x1] (zS G I J)) (zQi G r.1 r.2 J) 0 0 (zA G) := by
  refine zMet (cc := cX2_giveBack) (n := 5) (ret := (some .int)) (by decide) rfl (Nat.le_of_ble_eq_true rfl) ?_
  intro p e s m args below meth c H locs ls F hK hP hS hl
  obtain ⟨hx, hb, hr, hml, hts, hown, hlocks⟩ := F
  have hown : s.vm.findClass RX2 = some m.cls := hown
  have hl : lv_has ls 5 [(0, .ref (G.2.1 (x0))), (1, .int x1)] := hl
  have hi2 : ∀ w ∈ wsX20, w ∈ wsX2_giveBack := fun _ h => List.mem_cons_of_mem _ (List.mem_append_left _ (List.mem_append_left _ (List.mem_append_left _ (List.mem_append_right _ h))))
  have hi3 : ∀ w ∈ wsX30, w ∈ wsX2_giveBack := fun _ h => List.mem_cons_of_mem _ (List.mem_append_left _ (List.mem_append_left _ (List.mem_append_right _ h)))
  have hi7 : ∀ w ∈ wsX70, w ∈ wsX2_giveBack := fun _ h => List.mem_cons_of_mem _ (List.mem_append_left _ (List.mem_append_left _ (List.mem_append_left _ (List.mem_append_left _ (List.mem_append_right _ h)))))
  have J112 : ∀ (M : zM) (y2 : Nat) (y4 : Int32) (hy2 : zK y2 = 7) (H : Heap) (locs : List Loc) (ls : Array Slot), f_X2_giveBack_j112 M x0 y2 y4 = some r → va_P G.1 vwCl (zW G M J) H → va_S (zA G) s.heap H locs → lv_has ls 5 [(0, .ref (G.2.1 (x0))), (2, .ref (G.2.1 (y2))), (4, .int y4)] → W p l e (zrm 4 96) s m args below meth c H locs 0 0 (MQ below (zQi G r.1 r.2 J) args s 0 0 (zA G)) (F0 m 112 ls []) := by
    intro M y2 y4 hy2 H locs ls hf hP hS hl
    unfold f_X2_giveBack_j112 at hf
    refine lv_aload_n hx hb dX2_giveBack_112 rfl (lv_at hl 1 rfl) ?_
    refine lv_aload_n hx hb dX2_giveBack_113 rfl (lv_at hl 0 rfl) ?_
    refine x_get (j := 7) (v := .int (M x0 7)) hx hb hts hi2 hown hK hP hk0 rfl (by decide) (hts (.fieldLink RX2 47 "LeaseOffice$Office" "day" "I") (by decide +kernel)) rfl (by decide) dX2_giveBack_114 ?_
    obtain ⟨q14, hq14, hf⟩ := zb_e hf
    refine x_callv (x_runV (As := [.int (M x0 7)]) (rest := []) ⟨hx, hb, hml, hown, hts⟩ (c_X7_endLink l G hG M J y2 (M x0 7) hy2 hq14) (cwV 1 hts gX2_giveBack_X7_endLink rfl rfl rfl (by decide +kernel) ⟨Nat.le_of_ble_eq_true rfl, Nat.le_of_ble_eq_true rfl⟩) hK hP hy2 (by decide) rfl rfl hl.1 rfl (Nat.le_of_ble_eq_true rfl) dX2_giveBack_117 ⟨Nat.zero_le _, Nat.zero_le _⟩) hS (fun H locs hP hS => ?_)
    refine lv_aload_n hx hb dX2_giveBack_120 rfl (lv_at hl 1 rfl) ?_
    obtain ⟨q15, hq15, hf⟩ := zb_e hf
    refine x_callv (x_runV (As := []) (rest := []) ⟨hx, hb, hml, hown, hts⟩ (c_X7_stayAtOffice l G hG q14 J y2 hy2 hq15) (cwV 0 hts gX2_giveBack_X7_stayAtOffice rfl rfl rfl (by decide +kernel) ⟨Nat.le_of_ble_eq_true rfl, Nat.le_of_ble_eq_true rfl⟩) hK hP hy2 (by decide) rfl rfl hl.1 rfl (Nat.le_of_ble_eq_true rfl) dX2_giveBack_121 ⟨Nat.zero_le _, Nat.zero_le _⟩) hS (fun H locs hP hS => ?_)
    refine lv_aload_n hx hb dX2_giveBack_124 rfl (lv_at hl 0 rfl) ?_
    refine lv_aload_n hx hb dX2_giveBack_125 rfl (lv_at hl 1 rfl) ?_
    obtain ⟨q16, hq16, hf⟩ := zb_e hf
    refine x_callv (x_runV (As := [.ref (G.2.1 (y2))]) (rest := []) ⟨hx, hb, hml, hown, hts⟩ (c_X2_offer l G hG q15 J x0 y2 hk0 hy2 hq16) (cwV 1 hts gX2_giveBack_X2_offer rfl rfl rfl (by decide +kernel) ⟨Nat.le_of_ble_eq_true rfl, Nat.le_of_ble_eq_true rfl⟩) hK hP hk0 (by decide) rfl rfl hl.1 rfl (Nat.le_of_ble_eq_true rfl) dX2_giveBack_126 ⟨Nat.zero_le _, Nat.zero_le _⟩) hS (fun H locs hP hS => ?_)
    refine lv_iload hx hb dX2_giveBack_129 (lv_at hl 2 rfl) ?_
    obtain rfl := Option.some.inj hf
    exact x_iret hx hb hr hlocks hK hP hS dX2_giveBack_131
  unfold f_X2_giveBack at hf
  refine lv_aload_n hx hb dX2_giveBack_0 rfl (lv_at hl 0 rfl) ?_
  refine lv_iload_n hx hb dX2_giveBack_1 rfl (lv_at hl 1 rfl) ?_
  obtain ⟨q1, hq1, hf⟩ := zb_e hf
  refine x_calli (x_runV (As := [.int x1]) (rest := []) ⟨hx, hb, hml, hown, hts⟩ (c_X2_isTool l G hG I J x0 x1 hk0 hq1) (cwV 1 hts gX2_giveBack_X2_isTool rfl rfl rfl (by decide +kernel) ⟨Nat.le_of_ble_eq_true rfl, Nat.le_of_ble_eq_true rfl⟩) hK hP hk0 (by decide) rfl rfl hl.1 rfl (Nat.le_of_ble_eq_true rfl) dX2_giveBack_2 ⟨Nat.zero_le _, Nat.zero_le _⟩) hS (fun H locs hP hS => ?_)
  refine lv_if_ne (tgt := 10) hx hb dX2_giveBack_5 (by decide) (fun c2 => ?_) (fun c2 => ?_)
  · have hf := zif_f c2 hf
    refine lv_aload_n hx hb dX2_giveBack_10 rfl (lv_at hl 0 rfl) ?_
    refine lv_iload_n hx hb dX2_giveBack_11 rfl (lv_at hl 1 rfl) ?_
    obtain ⟨q3, hq3, hf⟩ := zb_e hf
    refine x_callr (x_runV (As := [.int x1]) (rest := []) ⟨hx, hb, hml, hown, hts⟩ (c_X2_toolAt l G hG I J x0 x1 hk0 hq3) (cwV 1 hts gX2_giveBack_X2_toolAt rfl rfl rfl (by decide +kernel) ⟨Nat.le_of_ble_eq_true rfl, Nat.le_of_ble_eq_true rfl⟩) hK hP hk0 (by decide) rfl rfl hl.1 rfl (Nat.le_of_ble_eq_true rfl) dX2_giveBack_12 ⟨Nat.zero_le _, Nat.zero_le _⟩) hS (fun H locs hP hS => ?_)
    refine lv_astore_n (lv' := [(2, .ref (G.2.1 (q3))), (0, .ref (G.2.1 (x0))), (1, .int x1)]) hx hb dX2_giveBack_15 rfl hl (by decide) rfl (fun ls hl => ?_)
    refine lv_aload_n hx hb dX2_giveBack_16 rfl (lv_at hl 0 rfl) ?_
    obtain ⟨q4, hq4, hf⟩ := zb_e hf
    refine x_calli (x_runV (As := []) (rest := []) ⟨hx, hb, hml, hown, hts⟩ (c_X7_isLeased l G hG I J q3 (kd_X2_toolAt hk0 hq3) hq4) (cwV 0 hts gX2_giveBack_X7_isLeased rfl rfl rfl (by decide +kernel) ⟨Nat.le_of_ble_eq_true rfl, Nat.le_of_ble_eq_true rfl⟩) hK hP (kd_X2_toolAt hk0 hq3) (by decide) rfl rfl hl.1 rfl (Nat.le_of_ble_eq_true rfl) dX2_giveBack_17 ⟨Nat.zero_le _, Nat.zero_le _⟩) hS (fun H locs hP hS => ?_)
    refine lv_if_ne (tgt := 26) hx hb dX2_giveBack_20 (by decide) (fun c5 => ?_) (fun c5 => ?_)
    · have hf := zif_f c5 hf
      refine lv_aload_n hx hb dX2_giveBack_26 rfl (lv_at hl 1 rfl) ?_
      refine lv_iload_n hx hb dX2_giveBack_27 rfl (lv_at hl 2 rfl) ?_
      obtain ⟨q6, hq6, hf⟩ := zb_e hf
      refine x_calli (x_runV (As := [.int x1]) (rest := []) ⟨hx, hb, hml, hown, hts⟩ (c_X2_lookAt l G hG I J x0 x1 hk0 hq6) (cwV 1 hts gX2_giveBack_X2_lookAt rfl rfl rfl (by decide +kernel) ⟨Nat.le_of_ble_eq_true rfl, Nat.le_of_ble_eq_true rfl⟩) hK hP hk0 (by decide) rfl rfl hl.1 rfl (Nat.le_of_ble_eq_true rfl) dX2_giveBack_28 ⟨Nat.zero_le _, Nat.zero_le _⟩) hS (fun H locs hP hS => ?_)
      refine lv_pop hx hb dX2_giveBack_31 rfl ?_
      refine lv_aload_n hx hb dX2_giveBack_32 rfl (lv_at hl 1 rfl) ?_
      refine lv_aload_n hx hb dX2_giveBack_33 rfl (lv_at hl 0 rfl) ?_
      refine x_get (j := 2) (v := .int (q6.2 q3 2)) hx hb hts hi7 hown hK hP (kd_X2_toolAt hk0 hq3) rfl (by decide) (hts (.fieldLink RX2 111 "LeaseOffice$Tool" "holder" "I") (by decide +kernel)) rfl (by decide) dX2_giveBack_34 ?_
      obtain ⟨q7, hq7, hf⟩ := zb_e hf
      refine x_callr (x_runV (As := [.int (q6.2 q3 2)]) (rest := []) ⟨hx, hb, hml, hown, hts⟩ (c_X2_personAt l G hG q6.2 J x0 (q6.2 q3 2) hk0 hq7) (cwV 1 hts gX2_giveBack_X2_personAt rfl rfl rfl (by decide +kernel) ⟨Nat.le_of_ble_eq_true rfl, Nat.le_of_ble_eq_true rfl⟩) hK hP hk0 (by decide) rfl rfl hl.1 rfl (Nat.le_of_ble_eq_true rfl) dX2_giveBack_37 ⟨Nat.zero_le _, Nat.zero_le _⟩) hS (fun H locs hP hS => ?_)
      refine lv_astore_n (lv' := [(3, .ref (G.2.1 (q7))), (2, .ref (G.2.1 (q3))), (0, .ref (G.2.1 (x0))), (1, .int x1)]) hx hb dX2_giveBack_40 rfl hl (by decide) rfl (fun ls hl => ?_)
      refine lv_aload_n hx hb dX2_giveBack_41 rfl (lv_at hl 1 rfl) ?_
      refine lv_aload_n hx hb dX2_giveBack_42 rfl (lv_at hl 2 rfl) ?_
      refine x_get (j := 7) (v := .int (q6.2 x0 7)) hx hb hts hi2 hown hK hP hk0 rfl (by decide) (hts (.fieldLink RX2 47 "LeaseOffice$Office" "day" "I") (by decide +kernel)) rfl (by decide) dX2_giveBack_43 ?_
      obtain ⟨q8, hq8, hf⟩ := zb_e hf
      refine x_calli (x_runV (As := [.int (q6.2 x0 7)]) (rest := []) ⟨hx, hb, hml, hown, hts⟩ (c_X7_feeOn l G hG q6.2 J q3 (q6.2 x0 7) (kd_X2_toolAt hk0 hq3) hq8) (cwV 1 hts gX2_giveBack_X7_feeOn rfl rfl rfl (by decide +kernel) ⟨Nat.le_of_ble_eq_true rfl, Nat.le_of_ble_eq_true rfl⟩) hK hP (kd_X2_toolAt hk0 hq3) (by decide) rfl rfl hl.1 rfl (Nat.le_of_ble_eq_true rfl) dX2_giveBack_46 ⟨Nat.zero_le _, Nat.zero_le _⟩) hS (fun H locs hP hS => ?_)
      refine lv_istore (lv' := [(4, .int q8), (3, .ref (G.2.1 (q7))), (2, .ref (G.2.1 (q3))), (0, .ref (G.2.1 (x0))), (1, .int x1)]) hx hb dX2_giveBack_49 hl (by decide) rfl (fun ls hl => ?_)
      refine lv_aload_n hx hb dX2_giveBack_51 rfl (lv_at hl 3 rfl) ?_
      refine lv_dup hx hb dX2_giveBack_52 rfl ?_
      refine x_get (j := 8) (v := .int (q6.2 x0 8)) hx hb hts hi2 hown hK hP hk0 rfl (by decide) (hts (.fieldLink RX2 50 "LeaseOffice$Office" "till" "I") (by decide +kernel)) rfl (by decide) dX2_giveBack_53 ?_
      refine lv_iload hx hb dX2_giveBack_56 (lv_at hl 0 rfl) ?_
      refine lv_iadd hx hb dX2_giveBack_58 ?_
      obtain ⟨M9, eM9, hf⟩ := zlet_e hf
      refine x_put (j := 8) (I2 := M9) (J2 := J) (ty0 := tyX2) (ty := .int) hx hb hts hi2 hown hG hK hP hS hk0 rfl tyX2_ok nmX2 (by decide) (hts (.fieldLink RX2 50 "LeaseOffice$Office" "till" "I") (by decide +kernel)) rfl (by decide +kernel) rfl rfl (Nat.le_of_ble_eq_true rfl) (by rw [eM9]; exact zs_2_8 _) (by rw [eM9]; exact zo_C) (by decide) dX2_giveBack_59 (fun H locs hP hS => ?_)
      refine lv_aload_n hx hb dX2_giveBack_62 rfl (lv_at hl 1 rfl) ?_
      refine lv_dup hx hb dX2_giveBack_63 rfl ?_
      refine x_get (j := 1) (v := .int (M9 q7 1)) hx hb hts hi3 hown hK hP (kd_X2_personAt hk0 hq7) rfl (by decide) (hts (.fieldLink RX2 108 "LeaseOffice$Person" "purse" "I") (by decide +kernel)) rfl (by decide) dX2_giveBack_64 ?_
      refine lv_aload_n hx hb dX2_giveBack_67 rfl (lv_at hl 2 rfl) ?_
      refine x_get (j := 5) (v := .int (M9 q3 5)) hx hb hts hi7 hown hK hP (kd_X2_toolAt hk0 hq3) rfl (by decide) (hts (.fieldLink RX2 144 "LeaseOffice$Tool" "deposit" "I") (by decide +kernel)) rfl (by decide) dX2_giveBack_68 ?_
      refine lv_iload hx hb dX2_giveBack_71 (lv_at hl 0 rfl) ?_
      refine lv_isub hx hb dX2_giveBack_73 ?_
      refine lv_iadd hx hb dX2_giveBack_74 ?_
      obtain ⟨M10, eM10, hf⟩ := zlet_e hf
      refine x_put (j := 1) (I2 := M10) (J2 := J) (ty0 := tyX3) (ty := .int) hx hb hts hi3 hown hG hK hP hS (kd_X2_personAt hk0 hq7) rfl tyX3_ok nmX3 (by decide) (hts (.fieldLink RX2 108 "LeaseOffice$Person" "purse" "I") (by decide +kernel)) rfl (by decide +kernel) rfl rfl (Nat.le_of_ble_eq_true rfl) (by rw [eM10]; exact zs_3_1 _) (by rw [eM10]; exact zo_C) (by decide) dX2_giveBack_75 (fun H locs hP hS => ?_)
      refine lv_aload_n hx hb dX2_giveBack_78 rfl (lv_at hl 2 rfl) ?_
      refine lv_aload_n hx hb dX2_giveBack_79 rfl (lv_at hl 3 rfl) ?_
      refine x_get (j := 7) (v := .int (M10 x0 7)) hx hb hts hi2 hown hK hP hk0 rfl (by decide) (hts (.fieldLink RX2 47 "LeaseOffice$Office" "day" "I") (by decide +kernel)) rfl (by decide) dX2_giveBack_80 ?_
      obtain ⟨q11, hq11, hf⟩ := zb_e hf
      refine x_calli (x_runV (As := [.int (M10 x0 7)]) (rest := []) ⟨hx, hb, hml, hown, hts⟩ (c_X7_daysLateOn l G hG M10 J q3 (M10 x0 7) (kd_X2_toolAt hk0 hq3) hq11) (cwV 1 hts gX2_giveBack_X7_daysLateOn rfl rfl rfl (by decide +kernel) ⟨Nat.le_of_ble_eq_true rfl, Nat.le_of_ble_eq_true rfl⟩) hK hP (kd_X2_toolAt hk0 hq3) (by decide) rfl rfl hl.1 rfl (Nat.le_of_ble_eq_true rfl) dX2_giveBack_83 ⟨Nat.zero_le _, Nat.zero_le _⟩) hS (fun H locs hP hS => ?_)
      refine lv_if_le (tgt := 107) hx hb dX2_giveBack_86 (by decide) (fun c12 => ?_) (fun c12 => ?_)
      · have hf := zif_t c12 hf
        refine lv_aload_n hx hb dX2_giveBack_107 rfl (lv_at hl 1 rfl) ?_
        refine lv_iconst (v := 1) hx hb dX2_giveBack_108 (by decide) ?_
        obtain ⟨q13, hq13, hf⟩ := zb_e hf
        refine x_callv (x_runV (As := [.int 1]) (rest := []) ⟨hx, hb, hml, hown, hts⟩ (c_X3_gainTrust l G hG M10 J q7 1 (kd_X2_personAt hk0 hq7) hq13) (cwV 1 hts gX2_giveBack_X3_gainTrust rfl rfl rfl (by decide +kernel) ⟨Nat.le_of_ble_eq_true rfl, Nat.le_of_ble_eq_true rfl⟩) hK hP (kd_X2_personAt hk0 hq7) (by decide) rfl rfl hl.1 rfl (Nat.le_of_ble_eq_true rfl) dX2_giveBack_109 ⟨Nat.zero_le _, Nat.zero_le _⟩) hS (fun H locs hP hS => ?_)
        exact J112 q13 q3 q8 (kd_X2_toolAt hk0 hq3) H locs ls hf hP hS (lv_sub hl [3, 2, 0] rfl)
      · have hf := zif_f c12 hf
        refine lv_aload_n hx hb dX2_giveBack_89 rfl (lv_at hl 1 rfl) ?_
        refine lv_dup hx hb dX2_giveBack_90 rfl ?_
        refine x_get (j := 3) (v := .int (M10 q7 3)) hx hb hts hi3 hown hK hP (kd_X2_personAt hk0 hq7) rfl (by decide) (hts (.fieldLink RX2 184 "LeaseOffice$Person" "late" "I") (by decide +kernel)) rfl (by decide) dX2_giveBack_91 ?_
        refine lv_iconst (v := 1) hx hb dX2_giveBack_94 (by decide) ?_
        refine lv_iadd hx hb dX2_giveBack_95 ?_
        obtain ⟨M17, eM17, hf⟩ := zlet_e hf
        refine x_put (j := 3) (I2 := M17) (J2 := J) (ty0 := tyX3) (ty := .int) hx hb hts hi3 hown hG hK hP hS (kd_X2_personAt hk0 hq7) rfl tyX3_ok nmX3 (by decide) (hts (.fieldLink RX2 184 "LeaseOffice$Person" "late" "I") (by decide +kernel)) rfl (by decide +kernel) rfl rfl (Nat.le_of_ble_eq_true rfl) (by rw [eM17]; exact zs_3_3 _) (by rw [eM17]; exact zo_C) (by decide) dX2_giveBack_96 (fun H locs hP hS => ?_)
        refine lv_aload_n hx hb dX2_giveBack_99 rfl (lv_at hl 1 rfl) ?_
        refine lv_iconst (v := 5) hx hb dX2_giveBack_100 (by decide) ?_
        obtain ⟨q18, hq18, hf⟩ := zb_e hf
        refine x_callv (x_runV (As := [.int 5]) (rest := []) ⟨hx, hb, hml, hown, hts⟩ (c_X3_loseTrust l G hG M17 J q7 5 (kd_X2_personAt hk0 hq7) hq18) (cwV 1 hts gX2_giveBack_X3_loseTrust rfl rfl rfl (by decide +kernel) ⟨Nat.le_of_ble_eq_true rfl, Nat.le_of_ble_eq_true rfl⟩) hK hP (kd_X2_personAt hk0 hq7) (by decide) rfl rfl hl.1 rfl (Nat.le_of_ble_eq_true rfl) dX2_giveBack_101 ⟨Nat.zero_le _, Nat.zero_le _⟩) hS (fun H locs hP hS => ?_)
        refine lv_goto (tgt := 112) hx hb dX2_giveBack_104 (by decide) ?_
        exact J112 q18 q3 q8 (kd_X2_toolAt hk0 hq3) H locs ls hf hP hS (lv_sub hl [3, 2, 0] rfl)
    · have hf := zif_t c5 hf
      refine lv_bipush (v := (-5)) hx hb dX2_giveBack_23 (by decide) ?_
      obtain rfl := Option.some.inj hf
      exact x_iret hx hb hr hlocks hK hP hS dX2_giveBack_25
  · have hf := zif_t c2 hf
    refine lv_iconst (v := (-1)) hx hb dX2_giveBack_8 (by decide) ?_
    obtain rfl := Option.some.inj hf
    exact x_iret hx hb hr hlocks hK hP hS dX2_giveBack_9
set_option maxRecDepth 100000 in
set_option maxHeartbeats 4000000 in
theorem c_X2_leaseTo (l : Launch) (G : zGT) (hG : zOK G) (I J : zM) (x0 : Nat) (x1 : Int32) (x2 : Int32) (x3 : Int32) (hk0 : zK x0 = 2) {r : Int32 × zM} (hf : f_X2_leaseTo I x0 x1 x2 x3 = some r) : Met l yX2_leaseTo wsX2_leaseTo (zrm 3 70) (va_Pc [.ref (G.2.1 (x0)), .int x1, .int x2, .int x3] (zS G I J)) (zQi G r.1 r.2 J) 0 0 (zA G) := by
  refine zMet (cc := cX2_leaseTo) (n := 5) (ret := (some .int)) (by decide) rfl (Nat.le_of_ble_eq_true rfl) ?_
  intro p e s m args below meth c H locs ls F hK hP hS hl
  obtain ⟨hx, hb, hr, hml, hts, hown, hlocks⟩ := F
  have hown : s.vm.findClass RX2 = some m.cls := hown
  have hl : lv_has ls 5 [(0, .ref (G.2.1 (x0))), (1, .int x1), (2, .int x2), (3, .int x3)] := hl
  have hi3 : ∀ w ∈ wsX30, w ∈ wsX2_leaseTo := fun _ h => List.mem_cons_of_mem _ (List.mem_append_left _ (List.mem_append_left _ (List.mem_append_right _ h)))
  have hi7 : ∀ w ∈ wsX70, w ∈ wsX2_leaseTo := fun _ h => List.mem_cons_of_mem _ (List.mem_append_left _ (List.mem_append_left _ (List.mem_append_left _ (List.mem_append_right _ h))))
  have J54 : ∀ (M : zM) (H : Heap) (locs : List Loc) (ls : Array Slot), f_X2_leaseTo_j54 M x0 = some r → va_P G.1 vwCl (zW G M J) H → va_S (zA G) s.heap H locs → lv_has ls 5 [(0, .ref (G.2.1 (x0)))] → W p l e (zrm 3 70) s m args below meth c H locs 0 0 (MQ below (zQi G r.1 r.2 J) args s 0 0 (zA G)) (F0 m 54 ls []) := by
    intro M H locs ls hf hP hS hl
    unfold f_X2_leaseTo_j54 at hf
    refine lv_aload_n hx hb dX2_leaseTo_54 rfl (lv_at hl 0 rfl) ?_
    refine lv_iconst (v := 1) hx hb dX2_leaseTo_55 (by decide) ?_
    refine lv_iconst (v := 0) hx hb dX2_leaseTo_56 (by decide) ?_
    obtain ⟨q10, hq10, hf⟩ := zb_e hf
    refine x_calli (x_runV (As := [.int 1, .int 0]) (rest := []) ⟨hx, hb, hml, hown, hts⟩ (c_X2_refuse l G hG M J x0 1 0 hk0 hq10) (cwV 2 hts gX2_leaseTo_X2_refuse rfl rfl rfl (by decide +kernel) ⟨Nat.le_of_ble_eq_true rfl, Nat.le_of_ble_eq_true rfl⟩) hK hP hk0 (by decide) rfl rfl hl.1 rfl (Nat.le_of_ble_eq_true rfl) dX2_leaseTo_57 ⟨Nat.zero_le _, Nat.zero_le _⟩) hS (fun H locs hP hS => ?_)
    obtain rfl := Option.some.inj hf
    exact x_iret hx hb hr hlocks hK hP hS dX2_leaseTo_60
  unfold f_X2_leaseTo at hf
  refine lv_aload_n hx hb dX2_leaseTo_0 rfl (lv_at hl 0 rfl) ?_
  refine lv_iload_n hx hb dX2_leaseTo_1 rfl (lv_at hl 1 rfl) ?_
  obtain ⟨q1, hq1, hf⟩ := zb_e hf
  refine x_calli (x_runV (As := [.int x1]) (rest := []) ⟨hx, hb, hml, hown, hts⟩ (c_X2_isPerson l G hG I J x0 x1 hk0 hq1) (cwV 1 hts gX2_leaseTo_X2_isPerson rfl rfl rfl (by decide +kernel) ⟨Nat.le_of_ble_eq_true rfl, Nat.le_of_ble_eq_true rfl⟩) hK hP hk0 (by decide) rfl rfl hl.1 rfl (Nat.le_of_ble_eq_true rfl) dX2_leaseTo_2 ⟨Nat.zero_le _, Nat.zero_le _⟩) hS (fun H locs hP hS => ?_)
  refine lv_if_eq (tgt := 27) hx hb dX2_leaseTo_5 (by decide) (fun c2 => ?_) (fun c2 => ?_)
  · have hf := zif_t c2 hf
    refine lv_iconst (v := (-1)) hx hb dX2_leaseTo_27 (by decide) ?_
    obtain rfl := Option.some.inj hf
    exact x_iret hx hb hr hlocks hK hP hS dX2_leaseTo_28
  · have hf := zif_f c2 hf
    refine lv_aload_n hx hb dX2_leaseTo_8 rfl (lv_at hl 0 rfl) ?_
    refine lv_iload_n hx hb dX2_leaseTo_9 rfl (lv_at hl 2 rfl) ?_
    obtain ⟨q3, hq3, hf⟩ := zb_e hf
    refine x_calli (x_runV (As := [.int x2]) (rest := []) ⟨hx, hb, hml, hown, hts⟩ (c_X2_isTool l G hG I J x0 x2 hk0 hq3) (cwV 1 hts gX2_leaseTo_X2_isTool rfl rfl rfl (by decide +kernel) ⟨Nat.le_of_ble_eq_true rfl, Nat.le_of_ble_eq_true rfl⟩) hK hP hk0 (by decide) rfl rfl hl.1 rfl (Nat.le_of_ble_eq_true rfl) dX2_leaseTo_10 ⟨Nat.zero_le _, Nat.zero_le _⟩) hS (fun H locs hP hS => ?_)
    refine lv_if_eq (tgt := 27) hx hb dX2_leaseTo_13 (by decide) (fun c4 => ?_) (fun c4 => ?_)
    · have hf := zif_t c4 hf
      refine lv_iconst (v := (-1)) hx hb dX2_leaseTo_27 (by decide) ?_
      obtain rfl := Option.some.inj hf
      exact x_iret hx hb hr hlocks hK hP hS dX2_leaseTo_28
    · have hf := zif_f c4 hf
      refine lv_iload_n hx hb dX2_leaseTo_16 rfl (lv_at hl 3 rfl) ?_
      refine lv_iconst (v := 1) hx hb dX2_leaseTo_17 (by decide) ?_
      refine lv_icmp_lt (tgt := 27) hx hb dX2_leaseTo_18 (by decide) (fun c5 => ?_) (fun c5 => ?_)
      · have hf := zif_t c5 hf
        refine lv_iconst (v := (-1)) hx hb dX2_leaseTo_27 (by decide) ?_
        obtain rfl := Option.some.inj hf
        exact x_iret hx hb hr hlocks hK hP hS dX2_leaseTo_28
      · have hf := zif_f c5 hf
        refine lv_iload_n hx hb dX2_leaseTo_21 rfl (lv_at hl 3 rfl) ?_
        refine lv_bipush (v := 30) hx hb dX2_leaseTo_22 (by decide) ?_
        refine lv_icmp_le (tgt := 29) hx hb dX2_leaseTo_24 (by decide) (fun c6 => ?_) (fun c6 => ?_)
        · have hf := zif_t c6 hf
          refine lv_aload_n hx hb dX2_leaseTo_29 rfl (lv_at hl 0 rfl) ?_
          refine lv_iload_n hx hb dX2_leaseTo_30 rfl (lv_at hl 2 rfl) ?_
          obtain ⟨q7, hq7, hf⟩ := zb_e hf
          refine x_callr (x_runV (As := [.int x2]) (rest := []) ⟨hx, hb, hml, hown, hts⟩ (c_X2_toolAt l G hG I J x0 x2 hk0 hq7) (cwV 1 hts gX2_leaseTo_X2_toolAt rfl rfl rfl (by decide +kernel) ⟨Nat.le_of_ble_eq_true rfl, Nat.le_of_ble_eq_true rfl⟩) hK hP hk0 (by decide) rfl rfl hl.1 rfl (Nat.le_of_ble_eq_true rfl) dX2_leaseTo_31 ⟨Nat.zero_le _, Nat.zero_le _⟩) hS (fun H locs hP hS => ?_)
          refine lv_astore (lv' := [(4, .ref (G.2.1 (q7))), (0, .ref (G.2.1 (x0))), (1, .int x1), (2, .int x2), (3, .int x3)]) hx hb dX2_leaseTo_34 hl (by decide) rfl (fun ls hl => ?_)
          refine lv_aload hx hb dX2_leaseTo_36 (lv_at hl 0 rfl) ?_
          obtain ⟨q8, hq8, hf⟩ := zb_e hf
          refine x_calli (x_runV (As := []) (rest := []) ⟨hx, hb, hml, hown, hts⟩ (c_X7_isLeased l G hG I J q7 (kd_X2_toolAt hk0 hq7) hq8) (cwV 0 hts gX2_leaseTo_X7_isLeased rfl rfl rfl (by decide +kernel) ⟨Nat.le_of_ble_eq_true rfl, Nat.le_of_ble_eq_true rfl⟩) hK hP (kd_X2_toolAt hk0 hq7) (by decide) rfl rfl hl.1 rfl (Nat.le_of_ble_eq_true rfl) dX2_leaseTo_38 ⟨Nat.zero_le _, Nat.zero_le _⟩) hS (fun H locs hP hS => ?_)
          refine lv_if_ne (tgt := 54) hx hb dX2_leaseTo_41 (by decide) (fun c9 => ?_) (fun c9 => ?_)
          · have hf := zif_f c9 hf
            exact J54 I H locs ls hf hP hS (lv_sub hl [1] rfl)
          · have hf := zif_t c9 hf
            refine lv_aload hx hb dX2_leaseTo_44 (lv_at hl 0 rfl) ?_
            refine x_get (j := 1) (v := .int (I q7 1)) hx hb hts hi7 hown hK hP (kd_X2_toolAt hk0 hq7) rfl (by decide) (hts (.fieldLink RX2 128 "LeaseOffice$Tool" "wear" "I") (by decide +kernel)) rfl (by decide) dX2_leaseTo_46 ?_
            refine lv_bipush (v := 9) hx hb dX2_leaseTo_49 (by decide) ?_
            refine lv_icmp_lt (tgt := 61) hx hb dX2_leaseTo_51 (by decide) (fun c11 => ?_) (fun c11 => ?_)
            · have hf := zif_t c11 hf
              refine lv_aload_n hx hb dX2_leaseTo_61 rfl (lv_at hl 1 rfl) ?_
              refine lv_iload_n hx hb dX2_leaseTo_62 rfl (lv_at hl 2 rfl) ?_
              obtain ⟨q12, hq12, hf⟩ := zb_e hf
              refine x_callr (x_runV (As := [.int x1]) (rest := []) ⟨hx, hb, hml, hown, hts⟩ (c_X2_personAt l G hG I J x0 x1 hk0 hq12) (cwV 1 hts gX2_leaseTo_X2_personAt rfl rfl rfl (by decide +kernel) ⟨Nat.le_of_ble_eq_true rfl, Nat.le_of_ble_eq_true rfl⟩) hK hP hk0 (by decide) rfl rfl hl.1 rfl (Nat.le_of_ble_eq_true rfl) dX2_leaseTo_63 ⟨Nat.zero_le _, Nat.zero_le _⟩) hS (fun H locs hP hS => ?_)
              refine x_get (j := 1) (v := .int (I q12 1)) hx hb hts hi3 hown hK hP (kd_X2_personAt hk0 hq12) rfl (by decide) (hts (.fieldLink RX2 108 "LeaseOffice$Person" "purse" "I") (by decide +kernel)) rfl (by decide) dX2_leaseTo_66 ?_
              refine lv_aload hx hb dX2_leaseTo_69 (lv_at hl 0 rfl) ?_
              refine x_get (j := 0) (v := .int (I q7 0)) hx hb hts hi7 hown hK hP (kd_X2_toolAt hk0 hq7) rfl (by decide) (hts (.fieldLink RX2 134 "LeaseOffice$Tool" "worth" "I") (by decide +kernel)) rfl (by decide) dX2_leaseTo_71 ?_
              refine lv_icmp_ge (tgt := 84) hx hb dX2_leaseTo_74 (by decide) (fun c13 => ?_) (fun c13 => ?_)
              · have hf := zif_t c13 hf
                refine lv_aload_n hx hb dX2_leaseTo_84 rfl (lv_at hl 1 rfl) ?_
                refine lv_aload hx hb dX2_leaseTo_85 (lv_at hl 0 rfl) ?_
                refine lv_iload_n hx hb dX2_leaseTo_87 rfl (lv_at hl 2 rfl) ?_
                refine lv_iload_n hx hb dX2_leaseTo_88 rfl (lv_at hl 4 rfl) ?_
                obtain ⟨q14, hq14, hf⟩ := zb_e hf
                refine x_callv (x_runV (As := [.ref (G.2.1 (q7)), .int x1, .int x3]) (rest := []) ⟨hx, hb, hml, hown, hts⟩ (c_X2_handOut l G hG I J x0 q7 x1 x3 hk0 (kd_X2_toolAt hk0 hq7) hq14) (cwV 3 hts gX2_leaseTo_X2_handOut rfl rfl rfl (by decide +kernel) ⟨Nat.le_of_ble_eq_true rfl, Nat.le_of_ble_eq_true rfl⟩) hK hP hk0 (by decide) rfl rfl hl.1 rfl (Nat.le_of_ble_eq_true rfl) dX2_leaseTo_89 ⟨Nat.zero_le _, Nat.zero_le _⟩) hS (fun H locs hP hS => ?_)
                refine lv_aload hx hb dX2_leaseTo_92 (lv_at hl 0 rfl) ?_
                refine x_get (j := 4) (v := .int (q14 q7 4)) hx hb hts hi7 hown hK hP (kd_X2_toolAt hk0 hq7) rfl (by decide) (hts (.fieldLink RX2 141 "LeaseOffice$Tool" "due" "I") (by decide +kernel)) rfl (by decide) dX2_leaseTo_94 ?_
                obtain rfl := Option.some.inj hf
                exact x_iret hx hb hr hlocks hK hP hS dX2_leaseTo_97
              · have hf := zif_f c13 hf
                refine lv_aload_n hx hb dX2_leaseTo_77 rfl (lv_at hl 1 rfl) ?_
                refine lv_iconst (v := 2) hx hb dX2_leaseTo_78 (by decide) ?_
                refine lv_iconst (v := 0) hx hb dX2_leaseTo_79 (by decide) ?_
                obtain ⟨q15, hq15, hf⟩ := zb_e hf
                refine x_calli (x_runV (As := [.int 2, .int 0]) (rest := []) ⟨hx, hb, hml, hown, hts⟩ (c_X2_refuse l G hG I J x0 2 0 hk0 hq15) (cwV 2 hts gX2_leaseTo_X2_refuse rfl rfl rfl (by decide +kernel) ⟨Nat.le_of_ble_eq_true rfl, Nat.le_of_ble_eq_true rfl⟩) hK hP hk0 (by decide) rfl rfl hl.1 rfl (Nat.le_of_ble_eq_true rfl) dX2_leaseTo_80 ⟨Nat.zero_le _, Nat.zero_le _⟩) hS (fun H locs hP hS => ?_)
                obtain rfl := Option.some.inj hf
                exact x_iret hx hb hr hlocks hK hP hS dX2_leaseTo_83
            · have hf := zif_f c11 hf
              exact J54 I H locs ls hf hP hS (lv_sub hl [1] rfl)
        · have hf := zif_f c6 hf
          refine lv_iconst (v := (-1)) hx hb dX2_leaseTo_27 (by decide) ?_
          obtain rfl := Option.some.inj hf
          exact x_iret hx hb hr hlocks hK hP hS dX2_leaseTo_28
set_option maxRecDepth 100000 in
set_option maxHeartbeats 4000000 in
theorem c_X2_passDays (l : Launch) (G : zGT) (hG : zOK G) (I J : zM) (x0 : Nat) (x1 : Int32) (hk0 : zK x0 = 2) {r : Int32 × zM} (hf : f_X2_passDays I x0 x1 = some r) : Met l yX2_passDays wsX2_passDays (zrm 0 0) (va_Pc [.ref (G.2.1 (x0)), .int x1] (zS G I J)) (zQi G r.1 r.2 J) 0 0 (zA G) := by
  refine zMet (cc := cX2_passDays) (n := 2) (ret := (some .int)) (by decide) rfl (Nat.le_of_ble_eq_true rfl) ?_
  intro p e s m args below meth c H locs ls F hK hP hS hl
  obtain ⟨hx, hb, hr, hml, hts, hown, hlocks⟩ := F
  have hown : s.vm.findClass RX2 = some m.cls := hown
  have hl : lv_has ls 2 [(0, .ref (G.2.1 (x0))), (1, .int x1)] := hl
  have hi2 : ∀ w ∈ wsX20, w ∈ wsX2_passDays := fun _ h => List.mem_cons_of_mem _ (List.mem_append_right _ h)
  unfold f_X2_passDays at hf
  refine lv_iload_n hx hb dX2_passDays_0 rfl (lv_at hl 1 rfl) ?_
  refine lv_iconst (v := 1) hx hb dX2_passDays_1 (by decide) ?_
  refine lv_icmp_lt (tgt := 11) hx hb dX2_passDays_2 (by decide) (fun c1 => ?_) (fun c1 => ?_)
  · have hf := zif_t c1 hf
    refine lv_iconst (v := (-1)) hx hb dX2_passDays_11 (by decide) ?_
    obtain rfl := Option.some.inj hf
    exact x_iret hx hb hr hlocks hK hP hS dX2_passDays_12
  · have hf := zif_f c1 hf
    refine lv_iload_n hx hb dX2_passDays_5 rfl (lv_at hl 1 rfl) ?_
    refine lv_bipush (v := 99) hx hb dX2_passDays_6 (by decide) ?_
    refine lv_icmp_le (tgt := 13) hx hb dX2_passDays_8 (by decide) (fun c2 => ?_) (fun c2 => ?_)
    · have hf := zif_t c2 hf
      refine lv_aload_n hx hb dX2_passDays_13 rfl (lv_at hl 0 rfl) ?_
      refine lv_dup hx hb dX2_passDays_14 rfl ?_
      refine x_get (j := 7) (v := .int (I x0 7)) hx hb hts hi2 hown hK hP hk0 rfl (by decide) (hts (.fieldLink RX2 47 "LeaseOffice$Office" "day" "I") (by decide +kernel)) rfl (by decide) dX2_passDays_15 ?_
      refine lv_iload_n hx hb dX2_passDays_18 rfl (lv_at hl 1 rfl) ?_
      refine lv_iadd hx hb dX2_passDays_19 ?_
      obtain ⟨M3, eM3, hf⟩ := zlet_e hf
      refine x_put (j := 7) (I2 := M3) (J2 := J) (ty0 := tyX2) (ty := .int) hx hb hts hi2 hown hG hK hP hS hk0 rfl tyX2_ok nmX2 (by decide) (hts (.fieldLink RX2 47 "LeaseOffice$Office" "day" "I") (by decide +kernel)) rfl (by decide +kernel) rfl rfl (Nat.le_of_ble_eq_true rfl) (by rw [eM3]; exact zs_2_7 _) (by rw [eM3]; exact zo_C) (by decide) dX2_passDays_20 (fun H locs hP hS => ?_)
      refine lv_aload_n hx hb dX2_passDays_23 rfl (lv_at hl 0 rfl) ?_
      refine x_get (j := 7) (v := .int (M3 x0 7)) hx hb hts hi2 hown hK hP hk0 rfl (by decide) (hts (.fieldLink RX2 47 "LeaseOffice$Office" "day" "I") (by decide +kernel)) rfl (by decide) dX2_passDays_24 ?_
      obtain rfl := Option.some.inj hf
      exact x_iret hx hb hr hlocks hK hP hS dX2_passDays_27
    · have hf := zif_f c2 hf
      refine lv_iconst (v := (-1)) hx hb dX2_passDays_11 (by decide) ?_
      obtain rfl := Option.some.inj hf
      exact x_iret hx hb hr hlocks hK hP hS dX2_passDays_12
set_option maxRecDepth 100000 in
set_option maxHeartbeats 4000000 in
theorem c_X2_passOn (l : Launch) (G : zGT) (hG : zOK G) (I J : zM) (x0 : Nat) (x1 : Int32) (x2 : Int32) (hk0 : zK x0 = 2) {r : Int32 × zM} (hf : f_X2_passOn I x0 x1 x2 = some r) : Met l yX2_passOn wsX2_passOn (zrm 3 69) (va_Pc [.ref (G.2.1 (x0)), .int x1, .int x2] (zS G I J)) (zQi G r.1 r.2 J) 0 0 (zA G) := by
  refine zMet (cc := cX2_passOn) (n := 5) (ret := (some .int)) (by decide) rfl (Nat.le_of_ble_eq_true rfl) ?_
  intro p e s m args below meth c H locs ls F hK hP hS hl
  obtain ⟨hx, hb, hr, hml, hts, hown, hlocks⟩ := F
  have hown : s.vm.findClass RX2 = some m.cls := hown
  have hl : lv_has ls 5 [(0, .ref (G.2.1 (x0))), (1, .int x1), (2, .int x2)] := hl
  have hi3 : ∀ w ∈ wsX30, w ∈ wsX2_passOn := fun _ h => List.mem_cons_of_mem _ (List.mem_append_left _ (List.mem_append_left _ (List.mem_append_right _ h)))
  have hi7 : ∀ w ∈ wsX70, w ∈ wsX2_passOn := fun _ h => List.mem_cons_of_mem _ (List.mem_append_left _ (List.mem_append_left _ (List.mem_append_left _ (List.mem_append_right _ h))))
  unfold f_X2_passOn at hf
  refine lv_aload_n hx hb dX2_passOn_0 rfl (lv_at hl 0 rfl) ?_
  refine lv_iload_n hx hb dX2_passOn_1 rfl (lv_at hl 1 rfl) ?_
  obtain ⟨q1, hq1, hf⟩ := zb_e hf
  refine x_calli (x_runV (As := [.int x1]) (rest := []) ⟨hx, hb, hml, hown, hts⟩ (c_X2_isTool l G hG I J x0 x1 hk0 hq1) (cwV 1 hts gX2_passOn_X2_isTool rfl rfl rfl (by decide +kernel) ⟨Nat.le_of_ble_eq_true rfl, Nat.le_of_ble_eq_true rfl⟩) hK hP hk0 (by decide) rfl rfl hl.1 rfl (Nat.le_of_ble_eq_true rfl) dX2_passOn_2 ⟨Nat.zero_le _, Nat.zero_le _⟩) hS (fun H locs hP hS => ?_)
  refine lv_if_eq (tgt := 28) hx hb dX2_passOn_5 (by decide) (fun c2 => ?_) (fun c2 => ?_)
  · have hf := zif_t c2 hf
    refine lv_iconst (v := (-1)) hx hb dX2_passOn_28 (by decide) ?_
    obtain rfl := Option.some.inj hf
    exact x_iret hx hb hr hlocks hK hP hS dX2_passOn_29
  · have hf := zif_f c2 hf
    refine lv_aload_n hx hb dX2_passOn_8 rfl (lv_at hl 0 rfl) ?_
    refine lv_iload_n hx hb dX2_passOn_9 rfl (lv_at hl 2 rfl) ?_
    obtain ⟨q3, hq3, hf⟩ := zb_e hf
    refine x_calli (x_runV (As := [.int x2]) (rest := []) ⟨hx, hb, hml, hown, hts⟩ (c_X2_isPerson l G hG I J x0 x2 hk0 hq3) (cwV 1 hts gX2_passOn_X2_isPerson rfl rfl rfl (by decide +kernel) ⟨Nat.le_of_ble_eq_true rfl, Nat.le_of_ble_eq_true rfl⟩) hK hP hk0 (by decide) rfl rfl hl.1 rfl (Nat.le_of_ble_eq_true rfl) dX2_passOn_10 ⟨Nat.zero_le _, Nat.zero_le _⟩) hS (fun H locs hP hS => ?_)
    refine lv_if_eq (tgt := 28) hx hb dX2_passOn_13 (by decide) (fun c4 => ?_) (fun c4 => ?_)
    · have hf := zif_t c4 hf
      refine lv_iconst (v := (-1)) hx hb dX2_passOn_28 (by decide) ?_
      obtain rfl := Option.some.inj hf
      exact x_iret hx hb hr hlocks hK hP hS dX2_passOn_29
    · have hf := zif_f c4 hf
      refine lv_aload_n hx hb dX2_passOn_16 rfl (lv_at hl 0 rfl) ?_
      refine lv_iload_n hx hb dX2_passOn_17 rfl (lv_at hl 1 rfl) ?_
      obtain ⟨q5, hq5, hf⟩ := zb_e hf
      refine x_callr (x_runV (As := [.int x1]) (rest := []) ⟨hx, hb, hml, hown, hts⟩ (c_X2_toolAt l G hG I J x0 x1 hk0 hq5) (cwV 1 hts gX2_passOn_X2_toolAt rfl rfl rfl (by decide +kernel) ⟨Nat.le_of_ble_eq_true rfl, Nat.le_of_ble_eq_true rfl⟩) hK hP hk0 (by decide) rfl rfl hl.1 rfl (Nat.le_of_ble_eq_true rfl) dX2_passOn_18 ⟨Nat.zero_le _, Nat.zero_le _⟩) hS (fun H locs hP hS => ?_)
      refine x_get (j := 2) (v := .int (I q5 2)) hx hb hts hi7 hown hK hP (kd_X2_toolAt hk0 hq5) rfl (by decide) (hts (.fieldLink RX2 111 "LeaseOffice$Tool" "holder" "I") (by decide +kernel)) rfl (by decide) dX2_passOn_21 ?_
      refine lv_iload_n hx hb dX2_passOn_24 rfl (lv_at hl 2 rfl) ?_
      refine lv_icmp_ne (tgt := 30) hx hb dX2_passOn_25 (by decide) (fun c6 => ?_) (fun c6 => ?_)
      · have hf := zif_f c6 hf
        refine lv_aload_n hx hb dX2_passOn_30 rfl (lv_at hl 0 rfl) ?_
        refine lv_iload_n hx hb dX2_passOn_31 rfl (lv_at hl 1 rfl) ?_
        obtain ⟨q7, hq7, hf⟩ := zb_e hf
        refine x_callr (x_runV (As := [.int x1]) (rest := []) ⟨hx, hb, hml, hown, hts⟩ (c_X2_toolAt l G hG I J x0 x1 hk0 hq7) (cwV 1 hts gX2_passOn_X2_toolAt rfl rfl rfl (by decide +kernel) ⟨Nat.le_of_ble_eq_true rfl, Nat.le_of_ble_eq_true rfl⟩) hK hP hk0 (by decide) rfl rfl hl.1 rfl (Nat.le_of_ble_eq_true rfl) dX2_passOn_32 ⟨Nat.zero_le _, Nat.zero_le _⟩) hS (fun H locs hP hS => ?_)
        refine lv_astore_n (lv' := [(3, .ref (G.2.1 (q7))), (0, .ref (G.2.1 (x0))), (1, .int x1), (2, .int x2)]) hx hb dX2_passOn_35 rfl hl (by decide) rfl (fun ls hl => ?_)
        refine lv_aload_n hx hb dX2_passOn_36 rfl (lv_at hl 0 rfl) ?_
        obtain ⟨q8, hq8, hf⟩ := zb_e hf
        refine x_calli (x_runV (As := []) (rest := []) ⟨hx, hb, hml, hown, hts⟩ (c_X7_isLeased l G hG I J q7 (kd_X2_toolAt hk0 hq7) hq8) (cwV 0 hts gX2_passOn_X7_isLeased rfl rfl rfl (by decide +kernel) ⟨Nat.le_of_ble_eq_true rfl, Nat.le_of_ble_eq_true rfl⟩) hK hP (kd_X2_toolAt hk0 hq7) (by decide) rfl rfl hl.1 rfl (Nat.le_of_ble_eq_true rfl) dX2_passOn_37 ⟨Nat.zero_le _, Nat.zero_le _⟩) hS (fun H locs hP hS => ?_)
        refine lv_if_ne (tgt := 46) hx hb dX2_passOn_40 (by decide) (fun c9 => ?_) (fun c9 => ?_)
        · have hf := zif_f c9 hf
          refine lv_aload_n hx hb dX2_passOn_46 rfl (lv_at hl 1 rfl) ?_
          refine lv_aload_n hx hb dX2_passOn_47 rfl (lv_at hl 0 rfl) ?_
          refine lv_aload_n hx hb dX2_passOn_48 rfl (lv_at hl 1 rfl) ?_
          refine lv_iload_n hx hb dX2_passOn_49 rfl (lv_at hl 3 rfl) ?_
          obtain ⟨q10, hq10, hf⟩ := zb_e hf
          refine x_callr (x_runV (As := [.int x2]) (rest := [.ref (G.2.1 (q7)), .ref (G.2.1 (x0))]) ⟨hx, hb, hml, hown, hts⟩ (c_X2_personAt l G hG I J x0 x2 hk0 hq10) (cwV 1 hts gX2_passOn_X2_personAt rfl rfl rfl (by decide +kernel) ⟨Nat.le_of_ble_eq_true rfl, Nat.le_of_ble_eq_true rfl⟩) hK hP hk0 (by decide) rfl rfl hl.1 rfl (Nat.le_of_ble_eq_true rfl) dX2_passOn_50 ⟨Nat.zero_le _, Nat.zero_le _⟩) hS (fun H locs hP hS => ?_)
          refine x_get (j := 1) (v := .int (I q10 1)) hx hb hts hi3 hown hK hP (kd_X2_personAt hk0 hq10) rfl (by decide) (hts (.fieldLink RX2 108 "LeaseOffice$Person" "purse" "I") (by decide +kernel)) rfl (by decide) dX2_passOn_53 ?_
          obtain ⟨q11, hq11, hf⟩ := zb_e hf
          refine x_calli (x_runV (As := [.ref (G.2.1 (q7)), .int (I q10 1)]) (rest := []) ⟨hx, hb, hml, hown, hts⟩ (c_X2_whyNotPassed l G hG I J x0 q7 (I q10 1) hk0 (kd_X2_toolAt hk0 hq7) hq11) (cwV 2 hts gX2_passOn_X2_whyNotPassed rfl rfl rfl (by decide +kernel) ⟨Nat.le_of_ble_eq_true rfl, Nat.le_of_ble_eq_true rfl⟩) hK hP hk0 (by decide) rfl rfl hl.1 rfl (Nat.le_of_ble_eq_true rfl) dX2_passOn_56 ⟨Nat.zero_le _, Nat.zero_le _⟩) hS (fun H locs hP hS => ?_)
          refine lv_istore (lv' := [(4, .int q11), (3, .ref (G.2.1 (q7))), (0, .ref (G.2.1 (x0))), (1, .int x1), (2, .int x2)]) hx hb dX2_passOn_59 hl (by decide) rfl (fun ls hl => ?_)
          refine lv_iload hx hb dX2_passOn_61 (lv_at hl 0 rfl) ?_
          refine lv_if_eq (tgt := 75) hx hb dX2_passOn_63 (by decide) (fun c12 => ?_) (fun c12 => ?_)
          · have hf := zif_t c12 hf
            refine lv_aload_n hx hb dX2_passOn_75 rfl (lv_at hl 2 rfl) ?_
            refine lv_aload_n hx hb dX2_passOn_76 rfl (lv_at hl 1 rfl) ?_
            refine lv_iload_n hx hb dX2_passOn_77 rfl (lv_at hl 4 rfl) ?_
            obtain ⟨q13, hq13, hf⟩ := zb_e hf
            refine x_callv (x_runV (As := [.ref (G.2.1 (q7)), .int x2]) (rest := []) ⟨hx, hb, hml, hown, hts⟩ (c_X2_handOver l G hG I J x0 q7 x2 hk0 (kd_X2_toolAt hk0 hq7) hq13) (cwV 2 hts gX2_passOn_X2_handOver rfl rfl rfl (by decide +kernel) ⟨Nat.le_of_ble_eq_true rfl, Nat.le_of_ble_eq_true rfl⟩) hK hP hk0 (by decide) rfl rfl hl.1 rfl (Nat.le_of_ble_eq_true rfl) dX2_passOn_78 ⟨Nat.zero_le _, Nat.zero_le _⟩) hS (fun H locs hP hS => ?_)
            refine lv_iconst (v := 1) hx hb dX2_passOn_81 (by decide) ?_
            obtain rfl := Option.some.inj hf
            exact x_iret hx hb hr hlocks hK hP hS dX2_passOn_82
          · have hf := zif_f c12 hf
            refine lv_aload_n hx hb dX2_passOn_66 rfl (lv_at hl 2 rfl) ?_
            refine lv_bipush (v := 6) hx hb dX2_passOn_67 (by decide) ?_
            refine lv_iload hx hb dX2_passOn_69 (lv_at hl 0 rfl) ?_
            obtain ⟨q14, hq14, hf⟩ := zb_e hf
            refine x_calli (x_runV (As := [.int 6, .int q11]) (rest := []) ⟨hx, hb, hml, hown, hts⟩ (c_X2_refuse l G hG I J x0 6 q11 hk0 hq14) (cwV 2 hts gX2_passOn_X2_refuse rfl rfl rfl (by decide +kernel) ⟨Nat.le_of_ble_eq_true rfl, Nat.le_of_ble_eq_true rfl⟩) hK hP hk0 (by decide) rfl rfl hl.1 rfl (Nat.le_of_ble_eq_true rfl) dX2_passOn_71 ⟨Nat.zero_le _, Nat.zero_le _⟩) hS (fun H locs hP hS => ?_)
            obtain rfl := Option.some.inj hf
            exact x_iret hx hb hr hlocks hK hP hS dX2_passOn_74
        · have hf := zif_t c9 hf
          refine lv_bipush (v := (-5)) hx hb dX2_passOn_43 (by decide) ?_
          obtain rfl := Option.some.inj hf
          exact x_iret hx hb hr hlocks hK hP hS dX2_passOn_45
      · have hf := zif_t c6 hf
        refine lv_iconst (v := (-1)) hx hb dX2_passOn_28 (by decide) ?_
        obtain rfl := Option.some.inj hf
        exact x_iret hx hb hr hlocks hK hP hS dX2_passOn_29
set_option maxRecDepth 100000 in
set_option maxHeartbeats 4000000 in
theorem c_X3_nameAsThreeLetters (l : Launch) (G : zGT) (hG : zOK G) (I J : zM) (x0 : Nat) (hk0 : zK x0 = 3) {r : Int32} (hf : f_X3_nameAsThreeLetters I x0 = some r) : Met l yX3_nameAsThreeLetters wsX3_nameAsThreeLetters (zrm 0 0) (va_Pc [.ref (G.2.1 (x0))] (zS G I J)) (zQi G r I J) 0 0 (zA G) := by
  refine zMet (cc := cX3_nameAsThreeLetters) (n := 1) (ret := (some .int)) (by decide) rfl (Nat.le_of_ble_eq_true rfl) ?_
  intro p e s m args below meth c H locs ls F hK hP hS hl
  obtain ⟨hx, hb, hr, hml, hts, hown, hlocks⟩ := F
  have hown : s.vm.findClass RX3 = some m.cls := hown
  have hl : lv_has ls 1 [(0, .ref (G.2.1 (x0)))] := hl
  have hi3 : ∀ w ∈ wsX30, w ∈ wsX3_nameAsThreeLetters := fun _ h => List.mem_cons_of_mem _ (List.mem_append_right _ h)
  unfold f_X3_nameAsThreeLetters at hf
  refine lv_aload_n hx hb dX3_nameAsThreeLetters_0 rfl (lv_at hl 0 rfl) ?_
  refine x_get (j := 0) (v := .int (I x0 0)) hx hb hts hi3 hown hK hP hk0 rfl (by decide) (hts (.fieldLink RX3 15 "LeaseOffice$Person" "name" "I") (by decide +kernel)) rfl (by decide) dX3_nameAsThreeLetters_1 ?_
  refine lv_bipush (v := 27) hx hb dX3_nameAsThreeLetters_4 (by decide) ?_
  refine lv_icmp_ge (tgt := 20) hx hb dX3_nameAsThreeLetters_6 (by decide) (fun c1 => ?_) (fun c1 => ?_)
  · have hf := zif_t c1 hf
    refine lv_aload_n hx hb dX3_nameAsThreeLetters_20 rfl (lv_at hl 0 rfl) ?_
    refine x_get (j := 0) (v := .int (I x0 0)) hx hb hts hi3 hown hK hP hk0 rfl (by decide) (hts (.fieldLink RX3 15 "LeaseOffice$Person" "name" "I") (by decide +kernel)) rfl (by decide) dX3_nameAsThreeLetters_21 ?_
    refine lv_sipush (v := 729) hx hb dX3_nameAsThreeLetters_24 (by decide) ?_
    refine lv_icmp_ge (tgt := 40) hx hb dX3_nameAsThreeLetters_27 (by decide) (fun c2 => ?_) (fun c2 => ?_)
    · have hf := zif_t c2 hf
      refine lv_aload_n hx hb dX3_nameAsThreeLetters_40 rfl (lv_at hl 0 rfl) ?_
      refine x_get (j := 0) (v := .int (I x0 0)) hx hb hts hi3 hown hK hP hk0 rfl (by decide) (hts (.fieldLink RX3 15 "LeaseOffice$Person" "name" "I") (by decide +kernel)) rfl (by decide) dX3_nameAsThreeLetters_41 ?_
      obtain rfl := Option.some.inj hf
      exact x_iret hx hb hr hlocks hK hP hS dX3_nameAsThreeLetters_44
    · have hf := zif_f c2 hf
      refine lv_aload_n hx hb dX3_nameAsThreeLetters_30 rfl (lv_at hl 0 rfl) ?_
      refine x_get (j := 0) (v := .int (I x0 0)) hx hb hts hi3 hown hK hP hk0 rfl (by decide) (hts (.fieldLink RX3 15 "LeaseOffice$Person" "name" "I") (by decide +kernel)) rfl (by decide) dX3_nameAsThreeLetters_31 ?_
      refine lv_bipush (v := 27) hx hb dX3_nameAsThreeLetters_34 (by decide) ?_
      refine lv_imul hx hb dX3_nameAsThreeLetters_36 ?_
      refine lv_goto (tgt := 44) hx hb dX3_nameAsThreeLetters_37 (by decide) ?_
      obtain rfl := Option.some.inj hf
      exact x_iret hx hb hr hlocks hK hP hS dX3_nameAsThreeLetters_44
  · have hf := zif_f c1 hf
    refine lv_aload_n hx hb dX3_nameAsThreeLetters_9 rfl (lv_at hl 0 rfl) ?_
    refine x_get (j := 0) (v := .int (I x0 0)) hx hb hts hi3 hown hK hP hk0 rfl (by decide) (hts (.fieldLink RX3 15 "LeaseOffice$Person" "name" "I") (by decide +kernel)) rfl (by decide) dX3_nameAsThreeLetters_10 ?_
    refine lv_bipush (v := 27) hx hb dX3_nameAsThreeLetters_13 (by decide) ?_
    refine lv_imul hx hb dX3_nameAsThreeLetters_15 ?_
    refine lv_bipush (v := 27) hx hb dX3_nameAsThreeLetters_16 (by decide) ?_
    refine lv_imul hx hb dX3_nameAsThreeLetters_18 ?_
    obtain rfl := Option.some.inj hf
    exact x_iret hx hb hr hlocks hK hP hS dX3_nameAsThreeLetters_19
set_option maxRecDepth 100000 in
set_option maxHeartbeats 4000000 in
theorem c_X3_goesAheadOf (l : Launch) (G : zGT) (hG : zOK G) (I J : zM) (x0 : Nat) (x1 : Nat) (hk0 : zK x0 = 3) (hk1 : zK x1 = 3) {r : Int32} (hf : f_X3_goesAheadOf I x0 x1 = some r) : Met l yX3_goesAheadOf wsX3_goesAheadOf (zrm 1 20) (va_Pc [.ref (G.2.1 (x0)), .ref (G.2.1 (x1))] (zS G I J)) (zQi G r I J) 0 0 (zA G) := by
  refine zMet (cc := cX3_goesAheadOf) (n := 2) (ret := (some .boolean)) (by decide) rfl (Nat.le_of_ble_eq_true rfl) ?_
  intro p e s m args below meth c H locs ls F hK hP hS hl
  obtain ⟨hx, hb, hr, hml, hts, hown, hlocks⟩ := F
  have hown : s.vm.findClass RX3 = some m.cls := hown
  have hl : lv_has ls 2 [(0, .ref (G.2.1 (x0))), (1, .ref (G.2.1 (x1)))] := hl
  have hi3 : ∀ w ∈ wsX30, w ∈ wsX3_goesAheadOf := fun _ h => List.mem_cons_of_mem _ (List.mem_append_right _ h)
  unfold f_X3_goesAheadOf at hf
  refine lv_aload_n hx hb dX3_goesAheadOf_0 rfl (lv_at hl 0 rfl) ?_
  refine x_get (j := 2) (v := .int (I x0 2)) hx hb hts hi3 hown hK hP hk0 rfl (by decide) (hts (.fieldLink RX3 22 "LeaseOffice$Person" "trust" "I") (by decide +kernel)) rfl (by decide) dX3_goesAheadOf_1 ?_
  refine lv_aload_n hx hb dX3_goesAheadOf_4 rfl (lv_at hl 1 rfl) ?_
  refine x_get (j := 2) (v := .int (I x1 2)) hx hb hts hi3 hown hK hP hk1 rfl (by decide) (hts (.fieldLink RX3 22 "LeaseOffice$Person" "trust" "I") (by decide +kernel)) rfl (by decide) dX3_goesAheadOf_5 ?_
  refine lv_icmp_eq (tgt := 28) hx hb dX3_goesAheadOf_8 (by decide) (fun c1 => ?_) (fun c1 => ?_)
  · have hf := zif_t c1 hf
    refine lv_aload_n hx hb dX3_goesAheadOf_28 rfl (lv_at hl 0 rfl) ?_
    refine x_get (j := 3) (v := .int (I x0 3)) hx hb hts hi3 hown hK hP hk0 rfl (by decide) (hts (.fieldLink RX3 25 "LeaseOffice$Person" "late" "I") (by decide +kernel)) rfl (by decide) dX3_goesAheadOf_29 ?_
    refine lv_aload_n hx hb dX3_goesAheadOf_32 rfl (lv_at hl 1 rfl) ?_
    refine x_get (j := 3) (v := .int (I x1 3)) hx hb hts hi3 hown hK hP hk1 rfl (by decide) (hts (.fieldLink RX3 25 "LeaseOffice$Person" "late" "I") (by decide +kernel)) rfl (by decide) dX3_goesAheadOf_33 ?_
    refine lv_icmp_eq (tgt := 56) hx hb dX3_goesAheadOf_36 (by decide) (fun c2 => ?_) (fun c2 => ?_)
    · have hf := zif_t c2 hf
      refine lv_aload_n hx hb dX3_goesAheadOf_56 rfl (lv_at hl 0 rfl) ?_
      obtain ⟨q3, hq3, hf⟩ := zb_e hf
      refine x_calli (x_runV (As := []) (rest := []) ⟨hx, hb, hml, hown, hts⟩ (c_X3_nameAsThreeLetters l G hG I J x0 hk0 hq3) (cwV 0 hts gX3_goesAheadOf_X3_nameAsThreeLetters rfl rfl rfl (by decide +kernel) ⟨Nat.le_of_ble_eq_true rfl, Nat.le_of_ble_eq_true rfl⟩) hK hP hk0 (by decide) rfl rfl hl.1 rfl (Nat.le_of_ble_eq_true rfl) dX3_goesAheadOf_57 ⟨Nat.zero_le _, Nat.zero_le _⟩) hS (fun H locs hP hS => ?_)
      refine lv_aload_n hx hb dX3_goesAheadOf_60 rfl (lv_at hl 1 rfl) ?_
      obtain ⟨q4, hq4, hf⟩ := zb_e hf
      refine x_calli (x_runV (As := []) (rest := [.int q3]) ⟨hx, hb, hml, hown, hts⟩ (c_X3_nameAsThreeLetters l G hG I J x1 hk1 hq4) (cwV 0 hts gX3_goesAheadOf_X3_nameAsThreeLetters rfl rfl rfl (by decide +kernel) ⟨Nat.le_of_ble_eq_true rfl, Nat.le_of_ble_eq_true rfl⟩) hK hP hk1 (by decide) rfl rfl hl.1 rfl (Nat.le_of_ble_eq_true rfl) dX3_goesAheadOf_61 ⟨Nat.zero_le _, Nat.zero_le _⟩) hS (fun H locs hP hS => ?_)
      refine lv_icmp_ge (tgt := 71) hx hb dX3_goesAheadOf_64 (by decide) (fun c5 => ?_) (fun c5 => ?_)
      · have hf := zif_t c5 hf
        refine lv_iconst (v := 0) hx hb dX3_goesAheadOf_71 (by decide) ?_
        obtain rfl := Option.some.inj hf
        exact x_zret (v := 0) rfl hx hb hr hlocks hK hP hS dX3_goesAheadOf_72
      · have hf := zif_f c5 hf
        refine lv_iconst (v := 1) hx hb dX3_goesAheadOf_67 (by decide) ?_
        refine lv_goto (tgt := 72) hx hb dX3_goesAheadOf_68 (by decide) ?_
        obtain rfl := Option.some.inj hf
        exact x_zret (v := 1) rfl hx hb hr hlocks hK hP hS dX3_goesAheadOf_72
    · have hf := zif_f c2 hf
      refine lv_aload_n hx hb dX3_goesAheadOf_39 rfl (lv_at hl 0 rfl) ?_
      refine x_get (j := 3) (v := .int (I x0 3)) hx hb hts hi3 hown hK hP hk0 rfl (by decide) (hts (.fieldLink RX3 25 "LeaseOffice$Person" "late" "I") (by decide +kernel)) rfl (by decide) dX3_goesAheadOf_40 ?_
      refine lv_aload_n hx hb dX3_goesAheadOf_43 rfl (lv_at hl 1 rfl) ?_
      refine x_get (j := 3) (v := .int (I x1 3)) hx hb hts hi3 hown hK hP hk1 rfl (by decide) (hts (.fieldLink RX3 25 "LeaseOffice$Person" "late" "I") (by decide +kernel)) rfl (by decide) dX3_goesAheadOf_44 ?_
      refine lv_icmp_ge (tgt := 54) hx hb dX3_goesAheadOf_47 (by decide) (fun c6 => ?_) (fun c6 => ?_)
      · have hf := zif_t c6 hf
        refine lv_iconst (v := 0) hx hb dX3_goesAheadOf_54 (by decide) ?_
        obtain rfl := Option.some.inj hf
        exact x_zret (v := 0) rfl hx hb hr hlocks hK hP hS dX3_goesAheadOf_55
      · have hf := zif_f c6 hf
        refine lv_iconst (v := 1) hx hb dX3_goesAheadOf_50 (by decide) ?_
        refine lv_goto (tgt := 55) hx hb dX3_goesAheadOf_51 (by decide) ?_
        obtain rfl := Option.some.inj hf
        exact x_zret (v := 1) rfl hx hb hr hlocks hK hP hS dX3_goesAheadOf_55
  · have hf := zif_f c1 hf
    refine lv_aload_n hx hb dX3_goesAheadOf_11 rfl (lv_at hl 0 rfl) ?_
    refine x_get (j := 2) (v := .int (I x0 2)) hx hb hts hi3 hown hK hP hk0 rfl (by decide) (hts (.fieldLink RX3 22 "LeaseOffice$Person" "trust" "I") (by decide +kernel)) rfl (by decide) dX3_goesAheadOf_12 ?_
    refine lv_aload_n hx hb dX3_goesAheadOf_15 rfl (lv_at hl 1 rfl) ?_
    refine x_get (j := 2) (v := .int (I x1 2)) hx hb hts hi3 hown hK hP hk1 rfl (by decide) (hts (.fieldLink RX3 22 "LeaseOffice$Person" "trust" "I") (by decide +kernel)) rfl (by decide) dX3_goesAheadOf_16 ?_
    refine lv_icmp_le (tgt := 26) hx hb dX3_goesAheadOf_19 (by decide) (fun c7 => ?_) (fun c7 => ?_)
    · have hf := zif_t c7 hf
      refine lv_iconst (v := 0) hx hb dX3_goesAheadOf_26 (by decide) ?_
      obtain rfl := Option.some.inj hf
      exact x_zret (v := 0) rfl hx hb hr hlocks hK hP hS dX3_goesAheadOf_27
    · have hf := zif_f c7 hf
      refine lv_iconst (v := 1) hx hb dX3_goesAheadOf_22 (by decide) ?_
      refine lv_goto (tgt := 27) hx hb dX3_goesAheadOf_23 (by decide) ?_
      obtain rfl := Option.some.inj hf
      exact x_zret (v := 1) rfl hx hb hr hlocks hK hP hS dX3_goesAheadOf_27
set_option maxRecDepth 100000 in
set_option maxHeartbeats 4000000 in
theorem c_X2_placeInRank (l : Launch) (G : zGT) (hG : zOK G) (I J : zM) (x0 : Nat) (x1 : Int32) (hk0 : zK x0 = 2) {r : Int32} (hf : f_X2_placeInRank I x0 x1 = some r) : Met l yX2_placeInRank wsX2_placeInRank (zrm 2 41) (va_Pc [.ref (G.2.1 (x0)), .int x1] (zS G I J)) (zQi G r I J) 0 0 (zA G) := by
  refine zMet (cc := cX2_placeInRank) (n := 4) (ret := (some .int)) (by decide) rfl (Nat.le_of_ble_eq_true rfl) ?_
  intro p e s m args below meth c H locs ls F hK hP hS hl
  obtain ⟨hx, hb, hr, hml, hts, hown, hlocks⟩ := F
  have hown : s.vm.findClass RX2 = some m.cls := hown
  have hl : lv_has ls 4 [(0, .ref (G.2.1 (x0))), (1, .int x1)] := hl
  have hi2 : ∀ w ∈ wsX20, w ∈ wsX2_placeInRank := fun _ h => List.mem_cons_of_mem _ (List.mem_append_left _ (List.mem_append_right _ h))
  have L4 : ∀ (n : Nat) (y2 : Int32) (y3 : Int32) (H : Heap) (locs : List Loc) (ls : Array Slot), f_X2_placeInRank_l4 I x0 x1 n y2 y3 = some r → va_P G.1 vwCl (zW G I J) H → va_S (zA G) s.heap H locs → lv_has ls 4 [(0, .ref (G.2.1 (x0))), (1, .int x1), (2, .int y2), (3, .int y3)] → W p l e (zrm 2 41) s m args below meth c H locs 0 0 (MQ below (zQi G r I J) args s 0 0 (zA G)) (F0 m 4 ls []) := by
    intro n
    induction n with
    | zero =>
      intro y2 y3 H locs ls hf
      rw [f_X2_placeInRank_l4] at hf
      cases hf
    | succ n ih =>
      intro y2 y3 H locs ls hf hP hS hl
      rw [f_X2_placeInRank_l4] at hf
      refine lv_iload_n hx hb dX2_placeInRank_4 rfl (lv_at hl 3 rfl) ?_
      refine lv_aload_n hx hb dX2_placeInRank_5 rfl (lv_at hl 0 rfl) ?_
      refine x_get (j := 5) (v := .int (I x0 5)) hx hb hts hi2 hown hK hP hk0 rfl (by decide) (hts (.fieldLink RX2 40 "LeaseOffice$Office" "personCount" "I") (by decide +kernel)) rfl (by decide) dX2_placeInRank_6 ?_
      refine lv_icmp_ge (tgt := 37) hx hb dX2_placeInRank_9 (by decide) (fun c1 => ?_) (fun c1 => ?_)
      · have hf := zif_t c1 hf
        refine lv_iload_n hx hb dX2_placeInRank_37 rfl (lv_at hl 2 rfl) ?_
        obtain rfl := Option.some.inj hf
        exact x_iret hx hb hr hlocks hK hP hS dX2_placeInRank_38
      · have hf := zif_f c1 hf
        refine lv_aload_n hx hb dX2_placeInRank_12 rfl (lv_at hl 0 rfl) ?_
        refine lv_iload_n hx hb dX2_placeInRank_13 rfl (lv_at hl 3 rfl) ?_
        obtain ⟨q2, hq2, hf⟩ := zb_e hf
        refine x_callr (x_runV (As := [.int y3]) (rest := []) ⟨hx, hb, hml, hown, hts⟩ (c_X2_personAt l G hG I J x0 y3 hk0 hq2) (cwV 1 hts gX2_placeInRank_X2_personAt rfl rfl rfl (by decide +kernel) ⟨Nat.le_of_ble_eq_true rfl, Nat.le_of_ble_eq_true rfl⟩) hK hP hk0 (by decide) rfl rfl hl.1 rfl (Nat.le_of_ble_eq_true rfl) dX2_placeInRank_14 ⟨Nat.zero_le _, Nat.zero_le _⟩) hS (fun H locs hP hS => ?_)
        refine lv_aload_n hx hb dX2_placeInRank_17 rfl (lv_at hl 0 rfl) ?_
        refine lv_iload_n hx hb dX2_placeInRank_18 rfl (lv_at hl 1 rfl) ?_
        obtain ⟨q3, hq3, hf⟩ := zb_e hf
        refine x_callr (x_runV (As := [.int x1]) (rest := [.ref (G.2.1 (q2))]) ⟨hx, hb, hml, hown, hts⟩ (c_X2_personAt l G hG I J x0 x1 hk0 hq3) (cwV 1 hts gX2_placeInRank_X2_personAt rfl rfl rfl (by decide +kernel) ⟨Nat.le_of_ble_eq_true rfl, Nat.le_of_ble_eq_true rfl⟩) hK hP hk0 (by decide) rfl rfl hl.1 rfl (Nat.le_of_ble_eq_true rfl) dX2_placeInRank_19 ⟨Nat.zero_le _, Nat.zero_le _⟩) hS (fun H locs hP hS => ?_)
        obtain ⟨q4, hq4, hf⟩ := zb_e hf
        refine x_calli (x_runV (As := [.ref (G.2.1 (q3))]) (rest := []) ⟨hx, hb, hml, hown, hts⟩ (c_X3_goesAheadOf l G hG I J q2 q3 (kd_X2_personAt hk0 hq2) (kd_X2_personAt hk0 hq3) hq4) (cwV 1 hts gX2_placeInRank_X3_goesAheadOf rfl rfl rfl (by decide +kernel) ⟨Nat.le_of_ble_eq_true rfl, Nat.le_of_ble_eq_true rfl⟩) hK hP (kd_X2_personAt hk0 hq2) (by decide) rfl rfl hl.1 rfl (Nat.le_of_ble_eq_true rfl) dX2_placeInRank_22 ⟨Nat.zero_le _, Nat.zero_le _⟩) hS (fun H locs hP hS => ?_)
        refine lv_if_eq (tgt := 31) hx hb dX2_placeInRank_25 (by decide) (fun c5 => ?_) (fun c5 => ?_)
        · have hf := zif_t c5 hf
          refine lv_iinc (v := (y3 + 1)) (lv' := [(3, .int (y3 + 1)), (0, .ref (G.2.1 (x0))), (1, .int x1), (2, .int y2)]) hx hb dX2_placeInRank_31 hl (k := 3) rfl rfl (by decide) rfl (fun ls hl => ?_)
          refine lv_goto (tgt := 4) hx hb dX2_placeInRank_34 (by decide) ?_
          exact ih y2 (y3 + 1) H locs ls hf hP hS (lv_sub hl [1, 2, 3, 0] rfl)
        · have hf := zif_f c5 hf
          refine lv_iinc (v := (y2 + 1)) (lv' := [(2, .int (y2 + 1)), (0, .ref (G.2.1 (x0))), (1, .int x1), (3, .int y3)]) hx hb dX2_placeInRank_28 hl (k := 2) rfl rfl (by decide) rfl (fun ls hl => ?_)
          refine lv_iinc (v := (y3 + 1)) (lv' := [(3, .int (y3 + 1)), (2, .int (y2 + 1)), (0, .ref (G.2.1 (x0))), (1, .int x1)]) hx hb dX2_placeInRank_31 hl (k := 3) rfl rfl (by decide) rfl (fun ls hl => ?_)
          refine lv_goto (tgt := 4) hx hb dX2_placeInRank_34 (by decide) ?_
          exact ih (y2 + 1) (y3 + 1) H locs ls hf hP hS (lv_sub hl [2, 3, 1, 0] rfl)
  unfold f_X2_placeInRank at hf
  refine lv_iconst (v := 0) hx hb dX2_placeInRank_0 (by decide) ?_
  refine lv_istore_n (lv' := [(2, .int 0), (0, .ref (G.2.1 (x0))), (1, .int x1)]) hx hb dX2_placeInRank_1 rfl hl (by decide) rfl (fun ls hl => ?_)
  refine lv_iconst (v := 0) hx hb dX2_placeInRank_2 (by decide) ?_
  refine lv_istore_n (lv' := [(3, .int 0), (2, .int 0), (0, .ref (G.2.1 (x0))), (1, .int x1)]) hx hb dX2_placeInRank_3 rfl hl (by decide) rfl (fun ls hl => ?_)
  exact L4 zFu 0 0 H locs ls hf hP hS (lv_sub hl [2, 3, 1, 0] rfl)
set_option maxRecDepth 100000 in
set_option maxHeartbeats 4000000 in
theorem c_X2_personAtRank (l : Launch) (G : zGT) (hG : zOK G) (I J : zM) (x0 : Nat) (x1 : Int32) (hk0 : zK x0 = 2) {r : Int32} (hf : f_X2_personAtRank I x0 x1 = some r) : Met l yX2_personAtRank wsX2_personAtRank (zrm 3 64) (va_Pc [.ref (G.2.1 (x0)), .int x1] (zS G I J)) (zQi G r I J) 0 0 (zA G) := by
  refine zMet (cc := cX2_personAtRank) (n := 3) (ret := (some .int)) (by decide) rfl (Nat.le_of_ble_eq_true rfl) ?_
  intro p e s m args below meth c H locs ls F hK hP hS hl
  obtain ⟨hx, hb, hr, hml, hts, hown, hlocks⟩ := F
  have hown : s.vm.findClass RX2 = some m.cls := hown
  have hl : lv_has ls 3 [(0, .ref (G.2.1 (x0))), (1, .int x1)] := hl
  have hi2 : ∀ w ∈ wsX20, w ∈ wsX2_personAtRank := fun _ h => List.mem_cons_of_mem _ (List.mem_append_left _ (List.mem_append_right _ h))
  have L2 : ∀ (n : Nat) (y2 : Int32) (H : Heap) (locs : List Loc) (ls : Array Slot), f_X2_personAtRank_l2 I x0 x1 n y2 = some r → va_P G.1 vwCl (zW G I J) H → va_S (zA G) s.heap H locs → lv_has ls 3 [(0, .ref (G.2.1 (x0))), (1, .int x1), (2, .int y2)] → W p l e (zrm 3 64) s m args below meth c H locs 0 0 (MQ below (zQi G r I J) args s 0 0 (zA G)) (F0 m 2 ls []) := by
    intro n
    induction n with
    | zero =>
      intro y2 H locs ls hf
      rw [f_X2_personAtRank_l2] at hf
      cases hf
    | succ n ih =>
      intro y2 H locs ls hf hP hS hl
      rw [f_X2_personAtRank_l2] at hf
      refine lv_iload_n hx hb dX2_personAtRank_2 rfl (lv_at hl 2 rfl) ?_
      refine lv_aload_n hx hb dX2_personAtRank_3 rfl (lv_at hl 0 rfl) ?_
      refine x_get (j := 5) (v := .int (I x0 5)) hx hb hts hi2 hown hK hP hk0 rfl (by decide) (hts (.fieldLink RX2 40 "LeaseOffice$Office" "personCount" "I") (by decide +kernel)) rfl (by decide) dX2_personAtRank_4 ?_
      refine lv_icmp_ge (tgt := 27) hx hb dX2_personAtRank_7 (by decide) (fun c1 => ?_) (fun c1 => ?_)
      · have hf := zif_t c1 hf
        refine lv_bipush (v := (-2)) hx hb dX2_personAtRank_27 (by decide) ?_
        obtain rfl := Option.some.inj hf
        exact x_iret hx hb hr hlocks hK hP hS dX2_personAtRank_29
      · have hf := zif_f c1 hf
        refine lv_aload_n hx hb dX2_personAtRank_10 rfl (lv_at hl 0 rfl) ?_
        refine lv_iload_n hx hb dX2_personAtRank_11 rfl (lv_at hl 2 rfl) ?_
        obtain ⟨q2, hq2, hf⟩ := zb_e hf
        refine x_calli (x_runV (As := [.int y2]) (rest := []) ⟨hx, hb, hml, hown, hts⟩ (c_X2_placeInRank l G hG I J x0 y2 hk0 hq2) (cwV 1 hts gX2_personAtRank_X2_placeInRank rfl rfl rfl (by decide +kernel) ⟨Nat.le_of_ble_eq_true rfl, Nat.le_of_ble_eq_true rfl⟩) hK hP hk0 (by decide) rfl rfl hl.1 rfl (Nat.le_of_ble_eq_true rfl) dX2_personAtRank_12 ⟨Nat.zero_le _, Nat.zero_le _⟩) hS (fun H locs hP hS => ?_)
        refine lv_iload_n hx hb dX2_personAtRank_15 rfl (lv_at hl 1 rfl) ?_
        refine lv_icmp_ne (tgt := 21) hx hb dX2_personAtRank_16 (by decide) (fun c3 => ?_) (fun c3 => ?_)
        · have hf := zif_f c3 hf
          refine lv_iinc (v := (y2 + 1)) (lv' := [(2, .int (y2 + 1)), (0, .ref (G.2.1 (x0))), (1, .int x1)]) hx hb dX2_personAtRank_21 hl (k := 2) rfl rfl (by decide) rfl (fun ls hl => ?_)
          refine lv_goto (tgt := 2) hx hb dX2_personAtRank_24 (by decide) ?_
          exact ih (y2 + 1) H locs ls hf hP hS (lv_sub hl [1, 2, 0] rfl)
        · have hf := zif_t c3 hf
          refine lv_iload_n hx hb dX2_personAtRank_19 rfl (lv_at hl 2 rfl) ?_
          obtain rfl := Option.some.inj hf
          exact x_iret hx hb hr hlocks hK hP hS dX2_personAtRank_20
  unfold f_X2_personAtRank at hf
  refine lv_iconst (v := 0) hx hb dX2_personAtRank_0 (by decide) ?_
  refine lv_istore_n (lv' := [(2, .int 0), (0, .ref (G.2.1 (x0))), (1, .int x1)]) hx hb dX2_personAtRank_1 rfl hl (by decide) rfl (fun ls hl => ?_)
  exact L2 zFu 0 H locs ls hf hP hS (lv_sub hl [1, 2, 0] rfl)
set_option maxRecDepth 100000 in
set_option maxHeartbeats 4000000 in
theorem c_X2_setWish (l : Launch) (G : zGT) (hG : zOK G) (I J : zM) (x0 : Nat) (x1 : Int32) (x2 : Int32) (x3 : Int32) (hk0 : zK x0 = 2) {r : Int32 × zM} (hf : f_X2_setWish I x0 x1 x2 x3 = some r) : Met l yX2_setWish wsX2_setWish (zrm 1 22) (va_Pc [.ref (G.2.1 (x0)), .int x1, .int x2, .int x3] (zS G I J)) (zQi G r.1 r.2 J) 0 0 (zA G) := by
  refine zMet (cc := cX2_setWish) (n := 5) (ret := (some .int)) (by decide) rfl (Nat.le_of_ble_eq_true rfl) ?_
  intro p e s m args below meth c H locs ls F hK hP hS hl
  obtain ⟨hx, hb, hr, hml, hts, hown, hlocks⟩ := F
  have hown : s.vm.findClass RX2 = some m.cls := hown
  have hl : lv_has ls 5 [(0, .ref (G.2.1 (x0))), (1, .int x1), (2, .int x2), (3, .int x3)] := hl
  unfold f_X2_setWish at hf
  refine lv_aload_n hx hb dX2_setWish_0 rfl (lv_at hl 0 rfl) ?_
  refine lv_iload_n hx hb dX2_setWish_1 rfl (lv_at hl 1 rfl) ?_
  obtain ⟨q1, hq1, hf⟩ := zb_e hf
  refine x_calli (x_runV (As := [.int x1]) (rest := []) ⟨hx, hb, hml, hown, hts⟩ (c_X2_isPerson l G hG I J x0 x1 hk0 hq1) (cwV 1 hts gX2_setWish_X2_isPerson rfl rfl rfl (by decide +kernel) ⟨Nat.le_of_ble_eq_true rfl, Nat.le_of_ble_eq_true rfl⟩) hK hP hk0 (by decide) rfl rfl hl.1 rfl (Nat.le_of_ble_eq_true rfl) dX2_setWish_2 ⟨Nat.zero_le _, Nat.zero_le _⟩) hS (fun H locs hP hS => ?_)
  refine lv_if_eq (tgt := 26) hx hb dX2_setWish_5 (by decide) (fun c2 => ?_) (fun c2 => ?_)
  · have hf := zif_t c2 hf
    refine lv_iconst (v := (-1)) hx hb dX2_setWish_26 (by decide) ?_
    obtain rfl := Option.some.inj hf
    exact x_iret hx hb hr hlocks hK hP hS dX2_setWish_27
  · have hf := zif_f c2 hf
    refine lv_aload_n hx hb dX2_setWish_8 rfl (lv_at hl 0 rfl) ?_
    refine lv_iload_n hx hb dX2_setWish_9 rfl (lv_at hl 2 rfl) ?_
    obtain ⟨q3, hq3, hf⟩ := zb_e hf
    refine x_calli (x_runV (As := [.int x2]) (rest := []) ⟨hx, hb, hml, hown, hts⟩ (c_X2_isTool l G hG I J x0 x2 hk0 hq3) (cwV 1 hts gX2_setWish_X2_isTool rfl rfl rfl (by decide +kernel) ⟨Nat.le_of_ble_eq_true rfl, Nat.le_of_ble_eq_true rfl⟩) hK hP hk0 (by decide) rfl rfl hl.1 rfl (Nat.le_of_ble_eq_true rfl) dX2_setWish_10 ⟨Nat.zero_le _, Nat.zero_le _⟩) hS (fun H locs hP hS => ?_)
    refine lv_if_eq (tgt := 26) hx hb dX2_setWish_13 (by decide) (fun c4 => ?_) (fun c4 => ?_)
    · have hf := zif_t c4 hf
      refine lv_iconst (v := (-1)) hx hb dX2_setWish_26 (by decide) ?_
      obtain rfl := Option.some.inj hf
      exact x_iret hx hb hr hlocks hK hP hS dX2_setWish_27
    · have hf := zif_f c4 hf
      refine lv_iload_n hx hb dX2_setWish_16 rfl (lv_at hl 3 rfl) ?_
      refine lv_if_lt (tgt := 26) hx hb dX2_setWish_17 (by decide) (fun c5 => ?_) (fun c5 => ?_)
      · have hf := zif_t c5 hf
        refine lv_iconst (v := (-1)) hx hb dX2_setWish_26 (by decide) ?_
        obtain rfl := Option.some.inj hf
        exact x_iret hx hb hr hlocks hK hP hS dX2_setWish_27
      · have hf := zif_f c5 hf
        refine lv_iload_n hx hb dX2_setWish_20 rfl (lv_at hl 3 rfl) ?_
        refine lv_bipush (v := 9) hx hb dX2_setWish_21 (by decide) ?_
        refine lv_icmp_le (tgt := 28) hx hb dX2_setWish_23 (by decide) (fun c6 => ?_) (fun c6 => ?_)
        · have hf := zif_t c6 hf
          refine lv_aload_n hx hb dX2_setWish_28 rfl (lv_at hl 0 rfl) ?_
          refine lv_iload_n hx hb dX2_setWish_29 rfl (lv_at hl 1 rfl) ?_
          obtain ⟨q7, hq7, hf⟩ := zb_e hf
          refine x_callr (x_runV (As := [.int x1]) (rest := []) ⟨hx, hb, hml, hown, hts⟩ (c_X2_personAt l G hG I J x0 x1 hk0 hq7) (cwV 1 hts gX2_setWish_X2_personAt rfl rfl rfl (by decide +kernel) ⟨Nat.le_of_ble_eq_true rfl, Nat.le_of_ble_eq_true rfl⟩) hK hP hk0 (by decide) rfl rfl hl.1 rfl (Nat.le_of_ble_eq_true rfl) dX2_setWish_30 ⟨Nat.zero_le _, Nat.zero_le _⟩) hS (fun H locs hP hS => ?_)
          refine lv_iload_n hx hb dX2_setWish_33 rfl (lv_at hl 2 rfl) ?_
          obtain ⟨q8, hq8, hf⟩ := zb_e hf
          refine x_calli (x_runV (As := [.int x2]) (rest := []) ⟨hx, hb, hml, hown, hts⟩ (c_X3_wishOf l G hG I J q7 x2 (kd_X2_personAt hk0 hq7) hq8) (cwV 1 hts gX2_setWish_X3_wishOf rfl rfl rfl (by decide +kernel) ⟨Nat.le_of_ble_eq_true rfl, Nat.le_of_ble_eq_true rfl⟩) hK hP (kd_X2_personAt hk0 hq7) (by decide) rfl rfl hl.1 rfl (Nat.le_of_ble_eq_true rfl) dX2_setWish_34 ⟨Nat.zero_le _, Nat.zero_le _⟩) hS (fun H locs hP hS => ?_)
          refine lv_istore (lv' := [(4, .int q8), (0, .ref (G.2.1 (x0))), (1, .int x1), (2, .int x2), (3, .int x3)]) hx hb dX2_setWish_37 hl (by decide) rfl (fun ls hl => ?_)
          refine lv_aload_n hx hb dX2_setWish_39 rfl (lv_at hl 1 rfl) ?_
          refine lv_iload_n hx hb dX2_setWish_40 rfl (lv_at hl 2 rfl) ?_
          obtain ⟨q9, hq9, hf⟩ := zb_e hf
          refine x_callr (x_runV (As := [.int x1]) (rest := []) ⟨hx, hb, hml, hown, hts⟩ (c_X2_personAt l G hG I J x0 x1 hk0 hq9) (cwV 1 hts gX2_setWish_X2_personAt rfl rfl rfl (by decide +kernel) ⟨Nat.le_of_ble_eq_true rfl, Nat.le_of_ble_eq_true rfl⟩) hK hP hk0 (by decide) rfl rfl hl.1 rfl (Nat.le_of_ble_eq_true rfl) dX2_setWish_41 ⟨Nat.zero_le _, Nat.zero_le _⟩) hS (fun H locs hP hS => ?_)
          refine lv_iload_n hx hb dX2_setWish_44 rfl (lv_at hl 3 rfl) ?_
          refine lv_iload_n hx hb dX2_setWish_45 rfl (lv_at hl 4 rfl) ?_
          obtain ⟨q10, hq10, hf⟩ := zb_e hf
          refine x_callv (x_runV (As := [.int x2, .int x3]) (rest := []) ⟨hx, hb, hml, hown, hts⟩ (c_X3_setWishOf l G hG I J q9 x2 x3 (kd_X2_personAt hk0 hq9) hq10) (cwV 2 hts gX2_setWish_X3_setWishOf rfl rfl rfl (by decide +kernel) ⟨Nat.le_of_ble_eq_true rfl, Nat.le_of_ble_eq_true rfl⟩) hK hP (kd_X2_personAt hk0 hq9) (by decide) rfl rfl hl.1 rfl (Nat.le_of_ble_eq_true rfl) dX2_setWish_46 ⟨Nat.zero_le _, Nat.zero_le _⟩) hS (fun H locs hP hS => ?_)
          refine lv_iload hx hb dX2_setWish_49 (lv_at hl 0 rfl) ?_
          obtain rfl := Option.some.inj hf
          exact x_iret hx hb hr hlocks hK hP hS dX2_setWish_51
        · have hf := zif_f c6 hf
          refine lv_iconst (v := (-1)) hx hb dX2_setWish_26 (by decide) ?_
          obtain rfl := Option.some.inj hf
          exact x_iret hx hb hr hlocks hK hP hS dX2_setWish_27
set_option maxRecDepth 100000 in
set_option maxHeartbeats 4000000 in
theorem c_X2_toolsWith (l : Launch) (G : zGT) (hG : zOK G) (I J : zM) (x0 : Nat) (x1 : Int32) (hk0 : zK x0 = 2) {r : Int32} (hf : f_X2_toolsWith I x0 x1 = some r) : Met l yX2_toolsWith wsX2_toolsWith (zrm 1 21) (va_Pc [.ref (G.2.1 (x0)), .int x1] (zS G I J)) (zQi G r I J) 0 0 (zA G) := by
  refine zMet (cc := cX2_toolsWith) (n := 4) (ret := (some .int)) (by decide) rfl (Nat.le_of_ble_eq_true rfl) ?_
  intro p e s m args below meth c H locs ls F hK hP hS hl
  obtain ⟨hx, hb, hr, hml, hts, hown, hlocks⟩ := F
  have hown : s.vm.findClass RX2 = some m.cls := hown
  have hl : lv_has ls 4 [(0, .ref (G.2.1 (x0))), (1, .int x1)] := hl
  have hi2 : ∀ w ∈ wsX20, w ∈ wsX2_toolsWith := fun _ h => List.mem_cons_of_mem _ (List.mem_append_left _ (List.mem_append_right _ h))
  have hi7 : ∀ w ∈ wsX70, w ∈ wsX2_toolsWith := fun _ h => List.mem_cons_of_mem _ (List.mem_append_right _ h)
  have L4 : ∀ (n : Nat) (y2 : Int32) (y3 : Int32) (H : Heap) (locs : List Loc) (ls : Array Slot), f_X2_toolsWith_l4 I x0 x1 n y2 y3 = some r → va_P G.1 vwCl (zW G I J) H → va_S (zA G) s.heap H locs → lv_has ls 4 [(0, .ref (G.2.1 (x0))), (1, .int x1), (2, .int y2), (3, .int y3)] → W p l e (zrm 1 21) s m args below meth c H locs 0 0 (MQ below (zQi G r I J) args s 0 0 (zA G)) (F0 m 4 ls []) := by
    intro n
    induction n with
    | zero =>
      intro y2 y3 H locs ls hf
      rw [f_X2_toolsWith_l4] at hf
      cases hf
    | succ n ih =>
      intro y2 y3 H locs ls hf hP hS hl
      rw [f_X2_toolsWith_l4] at hf
      refine lv_iload_n hx hb dX2_toolsWith_4 rfl (lv_at hl 3 rfl) ?_
      refine lv_aload_n hx hb dX2_toolsWith_5 rfl (lv_at hl 0 rfl) ?_
      refine x_get (j := 6) (v := .int (I x0 6)) hx hb hts hi2 hown hK hP hk0 rfl (by decide) (hts (.fieldLink RX2 44 "LeaseOffice$Office" "toolCount" "I") (by decide +kernel)) rfl (by decide) dX2_toolsWith_6 ?_
      refine lv_icmp_ge (tgt := 33) hx hb dX2_toolsWith_9 (by decide) (fun c1 => ?_) (fun c1 => ?_)
      · have hf := zif_t c1 hf
        refine lv_iload_n hx hb dX2_toolsWith_33 rfl (lv_at hl 2 rfl) ?_
        obtain rfl := Option.some.inj hf
        exact x_iret hx hb hr hlocks hK hP hS dX2_toolsWith_34
      · have hf := zif_f c1 hf
        refine lv_aload_n hx hb dX2_toolsWith_12 rfl (lv_at hl 0 rfl) ?_
        refine lv_iload_n hx hb dX2_toolsWith_13 rfl (lv_at hl 3 rfl) ?_
        obtain ⟨q2, hq2, hf⟩ := zb_e hf
        refine x_callr (x_runV (As := [.int y3]) (rest := []) ⟨hx, hb, hml, hown, hts⟩ (c_X2_toolAt l G hG I J x0 y3 hk0 hq2) (cwV 1 hts gX2_toolsWith_X2_toolAt rfl rfl rfl (by decide +kernel) ⟨Nat.le_of_ble_eq_true rfl, Nat.le_of_ble_eq_true rfl⟩) hK hP hk0 (by decide) rfl rfl hl.1 rfl (Nat.le_of_ble_eq_true rfl) dX2_toolsWith_14 ⟨Nat.zero_le _, Nat.zero_le _⟩) hS (fun H locs hP hS => ?_)
        refine x_get (j := 2) (v := .int (I q2 2)) hx hb hts hi7 hown hK hP (kd_X2_toolAt hk0 hq2) rfl (by decide) (hts (.fieldLink RX2 111 "LeaseOffice$Tool" "holder" "I") (by decide +kernel)) rfl (by decide) dX2_toolsWith_17 ?_
        refine lv_iload_n hx hb dX2_toolsWith_20 rfl (lv_at hl 1 rfl) ?_
        refine lv_icmp_ne (tgt := 27) hx hb dX2_toolsWith_21 (by decide) (fun c3 => ?_) (fun c3 => ?_)
        · have hf := zif_f c3 hf
          refine lv_iinc (v := (y3 + 1)) (lv' := [(3, .int (y3 + 1)), (0, .ref (G.2.1 (x0))), (1, .int x1), (2, .int y2)]) hx hb dX2_toolsWith_27 hl (k := 3) rfl rfl (by decide) rfl (fun ls hl => ?_)
          refine lv_goto (tgt := 4) hx hb dX2_toolsWith_30 (by decide) ?_
          exact ih y2 (y3 + 1) H locs ls hf hP hS (lv_sub hl [1, 2, 3, 0] rfl)
        · have hf := zif_t c3 hf
          refine lv_iinc (v := (y2 + 1)) (lv' := [(2, .int (y2 + 1)), (0, .ref (G.2.1 (x0))), (1, .int x1), (3, .int y3)]) hx hb dX2_toolsWith_24 hl (k := 2) rfl rfl (by decide) rfl (fun ls hl => ?_)
          refine lv_iinc (v := (y3 + 1)) (lv' := [(3, .int (y3 + 1)), (2, .int (y2 + 1)), (0, .ref (G.2.1 (x0))), (1, .int x1)]) hx hb dX2_toolsWith_27 hl (k := 3) rfl rfl (by decide) rfl (fun ls hl => ?_)
          refine lv_goto (tgt := 4) hx hb dX2_toolsWith_30 (by decide) ?_
          exact ih (y2 + 1) (y3 + 1) H locs ls hf hP hS (lv_sub hl [2, 3, 1, 0] rfl)
  unfold f_X2_toolsWith at hf
  refine lv_iconst (v := 0) hx hb dX2_toolsWith_0 (by decide) ?_
  refine lv_istore_n (lv' := [(2, .int 0), (0, .ref (G.2.1 (x0))), (1, .int x1)]) hx hb dX2_toolsWith_1 rfl hl (by decide) rfl (fun ls hl => ?_)
  refine lv_iconst (v := 0) hx hb dX2_toolsWith_2 (by decide) ?_
  refine lv_istore_n (lv' := [(3, .int 0), (2, .int 0), (0, .ref (G.2.1 (x0))), (1, .int x1)]) hx hb dX2_toolsWith_3 rfl hl (by decide) rfl (fun ls hl => ?_)
  exact L4 zFu 0 0 H locs ls hf hP hS (lv_sub hl [2, 3, 1, 0] rfl)
set_option maxRecDepth 100000 in
set_option maxHeartbeats 4000000 in
theorem c_X2_wearDown (l : Launch) (G : zGT) (hG : zOK G) (I J : zM) (x0 : Nat) (x1 : Int32) (x2 : Int32) (hk0 : zK x0 = 2) {r : Int32 × zM} (hf : f_X2_wearDown I x0 x1 x2 = some r) : Met l yX2_wearDown wsX2_wearDown (zrm 1 21) (va_Pc [.ref (G.2.1 (x0)), .int x1, .int x2] (zS G I J)) (zQi G r.1 r.2 J) 0 0 (zA G) := by
  refine zMet (cc := cX2_wearDown) (n := 4) (ret := (some .int)) (by decide) rfl (Nat.le_of_ble_eq_true rfl) ?_
  intro p e s m args below meth c H locs ls F hK hP hS hl
  obtain ⟨hx, hb, hr, hml, hts, hown, hlocks⟩ := F
  have hown : s.vm.findClass RX2 = some m.cls := hown
  have hl : lv_has ls 4 [(0, .ref (G.2.1 (x0))), (1, .int x1), (2, .int x2)] := hl
  have hi7 : ∀ w ∈ wsX70, w ∈ wsX2_wearDown := fun _ h => List.mem_cons_of_mem _ (List.mem_append_left _ (List.mem_append_right _ h))
  unfold f_X2_wearDown at hf
  refine lv_aload_n hx hb dX2_wearDown_0 rfl (lv_at hl 0 rfl) ?_
  refine lv_iload_n hx hb dX2_wearDown_1 rfl (lv_at hl 1 rfl) ?_
  obtain ⟨q1, hq1, hf⟩ := zb_e hf
  refine x_calli (x_runV (As := [.int x1]) (rest := []) ⟨hx, hb, hml, hown, hts⟩ (c_X2_isTool l G hG I J x0 x1 hk0 hq1) (cwV 1 hts gX2_wearDown_X2_isTool rfl rfl rfl (by decide +kernel) ⟨Nat.le_of_ble_eq_true rfl, Nat.le_of_ble_eq_true rfl⟩) hK hP hk0 (by decide) rfl rfl hl.1 rfl (Nat.le_of_ble_eq_true rfl) dX2_wearDown_2 ⟨Nat.zero_le _, Nat.zero_le _⟩) hS (fun H locs hP hS => ?_)
  refine lv_if_eq (tgt := 19) hx hb dX2_wearDown_5 (by decide) (fun c2 => ?_) (fun c2 => ?_)
  · have hf := zif_t c2 hf
    refine lv_iconst (v := (-1)) hx hb dX2_wearDown_19 (by decide) ?_
    obtain rfl := Option.some.inj hf
    exact x_iret hx hb hr hlocks hK hP hS dX2_wearDown_20
  · have hf := zif_f c2 hf
    refine lv_iload_n hx hb dX2_wearDown_8 rfl (lv_at hl 2 rfl) ?_
    refine lv_iconst (v := 1) hx hb dX2_wearDown_9 (by decide) ?_
    refine lv_icmp_lt (tgt := 19) hx hb dX2_wearDown_10 (by decide) (fun c3 => ?_) (fun c3 => ?_)
    · have hf := zif_t c3 hf
      refine lv_iconst (v := (-1)) hx hb dX2_wearDown_19 (by decide) ?_
      obtain rfl := Option.some.inj hf
      exact x_iret hx hb hr hlocks hK hP hS dX2_wearDown_20
    · have hf := zif_f c3 hf
      refine lv_iload_n hx hb dX2_wearDown_13 rfl (lv_at hl 2 rfl) ?_
      refine lv_bipush (v := 9) hx hb dX2_wearDown_14 (by decide) ?_
      refine lv_icmp_le (tgt := 21) hx hb dX2_wearDown_16 (by decide) (fun c4 => ?_) (fun c4 => ?_)
      · have hf := zif_t c4 hf
        refine lv_aload_n hx hb dX2_wearDown_21 rfl (lv_at hl 0 rfl) ?_
        refine lv_iload_n hx hb dX2_wearDown_22 rfl (lv_at hl 1 rfl) ?_
        obtain ⟨q5, hq5, hf⟩ := zb_e hf
        refine x_callr (x_runV (As := [.int x1]) (rest := []) ⟨hx, hb, hml, hown, hts⟩ (c_X2_toolAt l G hG I J x0 x1 hk0 hq5) (cwV 1 hts gX2_wearDown_X2_toolAt rfl rfl rfl (by decide +kernel) ⟨Nat.le_of_ble_eq_true rfl, Nat.le_of_ble_eq_true rfl⟩) hK hP hk0 (by decide) rfl rfl hl.1 rfl (Nat.le_of_ble_eq_true rfl) dX2_wearDown_23 ⟨Nat.zero_le _, Nat.zero_le _⟩) hS (fun H locs hP hS => ?_)
        refine lv_astore_n (lv' := [(3, .ref (G.2.1 (q5))), (0, .ref (G.2.1 (x0))), (1, .int x1), (2, .int x2)]) hx hb dX2_wearDown_26 rfl hl (by decide) rfl (fun ls hl => ?_)
        refine lv_aload_n hx hb dX2_wearDown_27 rfl (lv_at hl 0 rfl) ?_
        obtain ⟨q6, hq6, hf⟩ := zb_e hf
        refine x_calli (x_runV (As := []) (rest := []) ⟨hx, hb, hml, hown, hts⟩ (c_X7_isLeased l G hG I J q5 (kd_X2_toolAt hk0 hq5) hq6) (cwV 0 hts gX2_wearDown_X7_isLeased rfl rfl rfl (by decide +kernel) ⟨Nat.le_of_ble_eq_true rfl, Nat.le_of_ble_eq_true rfl⟩) hK hP (kd_X2_toolAt hk0 hq5) (by decide) rfl rfl hl.1 rfl (Nat.le_of_ble_eq_true rfl) dX2_wearDown_28 ⟨Nat.zero_le _, Nat.zero_le _⟩) hS (fun H locs hP hS => ?_)
        refine lv_if_ne (tgt := 37) hx hb dX2_wearDown_31 (by decide) (fun c7 => ?_) (fun c7 => ?_)
        · have hf := zif_f c7 hf
          refine lv_aload_n hx hb dX2_wearDown_37 rfl (lv_at hl 0 rfl) ?_
          refine lv_aload_n hx hb dX2_wearDown_38 rfl (lv_at hl 0 rfl) ?_
          refine x_get (j := 1) (v := .int (I q5 1)) hx hb hts hi7 hown hK hP (kd_X2_toolAt hk0 hq5) rfl (by decide) (hts (.fieldLink RX2 128 "LeaseOffice$Tool" "wear" "I") (by decide +kernel)) rfl (by decide) dX2_wearDown_39 ?_
          refine lv_iload_n hx hb dX2_wearDown_42 rfl (lv_at hl 3 rfl) ?_
          refine lv_iadd hx hb dX2_wearDown_43 ?_
          refine lv_bipush (v := 9) hx hb dX2_wearDown_44 (by decide) ?_
          obtain ⟨w8, ew8, hf⟩ := zlet_e hf
          refine va_mmin hx hb (hml.trans hl.1.symm) hown (hts (.methodLink RX2 102 Lib.Math.min.name) (by decide +kernel)) (hts (.static Lib.Math.min.name) (by decide +kernel)) (hts (.initialized "java/lang/Math") (by decide +kernel)) (hts (.code Lib.Math.min.name Lib.Math.min.code 2 (some .int)) (by decide +kernel)) (Nat.le_of_ble_eq_true rfl) (Nat.le_of_ble_eq_true rfl) (Nat.zero_le _) (Nat.zero_le _) dX2_wearDown_46 ?_
          refine z_topi ew8 ?_
          obtain ⟨M9, eM9, hf⟩ := zlet_e hf
          refine x_put (j := 1) (I2 := M9) (J2 := J) (ty0 := tyX7) (ty := .int) hx hb hts hi7 hown hG hK hP hS (kd_X2_toolAt hk0 hq5) rfl tyX7_ok nmX7 (by decide) (hts (.fieldLink RX2 128 "LeaseOffice$Tool" "wear" "I") (by decide +kernel)) rfl (by decide +kernel) rfl rfl (Nat.le_of_ble_eq_true rfl) (by rw [eM9]; exact zs_7_1 _) (by rw [eM9]; exact zo_C) (by decide) dX2_wearDown_49 (fun H locs hP hS => ?_)
          refine lv_aload_n hx hb dX2_wearDown_52 rfl (lv_at hl 0 rfl) ?_
          refine x_get (j := 1) (v := .int (M9 q5 1)) hx hb hts hi7 hown hK hP (kd_X2_toolAt hk0 hq5) rfl (by decide) (hts (.fieldLink RX2 128 "LeaseOffice$Tool" "wear" "I") (by decide +kernel)) rfl (by decide) dX2_wearDown_53 ?_
          obtain rfl := Option.some.inj hf
          exact x_iret hx hb hr hlocks hK hP hS dX2_wearDown_56
        · have hf := zif_t c7 hf
          refine lv_bipush (v := (-5)) hx hb dX2_wearDown_34 (by decide) ?_
          obtain rfl := Option.some.inj hf
          exact x_iret hx hb hr hlocks hK hP hS dX2_wearDown_36
      · have hf := zif_f c4 hf
        refine lv_iconst (v := (-1)) hx hb dX2_wearDown_19 (by decide) ?_
        obtain rfl := Option.some.inj hf
        exact x_iret hx hb hr hlocks hK hP hS dX2_wearDown_20
set_option maxRecDepth 100000 in
set_option maxHeartbeats 4000000 in
theorem c_X6_allCoins (l : Launch) (G : zGT) (hG : zOK G) (I J : zM) {r : Int32} (hf : f_X6_allCoins I = some r) : Met l yX6_allCoins wsX6_allCoins (zrm 1 21) (va_Pc [.ref (G.2.1 328)] (zS G I J)) (zQi G r I J) 0 0 (zA G) := by
  refine zMet (cc := cX6_allCoins) (n := 3) (ret := (some .int)) (by decide) rfl (Nat.le_of_ble_eq_true rfl) ?_
  intro p e s m args below meth c H locs ls F hK hP hS hl
  obtain ⟨hx, hb, hr, hml, hts, hown, hlocks⟩ := F
  have hown : s.vm.findClass RX6 = some m.cls := hown
  have hl : lv_has ls 3 [(0, .ref (G.2.1 328))] := hl
  have hi2 : ∀ w ∈ wsX20, w ∈ wsX6_allCoins := fun _ h => List.mem_cons_of_mem _ (List.mem_append_left _ (List.mem_append_left _ (List.mem_append_right _ h)))
  have hi3 : ∀ w ∈ wsX30, w ∈ wsX6_allCoins := fun _ h => List.mem_cons_of_mem _ (List.mem_append_left _ (List.mem_append_right _ h))
  have hi6 : ∀ w ∈ wsX60, w ∈ wsX6_allCoins := fun _ h => List.mem_cons_of_mem _ (List.mem_append_left _ (List.mem_append_left _ (List.mem_append_left _ (List.mem_append_right _ h))))
  have hi7 : ∀ w ∈ wsX70, w ∈ wsX6_allCoins := fun _ h => List.mem_cons_of_mem _ (List.mem_append_right _ h)
  have L10 : ∀ (K : Int32 → Option (Int32)) (hKK : ∀ (z1 : Int32) (H : Heap) (locs : List Loc) (ls : Array Slot), K z1 = some r → va_P G.1 vwCl (zW G I J) H → va_S (zA G) s.heap H locs → lv_has ls 3 [(0, .ref (G.2.1 328)), (1, .int z1)] → W p l e (zrm 1 21) s m args below meth c H locs 0 0 (MQ below (zQi G r I J) args s 0 0 (zA G)) (F0 m 41 ls [])) (n : Nat) (y1 : Int32) (y2 : Int32) (H : Heap) (locs : List Loc) (ls : Array Slot), f_X6_allCoins_l10 I K n y1 y2 = some r → va_P G.1 vwCl (zW G I J) H → va_S (zA G) s.heap H locs → lv_has ls 3 [(0, .ref (G.2.1 328)), (1, .int y1), (2, .int y2)] → W p l e (zrm 1 21) s m args below meth c H locs 0 0 (MQ below (zQi G r I J) args s 0 0 (zA G)) (F0 m 10 ls []) := by
    intro K hKK n
    induction n with
    | zero =>
      intro y1 y2 H locs ls hf
      rw [f_X6_allCoins_l10] at hf
      cases hf
    | succ n ih =>
      intro y1 y2 H locs ls hf hP hS hl
      rw [f_X6_allCoins_l10] at hf
      refine lv_iload_n hx hb dX6_allCoins_10 rfl (lv_at hl 2 rfl) ?_
      refine lv_aload_n hx hb dX6_allCoins_11 rfl (lv_at hl 0 rfl) ?_
      refine x_get (j := 0) (v := .ref (G.2.1 1)) hx hb hts hi6 hown hK hP zkL_328 rfl (by decide) (hts (.fieldLink RX6 12 "LeaseOffice$Thought" "office" "LLeaseOffice$Office;") (by decide +kernel)) rfl (by decide) dX6_allCoins_12 ?_
      refine x_get (j := 5) (v := .int (I 1 5)) hx hb hts hi2 hown hK hP zkL_1 rfl (by decide) (hts (.fieldLink RX6 88 "LeaseOffice$Office" "personCount" "I") (by decide +kernel)) rfl (by decide) dX6_allCoins_15 ?_
      refine lv_icmp_ge (tgt := 41) hx hb dX6_allCoins_18 (by decide) (fun c1 => ?_) (fun c1 => ?_)
      · have hf := zif_t c1 hf
        exact hKK y1 H locs ls hf hP hS (lv_sub hl [0, 1] rfl)
      · have hf := zif_f c1 hf
        refine lv_iload_n hx hb dX6_allCoins_21 rfl (lv_at hl 1 rfl) ?_
        refine lv_aload_n hx hb dX6_allCoins_22 rfl (lv_at hl 0 rfl) ?_
        refine x_get (j := 0) (v := .ref (G.2.1 1)) hx hb hts hi6 hown hK hP zkL_328 rfl (by decide) (hts (.fieldLink RX6 12 "LeaseOffice$Thought" "office" "LLeaseOffice$Office;") (by decide +kernel)) rfl (by decide) dX6_allCoins_23 ?_
        refine lv_iload_n hx hb dX6_allCoins_26 rfl (lv_at hl 2 rfl) ?_
        obtain ⟨q2, hq2, hf⟩ := zb_e hf
        refine x_callr (x_runV (As := [.int y2]) (rest := [.int y1]) ⟨hx, hb, hml, hown, hts⟩ (c_X2_personAt l G hG I J 1 y2 zkL_1 hq2) (cwV 1 hts gX6_allCoins_X2_personAt rfl rfl rfl (by decide +kernel) ⟨Nat.le_of_ble_eq_true rfl, Nat.le_of_ble_eq_true rfl⟩) hK hP zkL_1 (by decide) rfl rfl hl.1 rfl (Nat.le_of_ble_eq_true rfl) dX6_allCoins_27 ⟨Nat.zero_le _, Nat.zero_le _⟩) hS (fun H locs hP hS => ?_)
        refine x_get (j := 1) (v := .int (I q2 1)) hx hb hts hi3 hown hK hP (kd_X2_personAt zkL_1 hq2) rfl (by decide) (hts (.fieldLink RX6 95 "LeaseOffice$Person" "purse" "I") (by decide +kernel)) rfl (by decide) dX6_allCoins_30 ?_
        refine lv_iadd hx hb dX6_allCoins_33 ?_
        obtain ⟨w3, ew3, hf⟩ := zlet_e hf
        refine z_topi ew3 ?_
        refine lv_istore_n (lv' := [(1, .int w3), (0, .ref (G.2.1 328)), (2, .int y2)]) hx hb dX6_allCoins_34 rfl hl (by decide) rfl (fun ls hl => ?_)
        refine lv_iinc (v := (y2 + 1)) (lv' := [(2, .int (y2 + 1)), (1, .int w3), (0, .ref (G.2.1 328))]) hx hb dX6_allCoins_35 hl (k := 2) rfl rfl (by decide) rfl (fun ls hl => ?_)
        refine lv_goto (tgt := 10) hx hb dX6_allCoins_38 (by decide) ?_
        exact ih w3 (y2 + 1) H locs ls hf hP hS (lv_sub hl [2, 1, 0] rfl)
  have L43 : ∀ (n : Nat) (y1 : Int32) (y2 : Int32) (H : Heap) (locs : List Loc) (ls : Array Slot), f_X6_allCoins_l43 I n y1 y2 = some r → va_P G.1 vwCl (zW G I J) H → va_S (zA G) s.heap H locs → lv_has ls 3 [(0, .ref (G.2.1 328)), (1, .int y1), (2, .int y2)] → W p l e (zrm 1 21) s m args below meth c H locs 0 0 (MQ below (zQi G r I J) args s 0 0 (zA G)) (F0 m 43 ls []) := by
    intro n
    induction n with
    | zero =>
      intro y1 y2 H locs ls hf
      rw [f_X6_allCoins_l43] at hf
      cases hf
    | succ n ih =>
      intro y1 y2 H locs ls hf hP hS hl
      rw [f_X6_allCoins_l43] at hf
      refine lv_iload_n hx hb dX6_allCoins_43 rfl (lv_at hl 2 rfl) ?_
      refine lv_aload_n hx hb dX6_allCoins_44 rfl (lv_at hl 0 rfl) ?_
      refine x_get (j := 0) (v := .ref (G.2.1 1)) hx hb hts hi6 hown hK hP zkL_328 rfl (by decide) (hts (.fieldLink RX6 12 "LeaseOffice$Thought" "office" "LLeaseOffice$Office;") (by decide +kernel)) rfl (by decide) dX6_allCoins_45 ?_
      refine x_get (j := 6) (v := .int (I 1 6)) hx hb hts hi2 hown hK hP zkL_1 rfl (by decide) (hts (.fieldLink RX6 69 "LeaseOffice$Office" "toolCount" "I") (by decide +kernel)) rfl (by decide) dX6_allCoins_48 ?_
      refine lv_icmp_ge (tgt := 74) hx hb dX6_allCoins_51 (by decide) (fun c5 => ?_) (fun c5 => ?_)
      · have hf := zif_t c5 hf
        refine lv_iload_n hx hb dX6_allCoins_74 rfl (lv_at hl 1 rfl) ?_
        obtain rfl := Option.some.inj hf
        exact x_iret hx hb hr hlocks hK hP hS dX6_allCoins_75
      · have hf := zif_f c5 hf
        refine lv_iload_n hx hb dX6_allCoins_54 rfl (lv_at hl 1 rfl) ?_
        refine lv_aload_n hx hb dX6_allCoins_55 rfl (lv_at hl 0 rfl) ?_
        refine x_get (j := 0) (v := .ref (G.2.1 1)) hx hb hts hi6 hown hK hP zkL_328 rfl (by decide) (hts (.fieldLink RX6 12 "LeaseOffice$Thought" "office" "LLeaseOffice$Office;") (by decide +kernel)) rfl (by decide) dX6_allCoins_56 ?_
        refine lv_iload_n hx hb dX6_allCoins_59 rfl (lv_at hl 2 rfl) ?_
        obtain ⟨q6, hq6, hf⟩ := zb_e hf
        refine x_callr (x_runV (As := [.int y2]) (rest := [.int y1]) ⟨hx, hb, hml, hown, hts⟩ (c_X2_toolAt l G hG I J 1 y2 zkL_1 hq6) (cwV 1 hts gX6_allCoins_X2_toolAt rfl rfl rfl (by decide +kernel) ⟨Nat.le_of_ble_eq_true rfl, Nat.le_of_ble_eq_true rfl⟩) hK hP zkL_1 (by decide) rfl rfl hl.1 rfl (Nat.le_of_ble_eq_true rfl) dX6_allCoins_60 ⟨Nat.zero_le _, Nat.zero_le _⟩) hS (fun H locs hP hS => ?_)
        refine x_get (j := 5) (v := .int (I q6 5)) hx hb hts hi7 hown hK hP (kd_X2_toolAt zkL_1 hq6) rfl (by decide) (hts (.fieldLink RX6 100 "LeaseOffice$Tool" "deposit" "I") (by decide +kernel)) rfl (by decide) dX6_allCoins_63 ?_
        refine lv_iadd hx hb dX6_allCoins_66 ?_
        obtain ⟨w7, ew7, hf⟩ := zlet_e hf
        refine z_topi ew7 ?_
        refine lv_istore_n (lv' := [(1, .int w7), (0, .ref (G.2.1 328)), (2, .int y2)]) hx hb dX6_allCoins_67 rfl hl (by decide) rfl (fun ls hl => ?_)
        refine lv_iinc (v := (y2 + 1)) (lv' := [(2, .int (y2 + 1)), (1, .int w7), (0, .ref (G.2.1 328))]) hx hb dX6_allCoins_68 hl (k := 2) rfl rfl (by decide) rfl (fun ls hl => ?_)
        refine lv_goto (tgt := 43) hx hb dX6_allCoins_71 (by decide) ?_
        exact ih w7 (y2 + 1) H locs ls hf hP hS (lv_sub hl [2, 1, 0] rfl)
  unfold f_X6_allCoins at hf
  refine lv_aload_n hx hb dX6_allCoins_0 rfl (lv_at hl 0 rfl) ?_
  refine x_get (j := 0) (v := .ref (G.2.1 1)) hx hb hts hi6 hown hK hP zkL_328 rfl (by decide) (hts (.fieldLink RX6 12 "LeaseOffice$Thought" "office" "LLeaseOffice$Office;") (by decide +kernel)) rfl (by decide) dX6_allCoins_1 ?_
  refine x_get (j := 8) (v := .int (I 1 8)) hx hb hts hi2 hown hK hP zkL_1 rfl (by decide) (hts (.fieldLink RX6 85 "LeaseOffice$Office" "till" "I") (by decide +kernel)) rfl (by decide) dX6_allCoins_4 ?_
  refine lv_istore_n (lv' := [(1, .int (I 1 8)), (0, .ref (G.2.1 328))]) hx hb dX6_allCoins_7 rfl hl (by decide) rfl (fun ls hl => ?_)
  refine lv_iconst (v := 0) hx hb dX6_allCoins_8 (by decide) ?_
  refine lv_istore_n (lv' := [(2, .int 0), (1, .int (I 1 8)), (0, .ref (G.2.1 328))]) hx hb dX6_allCoins_9 rfl hl (by decide) rfl (fun ls hl => ?_)
  refine L10 _ (fun z4 H locs ls hf hP hS hl => ?_) zFu (I 1 8) 0 H locs ls hf hP hS (lv_sub hl [2, 1, 0] rfl)
  refine lv_iconst (v := 0) hx hb dX6_allCoins_41 (by decide) ?_
  refine lv_istore_n (lv' := [(2, .int 0), (0, .ref (G.2.1 328)), (1, .int z4)]) hx hb dX6_allCoins_42 rfl hl (by decide) rfl (fun ls hl => ?_)
  exact L43 zFu z4 0 H locs ls hf hP hS (lv_sub hl [1, 2, 0] rfl)
set_option maxRecDepth 100000 in
set_option maxHeartbeats 4000000 in
theorem c_X6_allDebts (l : Launch) (G : zGT) (hG : zOK G) (I J : zM) {r : Int32} (hf : f_X6_allDebts I = some r) : Met l yX6_allDebts wsX6_allDebts (zrm 1 21) (va_Pc [.ref (G.2.1 328)] (zS G I J)) (zQi G r I J) 0 0 (zA G) := by
  refine zMet (cc := cX6_allDebts) (n := 3) (ret := (some .int)) (by decide) rfl (Nat.le_of_ble_eq_true rfl) ?_
  intro p e s m args below meth c H locs ls F hK hP hS hl
  obtain ⟨hx, hb, hr, hml, hts, hown, hlocks⟩ := F
  have hown : s.vm.findClass RX6 = some m.cls := hown
  have hl : lv_has ls 3 [(0, .ref (G.2.1 328))] := hl
  have hi2 : ∀ w ∈ wsX20, w ∈ wsX6_allDebts := fun _ h => List.mem_cons_of_mem _ (List.mem_append_left _ (List.mem_append_right _ h))
  have hi3 : ∀ w ∈ wsX30, w ∈ wsX6_allDebts := fun _ h => List.mem_cons_of_mem _ (List.mem_append_right _ h)
  have hi6 : ∀ w ∈ wsX60, w ∈ wsX6_allDebts := fun _ h => List.mem_cons_of_mem _ (List.mem_append_left _ (List.mem_append_left _ (List.mem_append_right _ h)))
  have L4 : ∀ (n : Nat) (y1 : Int32) (y2 : Int32) (H : Heap) (locs : List Loc) (ls : Array Slot), f_X6_allDebts_l4 I n y1 y2 = some r → va_P G.1 vwCl (zW G I J) H → va_S (zA G) s.heap H locs → lv_has ls 3 [(0, .ref (G.2.1 328)), (1, .int y1), (2, .int y2)] → W p l e (zrm 1 21) s m args below meth c H locs 0 0 (MQ below (zQi G r I J) args s 0 0 (zA G)) (F0 m 4 ls []) := by
    intro n
    induction n with
    | zero =>
      intro y1 y2 H locs ls hf
      rw [f_X6_allDebts_l4] at hf
      cases hf
    | succ n ih =>
      intro y1 y2 H locs ls hf hP hS hl
      rw [f_X6_allDebts_l4] at hf
      refine lv_iload_n hx hb dX6_allDebts_4 rfl (lv_at hl 2 rfl) ?_
      refine lv_aload_n hx hb dX6_allDebts_5 rfl (lv_at hl 0 rfl) ?_
      refine x_get (j := 0) (v := .ref (G.2.1 1)) hx hb hts hi6 hown hK hP zkL_328 rfl (by decide) (hts (.fieldLink RX6 12 "LeaseOffice$Thought" "office" "LLeaseOffice$Office;") (by decide +kernel)) rfl (by decide) dX6_allDebts_6 ?_
      refine x_get (j := 5) (v := .int (I 1 5)) hx hb hts hi2 hown hK hP zkL_1 rfl (by decide) (hts (.fieldLink RX6 88 "LeaseOffice$Office" "personCount" "I") (by decide +kernel)) rfl (by decide) dX6_allDebts_9 ?_
      refine lv_icmp_ge (tgt := 35) hx hb dX6_allDebts_12 (by decide) (fun c1 => ?_) (fun c1 => ?_)
      · have hf := zif_t c1 hf
        refine lv_iload_n hx hb dX6_allDebts_35 rfl (lv_at hl 1 rfl) ?_
        obtain rfl := Option.some.inj hf
        exact x_iret hx hb hr hlocks hK hP hS dX6_allDebts_36
      · have hf := zif_f c1 hf
        refine lv_iload_n hx hb dX6_allDebts_15 rfl (lv_at hl 1 rfl) ?_
        refine lv_aload_n hx hb dX6_allDebts_16 rfl (lv_at hl 0 rfl) ?_
        refine x_get (j := 0) (v := .ref (G.2.1 1)) hx hb hts hi6 hown hK hP zkL_328 rfl (by decide) (hts (.fieldLink RX6 12 "LeaseOffice$Thought" "office" "LLeaseOffice$Office;") (by decide +kernel)) rfl (by decide) dX6_allDebts_17 ?_
        refine lv_iload_n hx hb dX6_allDebts_20 rfl (lv_at hl 2 rfl) ?_
        obtain ⟨q2, hq2, hf⟩ := zb_e hf
        refine x_callr (x_runV (As := [.int y2]) (rest := [.int y1]) ⟨hx, hb, hml, hown, hts⟩ (c_X2_personAt l G hG I J 1 y2 zkL_1 hq2) (cwV 1 hts gX6_allDebts_X2_personAt rfl rfl rfl (by decide +kernel) ⟨Nat.le_of_ble_eq_true rfl, Nat.le_of_ble_eq_true rfl⟩) hK hP zkL_1 (by decide) rfl rfl hl.1 rfl (Nat.le_of_ble_eq_true rfl) dX6_allDebts_21 ⟨Nat.zero_le _, Nat.zero_le _⟩) hS (fun H locs hP hS => ?_)
        refine x_get (j := 4) (v := .int (I q2 4)) hx hb hts hi3 hown hK hP (kd_X2_personAt zkL_1 hq2) rfl (by decide) (hts (.fieldLink RX6 103 "LeaseOffice$Person" "debt" "I") (by decide +kernel)) rfl (by decide) dX6_allDebts_24 ?_
        refine lv_iadd hx hb dX6_allDebts_27 ?_
        obtain ⟨w3, ew3, hf⟩ := zlet_e hf
        refine z_topi ew3 ?_
        refine lv_istore_n (lv' := [(1, .int w3), (0, .ref (G.2.1 328)), (2, .int y2)]) hx hb dX6_allDebts_28 rfl hl (by decide) rfl (fun ls hl => ?_)
        refine lv_iinc (v := (y2 + 1)) (lv' := [(2, .int (y2 + 1)), (1, .int w3), (0, .ref (G.2.1 328))]) hx hb dX6_allDebts_29 hl (k := 2) rfl rfl (by decide) rfl (fun ls hl => ?_)
        refine lv_goto (tgt := 4) hx hb dX6_allDebts_32 (by decide) ?_
        exact ih w3 (y2 + 1) H locs ls hf hP hS (lv_sub hl [2, 1, 0] rfl)
  unfold f_X6_allDebts at hf
  refine lv_iconst (v := 0) hx hb dX6_allDebts_0 (by decide) ?_
  refine lv_istore_n (lv' := [(1, .int 0), (0, .ref (G.2.1 328))]) hx hb dX6_allDebts_1 rfl hl (by decide) rfl (fun ls hl => ?_)
  refine lv_iconst (v := 0) hx hb dX6_allDebts_2 (by decide) ?_
  refine lv_istore_n (lv' := [(2, .int 0), (1, .int 0), (0, .ref (G.2.1 328))]) hx hb dX6_allDebts_3 rfl hl (by decide) rfl (fun ls hl => ?_)
  exact L4 zFu 0 0 H locs ls hf hP hS (lv_sub hl [2, 1, 0] rfl)
set_option maxRecDepth 100000 in
set_option maxHeartbeats 4000000 in
theorem c_X6_canBeSwapped (l : Launch) (G : zGT) (hG : zOK G) (I J : zM) (x1 : Int32) (x2 : Int32) {r : Int32} (hf : f_X6_canBeSwapped I x1 x2 = some r) : Met l yX6_canBeSwapped wsX6_canBeSwapped (zrm 3 68) (va_Pc [.ref (G.2.1 328), .int x1, .int x2] (zS G I J)) (zQi G r I J) 0 0 (zA G) := by
  refine zMet (cc := cX6_canBeSwapped) (n := 3) (ret := (some .boolean)) (by decide) rfl (Nat.le_of_ble_eq_true rfl) ?_
  intro p e s m args below meth c H locs ls F hK hP hS hl
  obtain ⟨hx, hb, hr, hml, hts, hown, hlocks⟩ := F
  have hown : s.vm.findClass RX6 = some m.cls := hown
  have hl : lv_has ls 3 [(0, .ref (G.2.1 328)), (1, .int x1), (2, .int x2)] := hl
  have hi6 : ∀ w ∈ wsX60, w ∈ wsX6_canBeSwapped := fun _ h => List.mem_cons_of_mem _ (List.mem_append_left _ (List.mem_append_left _ (List.mem_append_left _ (List.mem_append_right _ h))))
  unfold f_X6_canBeSwapped at hf
  refine lv_aload_n hx hb dX6_canBeSwapped_0 rfl (lv_at hl 0 rfl) ?_
  refine x_get (j := 0) (v := .ref (G.2.1 1)) hx hb hts hi6 hown hK hP zkL_328 rfl (by decide) (hts (.fieldLink RX6 12 "LeaseOffice$Thought" "office" "LLeaseOffice$Office;") (by decide +kernel)) rfl (by decide) dX6_canBeSwapped_1 ?_
  refine lv_iload_n hx hb dX6_canBeSwapped_4 rfl (lv_at hl 1 rfl) ?_
  refine lv_iload_n hx hb dX6_canBeSwapped_5 rfl (lv_at hl 2 rfl) ?_
  obtain ⟨q1, hq1, hf⟩ := zb_e hf
  refine x_calli (x_runV (As := [.int x1, .int x2]) (rest := []) ⟨hx, hb, hml, hown, hts⟩ (c_X2_haveTwoHolders l G hG I J 1 x1 x2 zkL_1 hq1) (cwV 2 hts gX6_canBeSwapped_X2_haveTwoHolders rfl rfl rfl (by decide +kernel) ⟨Nat.le_of_ble_eq_true rfl, Nat.le_of_ble_eq_true rfl⟩) hK hP zkL_1 (by decide) rfl rfl hl.1 rfl (Nat.le_of_ble_eq_true rfl) dX6_canBeSwapped_6 ⟨Nat.zero_le _, Nat.zero_le _⟩) hS (fun H locs hP hS => ?_)
  refine lv_if_eq (tgt := 40) hx hb dX6_canBeSwapped_9 (by decide) (fun c2 => ?_) (fun c2 => ?_)
  · have hf := zif_t c2 hf
    refine lv_iconst (v := 0) hx hb dX6_canBeSwapped_40 (by decide) ?_
    obtain rfl := Option.some.inj hf
    exact x_zret (v := 0) rfl hx hb hr hlocks hK hP hS dX6_canBeSwapped_41
  · have hf := zif_f c2 hf
    refine lv_aload_n hx hb dX6_canBeSwapped_12 rfl (lv_at hl 0 rfl) ?_
    refine x_get (j := 0) (v := .ref (G.2.1 1)) hx hb hts hi6 hown hK hP zkL_328 rfl (by decide) (hts (.fieldLink RX6 12 "LeaseOffice$Thought" "office" "LLeaseOffice$Office;") (by decide +kernel)) rfl (by decide) dX6_canBeSwapped_13 ?_
    refine lv_iload_n hx hb dX6_canBeSwapped_16 rfl (lv_at hl 1 rfl) ?_
    refine lv_iload_n hx hb dX6_canBeSwapped_17 rfl (lv_at hl 2 rfl) ?_
    obtain ⟨q3, hq3, hf⟩ := zb_e hf
    refine x_calli (x_runV (As := [.int x1, .int x2]) (rest := []) ⟨hx, hb, hml, hown, hts⟩ (c_X2_gainOf l G hG I J 1 x1 x2 zkL_1 hq3) (cwV 2 hts gX6_canBeSwapped_X2_gainOf rfl rfl rfl (by decide +kernel) ⟨Nat.le_of_ble_eq_true rfl, Nat.le_of_ble_eq_true rfl⟩) hK hP zkL_1 (by decide) rfl rfl hl.1 rfl (Nat.le_of_ble_eq_true rfl) dX6_canBeSwapped_18 ⟨Nat.zero_le _, Nat.zero_le _⟩) hS (fun H locs hP hS => ?_)
    refine lv_if_le (tgt := 40) hx hb dX6_canBeSwapped_21 (by decide) (fun c4 => ?_) (fun c4 => ?_)
    · have hf := zif_t c4 hf
      refine lv_iconst (v := 0) hx hb dX6_canBeSwapped_40 (by decide) ?_
      obtain rfl := Option.some.inj hf
      exact x_zret (v := 0) rfl hx hb hr hlocks hK hP hS dX6_canBeSwapped_41
    · have hf := zif_f c4 hf
      refine lv_aload_n hx hb dX6_canBeSwapped_24 rfl (lv_at hl 0 rfl) ?_
      refine x_get (j := 0) (v := .ref (G.2.1 1)) hx hb hts hi6 hown hK hP zkL_328 rfl (by decide) (hts (.fieldLink RX6 12 "LeaseOffice$Thought" "office" "LLeaseOffice$Office;") (by decide +kernel)) rfl (by decide) dX6_canBeSwapped_25 ?_
      refine lv_iload_n hx hb dX6_canBeSwapped_28 rfl (lv_at hl 1 rfl) ?_
      refine lv_iload_n hx hb dX6_canBeSwapped_29 rfl (lv_at hl 2 rfl) ?_
      obtain ⟨q5, hq5, hf⟩ := zb_e hf
      refine x_calli (x_runV (As := [.int x1, .int x2]) (rest := []) ⟨hx, hb, hml, hown, hts⟩ (c_X2_whyNotBothPassed l G hG I J 1 x1 x2 zkL_1 hq5) (cwV 2 hts gX6_canBeSwapped_X2_whyNotBothPassed rfl rfl rfl (by decide +kernel) ⟨Nat.le_of_ble_eq_true rfl, Nat.le_of_ble_eq_true rfl⟩) hK hP zkL_1 (by decide) rfl rfl hl.1 rfl (Nat.le_of_ble_eq_true rfl) dX6_canBeSwapped_30 ⟨Nat.zero_le _, Nat.zero_le _⟩) hS (fun H locs hP hS => ?_)
      refine lv_if_ne (tgt := 40) hx hb dX6_canBeSwapped_33 (by decide) (fun c6 => ?_) (fun c6 => ?_)
      · have hf := zif_f c6 hf
        refine lv_iconst (v := 0) hx hb dX6_canBeSwapped_40 (by decide) ?_
        obtain rfl := Option.some.inj hf
        exact x_zret (v := 0) rfl hx hb hr hlocks hK hP hS dX6_canBeSwapped_41
      · have hf := zif_t c6 hf
        refine lv_iconst (v := 1) hx hb dX6_canBeSwapped_36 (by decide) ?_
        refine lv_goto (tgt := 41) hx hb dX6_canBeSwapped_37 (by decide) ?_
        obtain rfl := Option.some.inj hf
        exact x_zret (v := 1) rfl hx hb hr hlocks hK hP hS dX6_canBeSwapped_41
set_option maxRecDepth 100000 in
set_option maxHeartbeats 4000000 in
theorem c_X6_bestSwap (l : Launch) (G : zGT) (hG : zOK G) (I J : zM) {r : Int32} (hf : f_X6_bestSwap I = some r) : Met l yX6_bestSwap wsX6_bestSwap (zrm 4 90) (va_Pc [.ref (G.2.1 328)] (zS G I J)) (zQi G r I J) 0 0 (zA G) := by
  refine zMet (cc := cX6_bestSwap) (n := 5) (ret := (some .int)) (by decide) rfl (Nat.le_of_ble_eq_true rfl) ?_
  intro p e s m args below meth c H locs ls F hK hP hS hl
  obtain ⟨hx, hb, hr, hml, hts, hown, hlocks⟩ := F
  have hown : s.vm.findClass RX6 = some m.cls := hown
  have hl : lv_has ls 5 [(0, .ref (G.2.1 328))] := hl
  have hi2 : ∀ w ∈ wsX20, w ∈ wsX6_bestSwap := fun _ h => List.mem_cons_of_mem _ (List.mem_append_left _ (List.mem_append_left _ (List.mem_append_right _ h)))
  have hi6 : ∀ w ∈ wsX60, w ∈ wsX6_bestSwap := fun _ h => List.mem_cons_of_mem _ (List.mem_append_left _ (List.mem_append_left _ (List.mem_append_left _ (List.mem_append_right _ h))))
  have L23 : ∀ (y3 : Int32) (K : Int32 → Int32 → Option (Int32)) (hKK : ∀ (z1 : Int32) (z2 : Int32) (H : Heap) (locs : List Loc) (ls : Array Slot), K z1 z2 = some r → va_P G.1 vwCl (zW G I J) H → va_S (zA G) s.heap H locs → lv_has ls 5 [(0, .ref (G.2.1 328)), (1, .int z1), (2, .int z2), (3, .int y3)] → W p l e (zrm 4 90) s m args below meth c H locs 0 0 (MQ below (zQi G r I J) args s 0 0 (zA G)) (F0 m 84 ls [])) (n : Nat) (y1 : Int32) (y2 : Int32) (y4 : Int32) (H : Heap) (locs : List Loc) (ls : Array Slot), f_X6_bestSwap_l23 I y3 K n y1 y2 y4 = some r → va_P G.1 vwCl (zW G I J) H → va_S (zA G) s.heap H locs → lv_has ls 5 [(0, .ref (G.2.1 328)), (1, .int y1), (2, .int y2), (3, .int y3), (4, .int y4)] → W p l e (zrm 4 90) s m args below meth c H locs 0 0 (MQ below (zQi G r I J) args s 0 0 (zA G)) (F0 m 23 ls []) := by
    intro y3 K hKK n
    induction n with
    | zero =>
      intro y1 y2 y4 H locs ls hf
      rw [f_X6_bestSwap_l23] at hf
      cases hf
    | succ n ih =>
      intro y1 y2 y4 H locs ls hf hP hS hl
      rw [f_X6_bestSwap_l23] at hf
      refine lv_iload hx hb dX6_bestSwap_23 (lv_at hl 4 rfl) ?_
      refine lv_aload_n hx hb dX6_bestSwap_25 rfl (lv_at hl 0 rfl) ?_
      refine x_get (j := 0) (v := .ref (G.2.1 1)) hx hb hts hi6 hown hK hP zkL_328 rfl (by decide) (hts (.fieldLink RX6 12 "LeaseOffice$Thought" "office" "LLeaseOffice$Office;") (by decide +kernel)) rfl (by decide) dX6_bestSwap_26 ?_
      refine x_get (j := 6) (v := .int (I 1 6)) hx hb hts hi2 hown hK hP zkL_1 rfl (by decide) (hts (.fieldLink RX6 69 "LeaseOffice$Office" "toolCount" "I") (by decide +kernel)) rfl (by decide) dX6_bestSwap_29 ?_
      refine lv_icmp_ge (tgt := 84) hx hb dX6_bestSwap_32 (by decide) (fun c3 => ?_) (fun c3 => ?_)
      · have hf := zif_t c3 hf
        exact hKK y1 y2 H locs ls hf hP hS (lv_sub hl [0, 1, 2, 3] rfl)
      · have hf := zif_f c3 hf
        refine lv_aload_n hx hb dX6_bestSwap_35 rfl (lv_at hl 0 rfl) ?_
        refine x_get (j := 0) (v := .ref (G.2.1 1)) hx hb hts hi6 hown hK hP zkL_328 rfl (by decide) (hts (.fieldLink RX6 12 "LeaseOffice$Thought" "office" "LLeaseOffice$Office;") (by decide +kernel)) rfl (by decide) dX6_bestSwap_36 ?_
        refine lv_iload_n hx hb dX6_bestSwap_39 rfl (lv_at hl 3 rfl) ?_
        refine lv_iload hx hb dX6_bestSwap_40 (lv_at hl 4 rfl) ?_
        obtain ⟨q4, hq4, hf⟩ := zb_e hf
        refine x_calli (x_runV (As := [.int y3, .int y4]) (rest := []) ⟨hx, hb, hml, hown, hts⟩ (c_X2_gainOf l G hG I J 1 y3 y4 zkL_1 hq4) (cwV 2 hts gX6_bestSwap_X2_gainOf rfl rfl rfl (by decide +kernel) ⟨Nat.le_of_ble_eq_true rfl, Nat.le_of_ble_eq_true rfl⟩) hK hP zkL_1 (by decide) rfl rfl hl.1 rfl (Nat.le_of_ble_eq_true rfl) dX6_bestSwap_42 ⟨Nat.zero_le _, Nat.zero_le _⟩) hS (fun H locs hP hS => ?_)
        refine lv_iload_n hx hb dX6_bestSwap_45 rfl (lv_at hl 2 rfl) ?_
        refine lv_icmp_le (tgt := 78) hx hb dX6_bestSwap_46 (by decide) (fun c5 => ?_) (fun c5 => ?_)
        · have hf := zif_t c5 hf
          refine lv_iinc (v := (y4 + 1)) (lv' := [(4, .int (y4 + 1)), (0, .ref (G.2.1 328)), (1, .int y1), (2, .int y2), (3, .int y3)]) hx hb dX6_bestSwap_78 hl (k := 4) rfl rfl (by decide) rfl (fun ls hl => ?_)
          refine lv_goto (tgt := 23) hx hb dX6_bestSwap_81 (by decide) ?_
          exact ih y1 y2 (y4 + 1) H locs ls hf hP hS (lv_sub hl [1, 2, 3, 4, 0] rfl)
        · have hf := zif_f c5 hf
          refine lv_aload_n hx hb dX6_bestSwap_49 rfl (lv_at hl 0 rfl) ?_
          refine lv_iload_n hx hb dX6_bestSwap_50 rfl (lv_at hl 3 rfl) ?_
          refine lv_iload hx hb dX6_bestSwap_51 (lv_at hl 4 rfl) ?_
          obtain ⟨q6, hq6, hf⟩ := zb_e hf
          refine x_calli (x_runV (As := [.int y3, .int y4]) (rest := []) ⟨hx, hb, hml, hown, hts⟩ (c_X6_canBeSwapped l G hG I J y3 y4 hq6) (cwV 2 hts gX6_bestSwap_X6_canBeSwapped rfl rfl rfl (by decide +kernel) ⟨Nat.le_of_ble_eq_true rfl, Nat.le_of_ble_eq_true rfl⟩) hK hP zkL_328 (by decide) rfl rfl hl.1 rfl (Nat.le_of_ble_eq_true rfl) dX6_bestSwap_53 ⟨Nat.zero_le _, Nat.zero_le _⟩) hS (fun H locs hP hS => ?_)
          refine lv_if_eq (tgt := 78) hx hb dX6_bestSwap_56 (by decide) (fun c7 => ?_) (fun c7 => ?_)
          · have hf := zif_t c7 hf
            refine lv_iinc (v := (y4 + 1)) (lv' := [(4, .int (y4 + 1)), (0, .ref (G.2.1 328)), (1, .int y1), (2, .int y2), (3, .int y3)]) hx hb dX6_bestSwap_78 hl (k := 4) rfl rfl (by decide) rfl (fun ls hl => ?_)
            refine lv_goto (tgt := 23) hx hb dX6_bestSwap_81 (by decide) ?_
            exact ih y1 y2 (y4 + 1) H locs ls hf hP hS (lv_sub hl [1, 2, 3, 4, 0] rfl)
          · have hf := zif_f c7 hf
            refine lv_aload_n hx hb dX6_bestSwap_59 rfl (lv_at hl 0 rfl) ?_
            refine x_get (j := 0) (v := .ref (G.2.1 1)) hx hb hts hi6 hown hK hP zkL_328 rfl (by decide) (hts (.fieldLink RX6 12 "LeaseOffice$Thought" "office" "LLeaseOffice$Office;") (by decide +kernel)) rfl (by decide) dX6_bestSwap_60 ?_
            refine lv_iload_n hx hb dX6_bestSwap_63 rfl (lv_at hl 3 rfl) ?_
            refine lv_iload hx hb dX6_bestSwap_64 (lv_at hl 4 rfl) ?_
            obtain ⟨q8, hq8, hf⟩ := zb_e hf
            refine x_calli (x_runV (As := [.int y3, .int y4]) (rest := []) ⟨hx, hb, hml, hown, hts⟩ (c_X2_gainOf l G hG I J 1 y3 y4 zkL_1 hq8) (cwV 2 hts gX6_bestSwap_X2_gainOf rfl rfl rfl (by decide +kernel) ⟨Nat.le_of_ble_eq_true rfl, Nat.le_of_ble_eq_true rfl⟩) hK hP zkL_1 (by decide) rfl rfl hl.1 rfl (Nat.le_of_ble_eq_true rfl) dX6_bestSwap_66 ⟨Nat.zero_le _, Nat.zero_le _⟩) hS (fun H locs hP hS => ?_)
            refine lv_istore_n (lv' := [(2, .int q8), (0, .ref (G.2.1 328)), (1, .int y1), (3, .int y3), (4, .int y4)]) hx hb dX6_bestSwap_69 rfl hl (by decide) rfl (fun ls hl => ?_)
            refine lv_bipush (v := 10) hx hb dX6_bestSwap_70 (by decide) ?_
            refine lv_iload_n hx hb dX6_bestSwap_72 rfl (lv_at hl 3 rfl) ?_
            refine lv_imul hx hb dX6_bestSwap_73 ?_
            refine lv_iload hx hb dX6_bestSwap_74 (lv_at hl 4 rfl) ?_
            refine lv_iadd hx hb dX6_bestSwap_76 ?_
            obtain ⟨w9, ew9, hf⟩ := zlet_e hf
            refine z_topi ew9 ?_
            refine lv_istore_n (lv' := [(1, .int w9), (2, .int q8), (0, .ref (G.2.1 328)), (3, .int y3), (4, .int y4)]) hx hb dX6_bestSwap_77 rfl hl (by decide) rfl (fun ls hl => ?_)
            refine lv_iinc (v := (y4 + 1)) (lv' := [(4, .int (y4 + 1)), (1, .int w9), (2, .int q8), (0, .ref (G.2.1 328)), (3, .int y3)]) hx hb dX6_bestSwap_78 hl (k := 4) rfl rfl (by decide) rfl (fun ls hl => ?_)
            refine lv_goto (tgt := 23) hx hb dX6_bestSwap_81 (by decide) ?_
            exact ih w9 q8 (y4 + 1) H locs ls hf hP hS (lv_sub hl [3, 1, 2, 4, 0] rfl)
  have L7 : ∀ (n : Nat) (y1 : Int32) (y2 : Int32) (y3 : Int32) (H : Heap) (locs : List Loc) (ls : Array Slot), f_X6_bestSwap_l7 I n y1 y2 y3 = some r → va_P G.1 vwCl (zW G I J) H → va_S (zA G) s.heap H locs → lv_has ls 5 [(0, .ref (G.2.1 328)), (1, .int y1), (2, .int y2), (3, .int y3)] → W p l e (zrm 4 90) s m args below meth c H locs 0 0 (MQ below (zQi G r I J) args s 0 0 (zA G)) (F0 m 7 ls []) := by
    intro n
    induction n with
    | zero =>
      intro y1 y2 y3 H locs ls hf
      rw [f_X6_bestSwap_l7] at hf
      cases hf
    | succ n ih =>
      intro y1 y2 y3 H locs ls hf hP hS hl
      rw [f_X6_bestSwap_l7] at hf
      refine lv_iload_n hx hb dX6_bestSwap_7 rfl (lv_at hl 3 rfl) ?_
      refine lv_aload_n hx hb dX6_bestSwap_8 rfl (lv_at hl 0 rfl) ?_
      refine x_get (j := 0) (v := .ref (G.2.1 1)) hx hb hts hi6 hown hK hP zkL_328 rfl (by decide) (hts (.fieldLink RX6 12 "LeaseOffice$Thought" "office" "LLeaseOffice$Office;") (by decide +kernel)) rfl (by decide) dX6_bestSwap_9 ?_
      refine x_get (j := 6) (v := .int (I 1 6)) hx hb hts hi2 hown hK hP zkL_1 rfl (by decide) (hts (.fieldLink RX6 69 "LeaseOffice$Office" "toolCount" "I") (by decide +kernel)) rfl (by decide) dX6_bestSwap_12 ?_
      refine lv_icmp_ge (tgt := 90) hx hb dX6_bestSwap_15 (by decide) (fun c1 => ?_) (fun c1 => ?_)
      · have hf := zif_t c1 hf
        refine lv_iload_n hx hb dX6_bestSwap_90 rfl (lv_at hl 1 rfl) ?_
        obtain rfl := Option.some.inj hf
        exact x_iret hx hb hr hlocks hK hP hS dX6_bestSwap_91
      · have hf := zif_f c1 hf
        refine lv_iload_n hx hb dX6_bestSwap_18 rfl (lv_at hl 3 rfl) ?_
        refine lv_iconst (v := 1) hx hb dX6_bestSwap_19 (by decide) ?_
        refine lv_iadd hx hb dX6_bestSwap_20 ?_
        obtain ⟨w2, ew2, hf⟩ := zlet_e hf
        refine z_topi ew2 ?_
        refine lv_istore (lv' := [(4, .int w2), (0, .ref (G.2.1 328)), (1, .int y1), (2, .int y2), (3, .int y3)]) hx hb dX6_bestSwap_21 hl (by decide) rfl (fun ls hl => ?_)
        refine L23 y3 _ (fun z10 z11 H locs ls hf hP hS hl => ?_) zFu y1 y2 w2 H locs ls hf hP hS (lv_sub hl [1, 2, 3, 4, 0] rfl)
        refine lv_iinc (v := (y3 + 1)) (lv' := [(3, .int (y3 + 1)), (0, .ref (G.2.1 328)), (1, .int z10), (2, .int z11)]) hx hb dX6_bestSwap_84 hl (k := 3) rfl rfl (by decide) rfl (fun ls hl => ?_)
        refine lv_goto (tgt := 7) hx hb dX6_bestSwap_87 (by decide) ?_
        exact ih z10 z11 (y3 + 1) H locs ls hf hP hS (lv_sub hl [1, 2, 3, 0] rfl)
  unfold f_X6_bestSwap at hf
  refine lv_bipush (v := (-2)) hx hb dX6_bestSwap_0 (by decide) ?_
  refine lv_istore_n (lv' := [(1, .int (-2)), (0, .ref (G.2.1 328))]) hx hb dX6_bestSwap_2 rfl hl (by decide) rfl (fun ls hl => ?_)
  refine lv_iconst (v := 0) hx hb dX6_bestSwap_3 (by decide) ?_
  refine lv_istore_n (lv' := [(2, .int 0), (1, .int (-2)), (0, .ref (G.2.1 328))]) hx hb dX6_bestSwap_4 rfl hl (by decide) rfl (fun ls hl => ?_)
  refine lv_iconst (v := 0) hx hb dX6_bestSwap_5 (by decide) ?_
  refine lv_istore_n (lv' := [(3, .int 0), (2, .int 0), (1, .int (-2)), (0, .ref (G.2.1 328))]) hx hb dX6_bestSwap_6 rfl hl (by decide) rfl (fun ls hl => ?_)
  exact L7 zFu (-2) 0 0 H locs ls hf hP hS (lv_sub hl [3, 2, 1, 0] rfl)
set_option maxRecDepth 100000 in
set_option maxHeartbeats 4000000 in
theorem c_X6_claimCount (l : Launch) (G : zGT) (hG : zOK G) (I J : zM) {r : Int32} (hf : f_X6_claimCount I = some r) : Met l yX6_claimCount wsX6_claimCount (zrm 1 21) (va_Pc [.ref (G.2.1 328)] (zS G I J)) (zQi G r I J) 0 0 (zA G) := by
  refine zMet (cc := cX6_claimCount) (n := 3) (ret := (some .int)) (by decide) rfl (Nat.le_of_ble_eq_true rfl) ?_
  intro p e s m args below meth c H locs ls F hK hP hS hl
  obtain ⟨hx, hb, hr, hml, hts, hown, hlocks⟩ := F
  have hown : s.vm.findClass RX6 = some m.cls := hown
  have hl : lv_has ls 3 [(0, .ref (G.2.1 328))] := hl
  have hi2 : ∀ w ∈ wsX20, w ∈ wsX6_claimCount := fun _ h => List.mem_cons_of_mem _ (List.mem_append_left _ (List.mem_append_left _ (List.mem_append_right _ h)))
  have hi6 : ∀ w ∈ wsX60, w ∈ wsX6_claimCount := fun _ h => List.mem_cons_of_mem _ (List.mem_append_left _ (List.mem_append_left _ (List.mem_append_left _ (List.mem_append_right _ h))))
  have hi7 : ∀ w ∈ wsX70, w ∈ wsX6_claimCount := fun _ h => List.mem_cons_of_mem _ (List.mem_append_left _ (List.mem_append_right _ h))
  have L4 : ∀ (n : Nat) (y1 : Int32) (y2 : Int32) (H : Heap) (locs : List Loc) (ls : Array Slot), f_X6_claimCount_l4 I n y1 y2 = some r → va_P G.1 vwCl (zW G I J) H → va_S (zA G) s.heap H locs → lv_has ls 3 [(0, .ref (G.2.1 328)), (1, .int y1), (2, .int y2)] → W p l e (zrm 1 21) s m args below meth c H locs 0 0 (MQ below (zQi G r I J) args s 0 0 (zA G)) (F0 m 4 ls []) := by
    intro n
    induction n with
    | zero =>
      intro y1 y2 H locs ls hf
      rw [f_X6_claimCount_l4] at hf
      cases hf
    | succ n ih =>
      intro y1 y2 H locs ls hf hP hS hl
      rw [f_X6_claimCount_l4] at hf
      refine lv_iload_n hx hb dX6_claimCount_4 rfl (lv_at hl 2 rfl) ?_
      refine lv_aload_n hx hb dX6_claimCount_5 rfl (lv_at hl 0 rfl) ?_
      refine x_get (j := 0) (v := .ref (G.2.1 1)) hx hb hts hi6 hown hK hP zkL_328 rfl (by decide) (hts (.fieldLink RX6 12 "LeaseOffice$Thought" "office" "LLeaseOffice$Office;") (by decide +kernel)) rfl (by decide) dX6_claimCount_6 ?_
      refine x_get (j := 6) (v := .int (I 1 6)) hx hb hts hi2 hown hK hP zkL_1 rfl (by decide) (hts (.fieldLink RX6 69 "LeaseOffice$Office" "toolCount" "I") (by decide +kernel)) rfl (by decide) dX6_claimCount_9 ?_
      refine lv_icmp_ge (tgt := 38) hx hb dX6_claimCount_12 (by decide) (fun c1 => ?_) (fun c1 => ?_)
      · have hf := zif_t c1 hf
        refine lv_iload_n hx hb dX6_claimCount_38 rfl (lv_at hl 1 rfl) ?_
        obtain rfl := Option.some.inj hf
        exact x_iret hx hb hr hlocks hK hP hS dX6_claimCount_39
      · have hf := zif_f c1 hf
        refine lv_iload_n hx hb dX6_claimCount_15 rfl (lv_at hl 1 rfl) ?_
        refine lv_aload_n hx hb dX6_claimCount_16 rfl (lv_at hl 0 rfl) ?_
        refine x_get (j := 0) (v := .ref (G.2.1 1)) hx hb hts hi6 hown hK hP zkL_328 rfl (by decide) (hts (.fieldLink RX6 12 "LeaseOffice$Thought" "office" "LLeaseOffice$Office;") (by decide +kernel)) rfl (by decide) dX6_claimCount_17 ?_
        refine lv_iload_n hx hb dX6_claimCount_20 rfl (lv_at hl 2 rfl) ?_
        obtain ⟨q2, hq2, hf⟩ := zb_e hf
        refine x_callr (x_runV (As := [.int y2]) (rest := [.int y1]) ⟨hx, hb, hml, hown, hts⟩ (c_X2_toolAt l G hG I J 1 y2 zkL_1 hq2) (cwV 1 hts gX6_claimCount_X2_toolAt rfl rfl rfl (by decide +kernel) ⟨Nat.le_of_ble_eq_true rfl, Nat.le_of_ble_eq_true rfl⟩) hK hP zkL_1 (by decide) rfl rfl hl.1 rfl (Nat.le_of_ble_eq_true rfl) dX6_claimCount_21 ⟨Nat.zero_le _, Nat.zero_le _⟩) hS (fun H locs hP hS => ?_)
        refine x_get (j := 9) (v := .ref (G.2.1 (q2 + 5))) hx hb hts hi7 hown hK hP (kd_X2_toolAt zkL_1 hq2) rfl (by decide) (hts (.fieldLink RX6 33 "LeaseOffice$Tool" "claims" "LLeaseOffice$Table;") (by decide +kernel)) rfl (by decide) dX6_claimCount_24 ?_
        obtain ⟨q3, hq3, hf⟩ := zb_e hf
        refine x_calli (x_runV (As := []) (rest := [.int y1]) ⟨hx, hb, hml, hown, hts⟩ (c_X4_size l G hG I J (q2 + 5) (zk_7_9 (kd_X2_toolAt zkL_1 hq2)) hq3) (cwV 0 hts gX6_claimCount_X4_size rfl rfl rfl (by decide +kernel) ⟨Nat.le_of_ble_eq_true rfl, Nat.le_of_ble_eq_true rfl⟩) hK hP (zk_7_9 (kd_X2_toolAt zkL_1 hq2)) (by decide) rfl rfl hl.1 rfl (Nat.le_of_ble_eq_true rfl) dX6_claimCount_27 ⟨Nat.zero_le _, Nat.zero_le _⟩) hS (fun H locs hP hS => ?_)
        refine lv_iadd hx hb dX6_claimCount_30 ?_
        obtain ⟨w4, ew4, hf⟩ := zlet_e hf
        refine z_topi ew4 ?_
        refine lv_istore_n (lv' := [(1, .int w4), (0, .ref (G.2.1 328)), (2, .int y2)]) hx hb dX6_claimCount_31 rfl hl (by decide) rfl (fun ls hl => ?_)
        refine lv_iinc (v := (y2 + 1)) (lv' := [(2, .int (y2 + 1)), (1, .int w4), (0, .ref (G.2.1 328))]) hx hb dX6_claimCount_32 hl (k := 2) rfl rfl (by decide) rfl (fun ls hl => ?_)
        refine lv_goto (tgt := 4) hx hb dX6_claimCount_35 (by decide) ?_
        exact ih w4 (y2 + 1) H locs ls hf hP hS (lv_sub hl [2, 1, 0] rfl)
  unfold f_X6_claimCount at hf
  refine lv_iconst (v := 0) hx hb dX6_claimCount_0 (by decide) ?_
  refine lv_istore_n (lv' := [(1, .int 0), (0, .ref (G.2.1 328))]) hx hb dX6_claimCount_1 rfl hl (by decide) rfl (fun ls hl => ?_)
  refine lv_iconst (v := 0) hx hb dX6_claimCount_2 (by decide) ?_
  refine lv_istore_n (lv' := [(2, .int 0), (1, .int 0), (0, .ref (G.2.1 328))]) hx hb dX6_claimCount_3 rfl hl (by decide) rfl (fun ls hl => ?_)
  exact L4 zFu 0 0 H locs ls hf hP hS (lv_sub hl [2, 1, 0] rfl)
