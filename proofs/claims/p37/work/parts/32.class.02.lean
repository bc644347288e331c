set_option maxRecDepth 100000 in
set_option maxHeartbeats 4000000 in
theorem c_X2_dropClaim (l : Launch) (G : zGT) (hG : zOK G) (I J : zM) (x0 : Nat) (x1 : Int32) (x2 : Int32) (hk0 : zK x0 = 2) {r : Int32 × zM} (hf : f_X2_dropClaim I x0 x1 x2 = some r) : Met l yX2_dropClaim wsX2_dropClaim (zrm 2 45) (va_Pc [.ref (G.2.1 (x0)), .int x1, .int x2] (zS G I J)) (zQi G r.1 r.2 J) 0 0 (zA G) := by
  refine zMet (cc := cX2_dropClaim) (n := 5) (ret := (some .int)) (by decide) rfl (Nat.le_of_ble_eq_true rfl) ?_
  intro p e s m args below meth c H locs ls F hK hP hS hl
  obtain ⟨hx, hb, hr, hml, hts, hown, hlocks⟩ := F
  have hown : s.vm.findClass RX2 = some m.cls := hown
  have hl : lv_has ls 5 [(0, .ref (G.2.1 (x0))), (1, .int x1), (2, .int x2)] := hl
  have hi7 : ∀ w ∈ wsX70, w ∈ wsX2_dropClaim := fun _ h => List.mem_cons_of_mem _ (List.mem_append_left _ (List.mem_append_left _ (List.mem_append_right _ h)))
  unfold f_X2_dropClaim at hf
  refine lv_aload_n hx hb dX2_dropClaim_0 rfl (lv_at hl 0 rfl) ?_
  refine lv_iload_n hx hb dX2_dropClaim_1 rfl (lv_at hl 1 rfl) ?_
  obtain ⟨q1, hq1, hf⟩ := zb_e hf
  refine x_calli (x_runV (As := [.int x1]) (rest := []) ⟨hx, hb, hml, hown, hts⟩ (c_X2_isPerson l G hG I J x0 x1 hk0 hq1) (cwV 1 hts gX2_dropClaim_X2_isPerson rfl rfl rfl (by decide +kernel) ⟨Nat.le_of_ble_eq_true rfl, Nat.le_of_ble_eq_true rfl⟩) hK hP hk0 (by decide) rfl rfl hl.1 rfl (Nat.le_of_ble_eq_true rfl) dX2_dropClaim_2 ⟨Nat.zero_le _, Nat.zero_le _⟩) hS (fun H locs hP hS => ?_)
  refine lv_if_eq (tgt := 16) hx hb dX2_dropClaim_5 (by decide) (fun c2 => ?_) (fun c2 => ?_)
  · have hf := zif_t c2 hf
    refine lv_iconst (v := (-1)) hx hb dX2_dropClaim_16 (by decide) ?_
    obtain rfl := Option.some.inj hf
    exact x_iret hx hb hr hlocks hK hP hS dX2_dropClaim_17
  · have hf := zif_f c2 hf
    refine lv_aload_n hx hb dX2_dropClaim_8 rfl (lv_at hl 0 rfl) ?_
    refine lv_iload_n hx hb dX2_dropClaim_9 rfl (lv_at hl 2 rfl) ?_
    obtain ⟨q3, hq3, hf⟩ := zb_e hf
    refine x_calli (x_runV (As := [.int x2]) (rest := []) ⟨hx, hb, hml, hown, hts⟩ (c_X2_isTool l G hG I J x0 x2 hk0 hq3) (cwV 1 hts gX2_dropClaim_X2_isTool rfl rfl rfl (by decide +kernel) ⟨Nat.le_of_ble_eq_true rfl, Nat.le_of_ble_eq_true rfl⟩) hK hP hk0 (by decide) rfl rfl hl.1 rfl (Nat.le_of_ble_eq_true rfl) dX2_dropClaim_10 ⟨Nat.zero_le _, Nat.zero_le _⟩) hS (fun H locs hP hS => ?_)
    refine lv_if_ne (tgt := 18) hx hb dX2_dropClaim_13 (by decide) (fun c4 => ?_) (fun c4 => ?_)
    · have hf := zif_f c4 hf
      refine lv_aload_n hx hb dX2_dropClaim_18 rfl (lv_at hl 0 rfl) ?_
      refine lv_iload_n hx hb dX2_dropClaim_19 rfl (lv_at hl 2 rfl) ?_
      obtain ⟨q5, hq5, hf⟩ := zb_e hf
      refine x_callr (x_runV (As := [.int x2]) (rest := []) ⟨hx, hb, hml, hown, hts⟩ (c_X2_toolAt l G hG I J x0 x2 hk0 hq5) (cwV 1 hts gX2_dropClaim_X2_toolAt rfl rfl rfl (by decide +kernel) ⟨Nat.le_of_ble_eq_true rfl, Nat.le_of_ble_eq_true rfl⟩) hK hP hk0 (by decide) rfl rfl hl.1 rfl (Nat.le_of_ble_eq_true rfl) dX2_dropClaim_20 ⟨Nat.zero_le _, Nat.zero_le _⟩) hS (fun H locs hP hS => ?_)
      refine lv_astore_n (lv' := [(3, .ref (G.2.1 (q5))), (0, .ref (G.2.1 (x0))), (1, .int x1), (2, .int x2)]) hx hb dX2_dropClaim_23 rfl hl (by decide) rfl (fun ls hl => ?_)
      refine lv_aload_n hx hb dX2_dropClaim_24 rfl (lv_at hl 0 rfl) ?_
      refine lv_iload_n hx hb dX2_dropClaim_25 rfl (lv_at hl 2 rfl) ?_
      obtain ⟨q6, hq6, hf⟩ := zb_e hf
      refine x_calli (x_runV (As := [.int x1]) (rest := []) ⟨hx, hb, hml, hown, hts⟩ (c_X7_placeOfClaim l G hG I J q5 x1 (kd_X2_toolAt hk0 hq5) hq6) (cwV 1 hts gX2_dropClaim_X7_placeOfClaim rfl rfl rfl (by decide +kernel) ⟨Nat.le_of_ble_eq_true rfl, Nat.le_of_ble_eq_true rfl⟩) hK hP (kd_X2_toolAt hk0 hq5) (by decide) rfl rfl hl.1 rfl (Nat.le_of_ble_eq_true rfl) dX2_dropClaim_26 ⟨Nat.zero_le _, Nat.zero_le _⟩) hS (fun H locs hP hS => ?_)
      refine lv_istore (lv' := [(4, .int q6), (3, .ref (G.2.1 (q5))), (0, .ref (G.2.1 (x0))), (1, .int x1), (2, .int x2)]) hx hb dX2_dropClaim_29 hl (by decide) rfl (fun ls hl => ?_)
      refine lv_iload hx hb dX2_dropClaim_31 (lv_at hl 0 rfl) ?_
      refine lv_if_ge (tgt := 39) hx hb dX2_dropClaim_33 (by decide) (fun c7 => ?_) (fun c7 => ?_)
      · have hf := zif_t c7 hf
        refine lv_aload_n hx hb dX2_dropClaim_39 rfl (lv_at hl 1 rfl) ?_
        refine x_get (j := 9) (v := .ref (G.2.1 (q5 + 5))) hx hb hts hi7 hown hK hP (kd_X2_toolAt hk0 hq5) rfl (by decide) (hts (.fieldLink RX2 150 "LeaseOffice$Tool" "claims" "LLeaseOffice$Table;") (by decide +kernel)) rfl (by decide) dX2_dropClaim_40 ?_
        refine lv_iload hx hb dX2_dropClaim_43 (lv_at hl 0 rfl) ?_
        obtain ⟨q8, hq8, hf⟩ := zb_e hf
        refine x_callv (x_runV (As := [.int q6]) (rest := []) ⟨hx, hb, hml, hown, hts⟩ (c_X4_remove l G hG I J (q5 + 5) q6 (zk_7_9 (kd_X2_toolAt hk0 hq5)) hq8) (cwV 1 hts gX2_dropClaim_X4_remove rfl rfl rfl (by decide +kernel) ⟨Nat.le_of_ble_eq_true rfl, Nat.le_of_ble_eq_true rfl⟩) hK hP (zk_7_9 (kd_X2_toolAt hk0 hq5)) (by decide) rfl rfl hl.1 rfl (Nat.le_of_ble_eq_true rfl) dX2_dropClaim_45 ⟨Nat.zero_le _, Nat.zero_le _⟩) hS (fun H locs hP hS => ?_)
        refine lv_aload_n hx hb dX2_dropClaim_48 rfl (lv_at hl 1 rfl) ?_
        refine x_get (j := 9) (v := .ref (G.2.1 (q5 + 5))) hx hb hts hi7 hown hK hP (kd_X2_toolAt hk0 hq5) rfl (by decide) (hts (.fieldLink RX2 150 "LeaseOffice$Tool" "claims" "LLeaseOffice$Table;") (by decide +kernel)) rfl (by decide) dX2_dropClaim_49 ?_
        obtain ⟨q9, hq9, hf⟩ := zb_e hf
        refine x_calli (x_runV (As := []) (rest := []) ⟨hx, hb, hml, hown, hts⟩ (c_X4_size l G hG q8 J (q5 + 5) (zk_7_9 (kd_X2_toolAt hk0 hq5)) hq9) (cwV 0 hts gX2_dropClaim_X4_size rfl rfl rfl (by decide +kernel) ⟨Nat.le_of_ble_eq_true rfl, Nat.le_of_ble_eq_true rfl⟩) hK hP (zk_7_9 (kd_X2_toolAt hk0 hq5)) (by decide) rfl rfl hl.1 rfl (Nat.le_of_ble_eq_true rfl) dX2_dropClaim_52 ⟨Nat.zero_le _, Nat.zero_le _⟩) hS (fun H locs hP hS => ?_)
        obtain rfl := Option.some.inj hf
        exact x_iret hx hb hr hlocks hK hP hS dX2_dropClaim_55
      · have hf := zif_f c7 hf
        refine lv_bipush (v := (-2)) hx hb dX2_dropClaim_36 (by decide) ?_
        obtain rfl := Option.some.inj hf
        exact x_iret hx hb hr hlocks hK hP hS dX2_dropClaim_38
    · have hf := zif_t c4 hf
      refine lv_iconst (v := (-1)) hx hb dX2_dropClaim_16 (by decide) ?_
      obtain rfl := Option.some.inj hf
      exact x_iret hx hb hr hlocks hK hP hS dX2_dropClaim_17
set_option maxRecDepth 100000 in
set_option maxHeartbeats 4000000 in
theorem c_X7_claimGoesAhead (l : Launch) (G : zGT) (hG : zOK G) (I J : zM) (x0 : Nat) (x1 : Int32) (x2 : Int32) (x3 : Int32) (x4 : Int32) (hk0 : zK x0 = 7) {r : Int32} (hf : f_X7_claimGoesAhead I x0 x1 x2 x3 x4 = some r) : Met l yX7_claimGoesAhead wsX7_claimGoesAhead (zrm 1 23) (va_Pc [.ref (G.2.1 (x0)), .int x1, .int x2, .int x3, .int x4] (zS G I J)) (zQi G r I J) 0 0 (zA G) := by
  refine zMet (cc := cX7_claimGoesAhead) (n := 5) (ret := (some .boolean)) (by decide) rfl (Nat.le_of_ble_eq_true rfl) ?_
  intro p e s m args below meth c H locs ls F hK hP hS hl
  obtain ⟨hx, hb, hr, hml, hts, hown, hlocks⟩ := F
  have hown : s.vm.findClass RX7 = some m.cls := hown
  have hl : lv_has ls 5 [(0, .ref (G.2.1 (x0))), (1, .int x1), (2, .int x2), (3, .int x3), (4, .int x4)] := hl
  have hi7 : ∀ w ∈ wsX70, w ∈ wsX7_claimGoesAhead := fun _ h => List.mem_cons_of_mem _ (List.mem_append_left _ (List.mem_append_right _ h))
  unfold f_X7_claimGoesAhead at hf
  refine lv_aload_n hx hb dX7_claimGoesAhead_0 rfl (lv_at hl 0 rfl) ?_
  refine x_get (j := 9) (v := .ref (G.2.1 (x0 + 5))) hx hb hts hi7 hown hK hP hk0 rfl (by decide) (hts (.fieldLink RX7 23 "LeaseOffice$Tool" "claims" "LLeaseOffice$Table;") (by decide +kernel)) rfl (by decide) dX7_claimGoesAhead_1 ?_
  refine lv_iload_n hx hb dX7_claimGoesAhead_4 rfl (lv_at hl 1 rfl) ?_
  refine lv_iconst (v := 1) hx hb dX7_claimGoesAhead_5 (by decide) ?_
  obtain ⟨q1, hq1, hf⟩ := zb_e hf
  refine x_calli (x_runV (As := [.int x1, .int 1]) (rest := []) ⟨hx, hb, hml, hown, hts⟩ (c_X4_cell l G hG I J (x0 + 5) x1 1 (zk_7_9 hk0) hq1) (cwV 2 hts gX7_claimGoesAhead_X4_cell rfl rfl rfl (by decide +kernel) ⟨Nat.le_of_ble_eq_true rfl, Nat.le_of_ble_eq_true rfl⟩) hK hP (zk_7_9 hk0) (by decide) rfl rfl hl.1 rfl (Nat.le_of_ble_eq_true rfl) dX7_claimGoesAhead_6 ⟨Nat.zero_le _, Nat.zero_le _⟩) hS (fun H locs hP hS => ?_)
  refine lv_iload_n hx hb dX7_claimGoesAhead_9 rfl (lv_at hl 2 rfl) ?_
  refine lv_icmp_eq (tgt := 32) hx hb dX7_claimGoesAhead_10 (by decide) (fun c2 => ?_) (fun c2 => ?_)
  · have hf := zif_t c2 hf
    refine lv_aload_n hx hb dX7_claimGoesAhead_32 rfl (lv_at hl 0 rfl) ?_
    refine x_get (j := 9) (v := .ref (G.2.1 (x0 + 5))) hx hb hts hi7 hown hK hP hk0 rfl (by decide) (hts (.fieldLink RX7 23 "LeaseOffice$Tool" "claims" "LLeaseOffice$Table;") (by decide +kernel)) rfl (by decide) dX7_claimGoesAhead_33 ?_
    refine lv_iload_n hx hb dX7_claimGoesAhead_36 rfl (lv_at hl 1 rfl) ?_
    refine lv_iconst (v := 3) hx hb dX7_claimGoesAhead_37 (by decide) ?_
    obtain ⟨q3, hq3, hf⟩ := zb_e hf
    refine x_calli (x_runV (As := [.int x1, .int 3]) (rest := []) ⟨hx, hb, hml, hown, hts⟩ (c_X4_cell l G hG I J (x0 + 5) x1 3 (zk_7_9 hk0) hq3) (cwV 2 hts gX7_claimGoesAhead_X4_cell rfl rfl rfl (by decide +kernel) ⟨Nat.le_of_ble_eq_true rfl, Nat.le_of_ble_eq_true rfl⟩) hK hP (zk_7_9 hk0) (by decide) rfl rfl hl.1 rfl (Nat.le_of_ble_eq_true rfl) dX7_claimGoesAhead_38 ⟨Nat.zero_le _, Nat.zero_le _⟩) hS (fun H locs hP hS => ?_)
    refine lv_iload_n hx hb dX7_claimGoesAhead_41 rfl (lv_at hl 3 rfl) ?_
    refine lv_icmp_eq (tgt := 64) hx hb dX7_claimGoesAhead_42 (by decide) (fun c4 => ?_) (fun c4 => ?_)
    · have hf := zif_t c4 hf
      refine lv_aload_n hx hb dX7_claimGoesAhead_64 rfl (lv_at hl 0 rfl) ?_
      refine x_get (j := 9) (v := .ref (G.2.1 (x0 + 5))) hx hb hts hi7 hown hK hP hk0 rfl (by decide) (hts (.fieldLink RX7 23 "LeaseOffice$Tool" "claims" "LLeaseOffice$Table;") (by decide +kernel)) rfl (by decide) dX7_claimGoesAhead_65 ?_
      refine lv_iload_n hx hb dX7_claimGoesAhead_68 rfl (lv_at hl 1 rfl) ?_
      refine lv_iconst (v := 0) hx hb dX7_claimGoesAhead_69 (by decide) ?_
      obtain ⟨q5, hq5, hf⟩ := zb_e hf
      refine x_calli (x_runV (As := [.int x1, .int 0]) (rest := []) ⟨hx, hb, hml, hown, hts⟩ (c_X4_cell l G hG I J (x0 + 5) x1 0 (zk_7_9 hk0) hq5) (cwV 2 hts gX7_claimGoesAhead_X4_cell rfl rfl rfl (by decide +kernel) ⟨Nat.le_of_ble_eq_true rfl, Nat.le_of_ble_eq_true rfl⟩) hK hP (zk_7_9 hk0) (by decide) rfl rfl hl.1 rfl (Nat.le_of_ble_eq_true rfl) dX7_claimGoesAhead_70 ⟨Nat.zero_le _, Nat.zero_le _⟩) hS (fun H locs hP hS => ?_)
      refine lv_iload hx hb dX7_claimGoesAhead_73 (lv_at hl 4 rfl) ?_
      refine lv_icmp_ge (tgt := 82) hx hb dX7_claimGoesAhead_75 (by decide) (fun c6 => ?_) (fun c6 => ?_)
      · have hf := zif_t c6 hf
        refine lv_iconst (v := 0) hx hb dX7_claimGoesAhead_82 (by decide) ?_
        obtain rfl := Option.some.inj hf
        exact x_zret (v := 0) rfl hx hb hr hlocks hK hP hS dX7_claimGoesAhead_83
      · have hf := zif_f c6 hf
        refine lv_iconst (v := 1) hx hb dX7_claimGoesAhead_78 (by decide) ?_
        refine lv_goto (tgt := 83) hx hb dX7_claimGoesAhead_79 (by decide) ?_
        obtain rfl := Option.some.inj hf
        exact x_zret (v := 1) rfl hx hb hr hlocks hK hP hS dX7_claimGoesAhead_83
    · have hf := zif_f c4 hf
      refine lv_aload_n hx hb dX7_claimGoesAhead_45 rfl (lv_at hl 0 rfl) ?_
      refine x_get (j := 9) (v := .ref (G.2.1 (x0 + 5))) hx hb hts hi7 hown hK hP hk0 rfl (by decide) (hts (.fieldLink RX7 23 "LeaseOffice$Tool" "claims" "LLeaseOffice$Table;") (by decide +kernel)) rfl (by decide) dX7_claimGoesAhead_46 ?_
      refine lv_iload_n hx hb dX7_claimGoesAhead_49 rfl (lv_at hl 1 rfl) ?_
      refine lv_iconst (v := 3) hx hb dX7_claimGoesAhead_50 (by decide) ?_
      obtain ⟨q7, hq7, hf⟩ := zb_e hf
      refine x_calli (x_runV (As := [.int x1, .int 3]) (rest := []) ⟨hx, hb, hml, hown, hts⟩ (c_X4_cell l G hG I J (x0 + 5) x1 3 (zk_7_9 hk0) hq7) (cwV 2 hts gX7_claimGoesAhead_X4_cell rfl rfl rfl (by decide +kernel) ⟨Nat.le_of_ble_eq_true rfl, Nat.le_of_ble_eq_true rfl⟩) hK hP (zk_7_9 hk0) (by decide) rfl rfl hl.1 rfl (Nat.le_of_ble_eq_true rfl) dX7_claimGoesAhead_51 ⟨Nat.zero_le _, Nat.zero_le _⟩) hS (fun H locs hP hS => ?_)
      refine lv_iload_n hx hb dX7_claimGoesAhead_54 rfl (lv_at hl 3 rfl) ?_
      refine lv_icmp_ge (tgt := 62) hx hb dX7_claimGoesAhead_55 (by decide) (fun c8 => ?_) (fun c8 => ?_)
      · have hf := zif_t c8 hf
        refine lv_iconst (v := 0) hx hb dX7_claimGoesAhead_62 (by decide) ?_
        obtain rfl := Option.some.inj hf
        exact x_zret (v := 0) rfl hx hb hr hlocks hK hP hS dX7_claimGoesAhead_63
      · have hf := zif_f c8 hf
        refine lv_iconst (v := 1) hx hb dX7_claimGoesAhead_58 (by decide) ?_
        refine lv_goto (tgt := 63) hx hb dX7_claimGoesAhead_59 (by decide) ?_
        obtain rfl := Option.some.inj hf
        exact x_zret (v := 1) rfl hx hb hr hlocks hK hP hS dX7_claimGoesAhead_63
  · have hf := zif_f c2 hf
    refine lv_aload_n hx hb dX7_claimGoesAhead_13 rfl (lv_at hl 0 rfl) ?_
    refine x_get (j := 9) (v := .ref (G.2.1 (x0 + 5))) hx hb hts hi7 hown hK hP hk0 rfl (by decide) (hts (.fieldLink RX7 23 "LeaseOffice$Tool" "claims" "LLeaseOffice$Table;") (by decide +kernel)) rfl (by decide) dX7_claimGoesAhead_14 ?_
    refine lv_iload_n hx hb dX7_claimGoesAhead_17 rfl (lv_at hl 1 rfl) ?_
    refine lv_iconst (v := 1) hx hb dX7_claimGoesAhead_18 (by decide) ?_
    obtain ⟨q9, hq9, hf⟩ := zb_e hf
    refine x_calli (x_runV (As := [.int x1, .int 1]) (rest := []) ⟨hx, hb, hml, hown, hts⟩ (c_X4_cell l G hG I J (x0 + 5) x1 1 (zk_7_9 hk0) hq9) (cwV 2 hts gX7_claimGoesAhead_X4_cell rfl rfl rfl (by decide +kernel) ⟨Nat.le_of_ble_eq_true rfl, Nat.le_of_ble_eq_true rfl⟩) hK hP (zk_7_9 hk0) (by decide) rfl rfl hl.1 rfl (Nat.le_of_ble_eq_true rfl) dX7_claimGoesAhead_19 ⟨Nat.zero_le _, Nat.zero_le _⟩) hS (fun H locs hP hS => ?_)
    refine lv_iload_n hx hb dX7_claimGoesAhead_22 rfl (lv_at hl 2 rfl) ?_
    refine lv_icmp_le (tgt := 30) hx hb dX7_claimGoesAhead_23 (by decide) (fun c10 => ?_) (fun c10 => ?_)
    · have hf := zif_t c10 hf
      refine lv_iconst (v := 0) hx hb dX7_claimGoesAhead_30 (by decide) ?_
      obtain rfl := Option.some.inj hf
      exact x_zret (v := 0) rfl hx hb hr hlocks hK hP hS dX7_claimGoesAhead_31
    · have hf := zif_f c10 hf
      refine lv_iconst (v := 1) hx hb dX7_claimGoesAhead_26 (by decide) ?_
      refine lv_goto (tgt := 31) hx hb dX7_claimGoesAhead_27 (by decide) ?_
      obtain rfl := Option.some.inj hf
      exact x_zret (v := 1) rfl hx hb hr hlocks hK hP hS dX7_claimGoesAhead_31
set_option maxRecDepth 100000 in
set_option maxHeartbeats 4000000 in
theorem c_X4_insert (l : Launch) (G : zGT) (hG : zOK G) (I J : zM) (x0 : Nat) (x1 : Int32) (hk0 : zK x0 = 4) {r : zM} (hf : f_X4_insert I x0 x1 = some r) : Met l yX4_insert wsX4_insert (zrm 1 22) (va_Pc [.ref (G.2.1 (x0)), .int x1] (zS G I J)) (zQv G r J) 0 0 (zA G) := by
  refine zMet (cc := cX4_insert) (n := 5) (ret := none) (by decide) rfl (Nat.le_of_ble_eq_true rfl) ?_
  intro p e s m args below meth c H locs ls F hK hP hS hl
  obtain ⟨hx, hb, hr, hml, hts, hown, hlocks⟩ := F
  have hown : s.vm.findClass RX4 = some m.cls := hown
  have hl : lv_has ls 5 [(0, .ref (G.2.1 (x0))), (1, .int x1)] := hl
  have hi4 : ∀ w ∈ wsX40, w ∈ wsX4_insert := fun _ h => List.mem_cons_of_mem _ (List.mem_append_right _ h)
  have L24 : ∀ (y2 : Int32) (n : Nat) (M : zM) (y3 : Int32) (H : Heap) (locs : List Loc) (ls : Array Slot), f_X4_insert_l24 x0 y2 n M y3 = some r → va_P G.1 vwCl (zW G M J) H → va_S (zA G) s.heap H locs → lv_has ls 5 [(0, .ref (G.2.1 (x0))), (2, .int y2), (3, .int y3)] → W p l e (zrm 1 22) s m args below meth c H locs 0 0 (MQ below (zQv G r J) args s 0 0 (zA G)) (F0 m 24 ls []) := by
    intro y2 n
    induction n with
    | zero =>
      intro M y3 H locs ls hf
      rw [f_X4_insert_l24] at hf
      cases hf
    | succ n ih =>
      intro M y3 H locs ls hf hP hS hl
      rw [f_X4_insert_l24] at hf
      refine lv_iload_n hx hb dX4_insert_24 rfl (lv_at hl 2 rfl) ?_
      refine lv_if_lt (tgt := 85) hx hb dX4_insert_25 (by decide) (fun c5 => ?_) (fun c5 => ?_)
      · have hf := zif_t c5 hf
        obtain rfl := Option.some.inj hf
        exact x_vret hx hb hr hlocks hK hP hS dX4_insert_85
      · have hf := zif_f c5 hf
        refine lv_iload_n hx hb dX4_insert_28 rfl (lv_at hl 2 rfl) ?_
        refine lv_aload_n hx hb dX4_insert_29 rfl (lv_at hl 0 rfl) ?_
        refine x_get (j := 2) (v := .ref (G.2.1 (x0 + 1))) hx hb hts hi4 hown hK hP hk0 rfl (by decide) (hts (.fieldLink RX4 22 "LeaseOffice$Table" "cells" "[I") (by decide +kernel)) rfl (by decide) dX4_insert_30 ?_
        refine x_alen 0 (v := (Int32.ofNat (zLn (x0 + 1)))) hx hb hK hP (zK_lt (zk_4_2 hk0) (by decide)) (zE_10 (zk_4_2 hk0) rfl) rfl rfl dX4_insert_33 ?_
        refine lv_icmp_ge (tgt := 85) hx hb dX4_insert_34 (by decide) (fun c6 => ?_) (fun c6 => ?_)
        · have hf := zif_t c6 hf
          obtain rfl := Option.some.inj hf
          exact x_vret hx hb hr hlocks hK hP hS dX4_insert_85
        · have hf := zif_f c6 hf
          refine lv_iload_n hx hb dX4_insert_37 rfl (lv_at hl 2 rfl) ?_
          refine lv_aload_n hx hb dX4_insert_38 rfl (lv_at hl 0 rfl) ?_
          refine x_get (j := 1) (v := .int (M x0 1)) hx hb hts hi4 hown hK hP hk0 rfl (by decide) (hts (.fieldLink RX4 13 "LeaseOffice$Table" "width" "I") (by decide +kernel)) rfl (by decide) dX4_insert_39 ?_
          refine lv_isub hx hb dX4_insert_42 ?_
          obtain ⟨w7, ew7, hf⟩ := zlet_e hf
          refine z_topi ew7 ?_
          refine lv_istore (lv' := [(4, .int w7), (0, .ref (G.2.1 (x0))), (2, .int y2), (3, .int y3)]) hx hb dX4_insert_43 hl (by decide) rfl (fun ls hl => ?_)
          refine lv_iload hx hb dX4_insert_45 (lv_at hl 0 rfl) ?_
          refine lv_iload_n hx hb dX4_insert_47 rfl (lv_at hl 2 rfl) ?_
          refine lv_icmp_lt (tgt := 79) hx hb dX4_insert_48 (by decide) (fun c8 => ?_) (fun c8 => ?_)
          · have hf := zif_t c8 hf
            refine lv_iinc (v := (y3 + (-1))) (lv' := [(3, .int (y3 + (-1))), (4, .int w7), (0, .ref (G.2.1 (x0))), (2, .int y2)]) hx hb dX4_insert_79 hl (k := 3) rfl rfl (by decide) rfl (fun ls hl => ?_)
            refine lv_goto (tgt := 24) hx hb dX4_insert_82 (by decide) ?_
            exact ih M (y3 + (-1)) H locs ls hf hP hS (lv_sub hl [2, 3, 0] rfl)
          · have hf := zif_f c8 hf
            refine lv_iload hx hb dX4_insert_51 (lv_at hl 0 rfl) ?_
            refine lv_if_lt (tgt := 79) hx hb dX4_insert_53 (by decide) (fun c9 => ?_) (fun c9 => ?_)
            · have hf := zif_t c9 hf
              refine lv_iinc (v := (y3 + (-1))) (lv' := [(3, .int (y3 + (-1))), (4, .int w7), (0, .ref (G.2.1 (x0))), (2, .int y2)]) hx hb dX4_insert_79 hl (k := 3) rfl rfl (by decide) rfl (fun ls hl => ?_)
              refine lv_goto (tgt := 24) hx hb dX4_insert_82 (by decide) ?_
              exact ih M (y3 + (-1)) H locs ls hf hP hS (lv_sub hl [2, 3, 0] rfl)
            · have hf := zif_f c9 hf
              refine lv_iload hx hb dX4_insert_56 (lv_at hl 0 rfl) ?_
              refine lv_aload_n hx hb dX4_insert_58 rfl (lv_at hl 1 rfl) ?_
              refine x_get (j := 2) (v := .ref (G.2.1 (x0 + 1))) hx hb hts hi4 hown hK hP hk0 rfl (by decide) (hts (.fieldLink RX4 22 "LeaseOffice$Table" "cells" "[I") (by decide +kernel)) rfl (by decide) dX4_insert_59 ?_
              refine x_alen 0 (v := (Int32.ofNat (zLn (x0 + 1)))) hx hb hK hP (zK_lt (zk_4_2 hk0) (by decide)) (zE_10 (zk_4_2 hk0) rfl) rfl rfl dX4_insert_62 ?_
              refine lv_icmp_ge (tgt := 79) hx hb dX4_insert_63 (by decide) (fun c10 => ?_) (fun c10 => ?_)
              · have hf := zif_t c10 hf
                refine lv_iinc (v := (y3 + (-1))) (lv' := [(3, .int (y3 + (-1))), (4, .int w7), (0, .ref (G.2.1 (x0))), (2, .int y2)]) hx hb dX4_insert_79 hl (k := 3) rfl rfl (by decide) rfl (fun ls hl => ?_)
                refine lv_goto (tgt := 24) hx hb dX4_insert_82 (by decide) ?_
                exact ih M (y3 + (-1)) H locs ls hf hP hS (lv_sub hl [2, 3, 0] rfl)
              · have hf := zif_f c10 hf
                refine lv_aload_n hx hb dX4_insert_66 rfl (lv_at hl 1 rfl) ?_
                refine x_get (j := 2) (v := .ref (G.2.1 (x0 + 1))) hx hb hts hi4 hown hK hP hk0 rfl (by decide) (hts (.fieldLink RX4 22 "LeaseOffice$Table" "cells" "[I") (by decide +kernel)) rfl (by decide) dX4_insert_67 ?_
                refine lv_iload_n hx hb dX4_insert_70 rfl (lv_at hl 3 rfl) ?_
                refine lv_aload_n hx hb dX4_insert_71 rfl (lv_at hl 1 rfl) ?_
                refine x_get (j := 2) (v := .ref (G.2.1 (x0 + 1))) hx hb hts hi4 hown hK hP hk0 rfl (by decide) (hts (.fieldLink RX4 22 "LeaseOffice$Table" "cells" "[I") (by decide +kernel)) rfl (by decide) dX4_insert_72 ?_
                refine lv_iload hx hb dX4_insert_75 (lv_at hl 0 rfl) ?_
                obtain ⟨h11, hf⟩ := zck_e hf
                refine x_iald hx hb hK hP (zK_lt (zk_4_2 hk0) (by decide)) (zE_10 (zk_4_2 hk0) rfl) (zin_e h11) dX4_insert_77 ?_
                obtain ⟨h13, hf⟩ := zck_e hf
                obtain ⟨M12, eM12, hf⟩ := zlet_e hf
                refine x_iastC eM12 hx hb hG hK hP hS (zk_4_2 hk0) rfl (zin_e h13) dX4_insert_78 (fun H locs hP hS => ?_)
                refine lv_iinc (v := (y3 + (-1))) (lv' := [(3, .int (y3 + (-1))), (4, .int w7), (0, .ref (G.2.1 (x0))), (2, .int y2)]) hx hb dX4_insert_79 hl (k := 3) rfl rfl (by decide) rfl (fun ls hl => ?_)
                refine lv_goto (tgt := 24) hx hb dX4_insert_82 (by decide) ?_
                exact ih M12 (y3 + (-1)) H locs ls hf hP hS (lv_sub hl [2, 3, 0] rfl)
  unfold f_X4_insert at hf
  refine lv_aload_n hx hb dX4_insert_0 rfl (lv_at hl 0 rfl) ?_
  obtain ⟨q1, hq1, hf⟩ := zb_e hf
  refine x_calli (x_runV (As := []) (rest := []) ⟨hx, hb, hml, hown, hts⟩ (c_X4_append l G hG I J x0 hk0 hq1) (cwV 0 hts gX4_insert_X4_append rfl rfl rfl (by decide +kernel) ⟨Nat.le_of_ble_eq_true rfl, Nat.le_of_ble_eq_true rfl⟩) hK hP hk0 (by decide) rfl rfl hl.1 rfl (Nat.le_of_ble_eq_true rfl) dX4_insert_1 ⟨Nat.zero_le _, Nat.zero_le _⟩) hS (fun H locs hP hS => ?_)
  refine lv_pop hx hb dX4_insert_4 rfl ?_
  refine lv_iload_n hx hb dX4_insert_5 rfl (lv_at hl 1 rfl) ?_
  refine lv_iconst (v := 0) hx hb dX4_insert_6 (by decide) ?_
  obtain ⟨w2, ew2, hf⟩ := zlet_e hf
  refine va_mmax hx hb (hml.trans hl.1.symm) hown (hts (.methodLink RX4 16 Lib.Math.max.name) (by decide +kernel)) (hts (.static Lib.Math.max.name) (by decide +kernel)) (hts (.initialized "java/lang/Math") (by decide +kernel)) (hts (.code Lib.Math.max.name Lib.Math.max.code 2 (some .int)) (by decide +kernel)) (Nat.le_of_ble_eq_true rfl) (Nat.le_of_ble_eq_true rfl) (Nat.zero_le _) (Nat.zero_le _) dX4_insert_7 ?_
  refine z_topi ew2 ?_
  refine lv_aload_n hx hb dX4_insert_10 rfl (lv_at hl 0 rfl) ?_
  refine x_get (j := 1) (v := .int (q1.2 x0 1)) hx hb hts hi4 hown hK hP hk0 rfl (by decide) (hts (.fieldLink RX4 13 "LeaseOffice$Table" "width" "I") (by decide +kernel)) rfl (by decide) dX4_insert_11 ?_
  refine lv_imul hx hb dX4_insert_14 ?_
  obtain ⟨w3, ew3, hf⟩ := zlet_e hf
  refine z_topi ew3 ?_
  refine lv_istore_n (lv' := [(2, .int w3), (0, .ref (G.2.1 (x0))), (1, .int x1)]) hx hb dX4_insert_15 rfl hl (by decide) rfl (fun ls hl => ?_)
  refine lv_aload_n hx hb dX4_insert_16 rfl (lv_at hl 1 rfl) ?_
  refine x_get (j := 2) (v := .ref (G.2.1 (x0 + 1))) hx hb hts hi4 hown hK hP hk0 rfl (by decide) (hts (.fieldLink RX4 22 "LeaseOffice$Table" "cells" "[I") (by decide +kernel)) rfl (by decide) dX4_insert_17 ?_
  refine x_alen 0 (v := (Int32.ofNat (zLn (x0 + 1)))) hx hb hK hP (zK_lt (zk_4_2 hk0) (by decide)) (zE_10 (zk_4_2 hk0) rfl) rfl rfl dX4_insert_20 ?_
  refine lv_iconst (v := 1) hx hb dX4_insert_21 (by decide) ?_
  refine lv_isub hx hb dX4_insert_22 ?_
  obtain ⟨w4, ew4, hf⟩ := zlet_e hf
  refine z_topi ew4 ?_
  refine lv_istore_n (lv' := [(3, .int w4), (2, .int w3), (0, .ref (G.2.1 (x0))), (1, .int x1)]) hx hb dX4_insert_23 rfl hl (by decide) rfl (fun ls hl => ?_)
  exact L24 w3 zFu q1.2 w4 H locs ls hf hP hS (lv_sub hl [2, 1, 0] rfl)
set_option maxRecDepth 100000 in
set_option maxHeartbeats 4000000 in
theorem c_X7_addClaim (l : Launch) (G : zGT) (hG : zOK G) (I J : zM) (x0 : Nat) (x1 : Int32) (x2 : Int32) (x3 : Int32) (x4 : Int32) (hk0 : zK x0 = 7) {r : Int32 × zM} (hf : f_X7_addClaim I x0 x1 x2 x3 x4 = some r) : Met l yX7_addClaim wsX7_addClaim (zrm 2 47) (va_Pc [.ref (G.2.1 (x0)), .int x1, .int x2, .int x3, .int x4] (zS G I J)) (zQi G r.1 r.2 J) 0 0 (zA G) := by
  refine zMet (cc := cX7_addClaim) (n := 6) (ret := (some .int)) (by decide) rfl (Nat.le_of_ble_eq_true rfl) ?_
  intro p e s m args below meth c H locs ls F hK hP hS hl
  obtain ⟨hx, hb, hr, hml, hts, hown, hlocks⟩ := F
  have hown : s.vm.findClass RX7 = some m.cls := hown
  have hl : lv_has ls 6 [(0, .ref (G.2.1 (x0))), (1, .int x1), (2, .int x2), (3, .int x3), (4, .int x4)] := hl
  have hi7 : ∀ w ∈ wsX70, w ∈ wsX7_addClaim := fun _ h => List.mem_cons_of_mem _ (List.mem_append_left _ (List.mem_append_right _ h))
  have L3 : ∀ (M : zM) (K : Int32 → Option (Int32 × zM)) (hKK : ∀ (z5 : Int32) (H : Heap) (locs : List Loc) (ls : Array Slot), K z5 = some r → va_P G.1 vwCl (zW G M J) H → va_S (zA G) s.heap H locs → lv_has ls 6 [(0, .ref (G.2.1 (x0))), (1, .int x1), (2, .int x2), (3, .int x3), (4, .int x4), (5, .int z5)] → W p l e (zrm 2 47) s m args below meth c H locs 0 0 (MQ below (zQi G r.1 r.2 J) args s 0 0 (zA G)) (F0 m 34 ls [])) (n : Nat) (y5 : Int32) (H : Heap) (locs : List Loc) (ls : Array Slot), f_X7_addClaim_l3 M x0 x1 x2 x3 x4 K n y5 = some r → va_P G.1 vwCl (zW G M J) H → va_S (zA G) s.heap H locs → lv_has ls 6 [(0, .ref (G.2.1 (x0))), (1, .int x1), (2, .int x2), (3, .int x3), (4, .int x4), (5, .int y5)] → W p l e (zrm 2 47) s m args below meth c H locs 0 0 (MQ below (zQi G r.1 r.2 J) args s 0 0 (zA G)) (F0 m 3 ls []) := by
    intro M K hKK n
    induction n with
    | zero =>
      intro y5 H locs ls hf
      rw [f_X7_addClaim_l3] at hf
      cases hf
    | succ n ih =>
      intro y5 H locs ls hf hP hS hl
      rw [f_X7_addClaim_l3] at hf
      refine lv_iload hx hb dX7_addClaim_3 (lv_at hl 5 rfl) ?_
      refine lv_aload_n hx hb dX7_addClaim_5 rfl (lv_at hl 0 rfl) ?_
      refine x_get (j := 9) (v := .ref (G.2.1 (x0 + 5))) hx hb hts hi7 hown hK hP hk0 rfl (by decide) (hts (.fieldLink RX7 23 "LeaseOffice$Tool" "claims" "LLeaseOffice$Table;") (by decide +kernel)) rfl (by decide) dX7_addClaim_6 ?_
      obtain ⟨q1, hq1, hf⟩ := zb_e hf
      refine x_calli (x_runV (As := []) (rest := [.int y5]) ⟨hx, hb, hml, hown, hts⟩ (c_X4_size l G hG M J (x0 + 5) (zk_7_9 hk0) hq1) (cwV 0 hts gX7_addClaim_X4_size rfl rfl rfl (by decide +kernel) ⟨Nat.le_of_ble_eq_true rfl, Nat.le_of_ble_eq_true rfl⟩) hK hP (zk_7_9 hk0) (by decide) rfl rfl hl.1 rfl (Nat.le_of_ble_eq_true rfl) dX7_addClaim_9 ⟨Nat.zero_le _, Nat.zero_le _⟩) hS (fun H locs hP hS => ?_)
      refine lv_icmp_ge (tgt := 34) hx hb dX7_addClaim_12 (by decide) (fun c2 => ?_) (fun c2 => ?_)
      · have hf := zif_t c2 hf
        exact hKK y5 H locs ls hf hP hS (lv_sub hl [0, 1, 2, 3, 4, 5] rfl)
      · have hf := zif_f c2 hf
        refine lv_aload_n hx hb dX7_addClaim_15 rfl (lv_at hl 0 rfl) ?_
        refine lv_iload hx hb dX7_addClaim_16 (lv_at hl 5 rfl) ?_
        refine lv_iload_n hx hb dX7_addClaim_18 rfl (lv_at hl 2 rfl) ?_
        refine lv_iload hx hb dX7_addClaim_19 (lv_at hl 4 rfl) ?_
        refine lv_iload_n hx hb dX7_addClaim_21 rfl (lv_at hl 1 rfl) ?_
        obtain ⟨q3, hq3, hf⟩ := zb_e hf
        refine x_calli (x_runV (As := [.int y5, .int x2, .int x4, .int x1]) (rest := []) ⟨hx, hb, hml, hown, hts⟩ (c_X7_claimGoesAhead l G hG M J x0 y5 x2 x4 x1 hk0 hq3) (cwV 4 hts gX7_addClaim_X7_claimGoesAhead rfl rfl rfl (by decide +kernel) ⟨Nat.le_of_ble_eq_true rfl, Nat.le_of_ble_eq_true rfl⟩) hK hP hk0 (by decide) rfl rfl hl.1 rfl (Nat.le_of_ble_eq_true rfl) dX7_addClaim_22 ⟨Nat.zero_le _, Nat.zero_le _⟩) hS (fun H locs hP hS => ?_)
        refine lv_if_eq (tgt := 34) hx hb dX7_addClaim_25 (by decide) (fun c4 => ?_) (fun c4 => ?_)
        · have hf := zif_t c4 hf
          exact hKK y5 H locs ls hf hP hS (lv_sub hl [0, 1, 2, 3, 4, 5] rfl)
        · have hf := zif_f c4 hf
          refine lv_iinc (v := (y5 + 1)) (lv' := [(5, .int (y5 + 1)), (0, .ref (G.2.1 (x0))), (1, .int x1), (2, .int x2), (3, .int x3), (4, .int x4)]) hx hb dX7_addClaim_28 hl (k := 5) rfl rfl (by decide) rfl (fun ls hl => ?_)
          refine lv_goto (tgt := 3) hx hb dX7_addClaim_31 (by decide) ?_
          exact ih (y5 + 1) H locs ls hf hP hS (lv_sub hl [1, 2, 3, 4, 5, 0] rfl)
  have J34 : ∀ (M : zM) (y5 : Int32) (H : Heap) (locs : List Loc) (ls : Array Slot), f_X7_addClaim_j34 M x0 x1 x2 x3 x4 y5 = some r → va_P G.1 vwCl (zW G M J) H → va_S (zA G) s.heap H locs → lv_has ls 6 [(0, .ref (G.2.1 (x0))), (1, .int x1), (2, .int x2), (3, .int x3), (4, .int x4), (5, .int y5)] → W p l e (zrm 2 47) s m args below meth c H locs 0 0 (MQ below (zQi G r.1 r.2 J) args s 0 0 (zA G)) (F0 m 34 ls []) := by
    intro M y5 H locs ls hf hP hS hl
    unfold f_X7_addClaim_j34 at hf
    refine lv_aload_n hx hb dX7_addClaim_34 rfl (lv_at hl 0 rfl) ?_
    refine x_get (j := 9) (v := .ref (G.2.1 (x0 + 5))) hx hb hts hi7 hown hK hP hk0 rfl (by decide) (hts (.fieldLink RX7 23 "LeaseOffice$Tool" "claims" "LLeaseOffice$Table;") (by decide +kernel)) rfl (by decide) dX7_addClaim_35 ?_
    refine lv_iload hx hb dX7_addClaim_38 (lv_at hl 5 rfl) ?_
    obtain ⟨q6, hq6, hf⟩ := zb_e hf
    refine x_callv (x_runV (As := [.int y5]) (rest := []) ⟨hx, hb, hml, hown, hts⟩ (c_X4_insert l G hG M J (x0 + 5) y5 (zk_7_9 hk0) hq6) (cwV 1 hts gX7_addClaim_X4_insert rfl rfl rfl (by decide +kernel) ⟨Nat.le_of_ble_eq_true rfl, Nat.le_of_ble_eq_true rfl⟩) hK hP (zk_7_9 hk0) (by decide) rfl rfl hl.1 rfl (Nat.le_of_ble_eq_true rfl) dX7_addClaim_40 ⟨Nat.zero_le _, Nat.zero_le _⟩) hS (fun H locs hP hS => ?_)
    refine lv_aload_n hx hb dX7_addClaim_43 rfl (lv_at hl 0 rfl) ?_
    refine x_get (j := 9) (v := .ref (G.2.1 (x0 + 5))) hx hb hts hi7 hown hK hP hk0 rfl (by decide) (hts (.fieldLink RX7 23 "LeaseOffice$Tool" "claims" "LLeaseOffice$Table;") (by decide +kernel)) rfl (by decide) dX7_addClaim_44 ?_
    refine lv_iload hx hb dX7_addClaim_47 (lv_at hl 5 rfl) ?_
    refine lv_iconst (v := 0) hx hb dX7_addClaim_49 (by decide) ?_
    refine lv_iload_n hx hb dX7_addClaim_50 rfl (lv_at hl 1 rfl) ?_
    obtain ⟨q7, hq7, hf⟩ := zb_e hf
    refine x_callv (x_runV (As := [.int y5, .int 0, .int x1]) (rest := []) ⟨hx, hb, hml, hown, hts⟩ (c_X4_setCell l G hG q6 J (x0 + 5) y5 0 x1 (zk_7_9 hk0) hq7) (cwV 3 hts gX7_addClaim_X4_setCell rfl rfl rfl (by decide +kernel) ⟨Nat.le_of_ble_eq_true rfl, Nat.le_of_ble_eq_true rfl⟩) hK hP (zk_7_9 hk0) (by decide) rfl rfl hl.1 rfl (Nat.le_of_ble_eq_true rfl) dX7_addClaim_51 ⟨Nat.zero_le _, Nat.zero_le _⟩) hS (fun H locs hP hS => ?_)
    refine lv_aload_n hx hb dX7_addClaim_54 rfl (lv_at hl 0 rfl) ?_
    refine x_get (j := 9) (v := .ref (G.2.1 (x0 + 5))) hx hb hts hi7 hown hK hP hk0 rfl (by decide) (hts (.fieldLink RX7 23 "LeaseOffice$Tool" "claims" "LLeaseOffice$Table;") (by decide +kernel)) rfl (by decide) dX7_addClaim_55 ?_
    refine lv_iload hx hb dX7_addClaim_58 (lv_at hl 5 rfl) ?_
    refine lv_iconst (v := 1) hx hb dX7_addClaim_60 (by decide) ?_
    refine lv_iload_n hx hb dX7_addClaim_61 rfl (lv_at hl 2 rfl) ?_
    obtain ⟨q8, hq8, hf⟩ := zb_e hf
    refine x_callv (x_runV (As := [.int y5, .int 1, .int x2]) (rest := []) ⟨hx, hb, hml, hown, hts⟩ (c_X4_setCell l G hG q7 J (x0 + 5) y5 1 x2 (zk_7_9 hk0) hq8) (cwV 3 hts gX7_addClaim_X4_setCell rfl rfl rfl (by decide +kernel) ⟨Nat.le_of_ble_eq_true rfl, Nat.le_of_ble_eq_true rfl⟩) hK hP (zk_7_9 hk0) (by decide) rfl rfl hl.1 rfl (Nat.le_of_ble_eq_true rfl) dX7_addClaim_62 ⟨Nat.zero_le _, Nat.zero_le _⟩) hS (fun H locs hP hS => ?_)
    refine lv_aload_n hx hb dX7_addClaim_65 rfl (lv_at hl 0 rfl) ?_
    refine x_get (j := 9) (v := .ref (G.2.1 (x0 + 5))) hx hb hts hi7 hown hK hP hk0 rfl (by decide) (hts (.fieldLink RX7 23 "LeaseOffice$Tool" "claims" "LLeaseOffice$Table;") (by decide +kernel)) rfl (by decide) dX7_addClaim_66 ?_
    refine lv_iload hx hb dX7_addClaim_69 (lv_at hl 5 rfl) ?_
    refine lv_iconst (v := 2) hx hb dX7_addClaim_71 (by decide) ?_
    refine lv_iload_n hx hb dX7_addClaim_72 rfl (lv_at hl 3 rfl) ?_
    obtain ⟨q9, hq9, hf⟩ := zb_e hf
    refine x_callv (x_runV (As := [.int y5, .int 2, .int x3]) (rest := []) ⟨hx, hb, hml, hown, hts⟩ (c_X4_setCell l G hG q8 J (x0 + 5) y5 2 x3 (zk_7_9 hk0) hq9) (cwV 3 hts gX7_addClaim_X4_setCell rfl rfl rfl (by decide +kernel) ⟨Nat.le_of_ble_eq_true rfl, Nat.le_of_ble_eq_true rfl⟩) hK hP (zk_7_9 hk0) (by decide) rfl rfl hl.1 rfl (Nat.le_of_ble_eq_true rfl) dX7_addClaim_73 ⟨Nat.zero_le _, Nat.zero_le _⟩) hS (fun H locs hP hS => ?_)
    refine lv_aload_n hx hb dX7_addClaim_76 rfl (lv_at hl 0 rfl) ?_
    refine x_get (j := 9) (v := .ref (G.2.1 (x0 + 5))) hx hb hts hi7 hown hK hP hk0 rfl (by decide) (hts (.fieldLink RX7 23 "LeaseOffice$Tool" "claims" "LLeaseOffice$Table;") (by decide +kernel)) rfl (by decide) dX7_addClaim_77 ?_
    refine lv_iload hx hb dX7_addClaim_80 (lv_at hl 5 rfl) ?_
    refine lv_iconst (v := 3) hx hb dX7_addClaim_82 (by decide) ?_
    refine lv_iload hx hb dX7_addClaim_83 (lv_at hl 4 rfl) ?_
    obtain ⟨q10, hq10, hf⟩ := zb_e hf
    refine x_callv (x_runV (As := [.int y5, .int 3, .int x4]) (rest := []) ⟨hx, hb, hml, hown, hts⟩ (c_X4_setCell l G hG q9 J (x0 + 5) y5 3 x4 (zk_7_9 hk0) hq10) (cwV 3 hts gX7_addClaim_X4_setCell rfl rfl rfl (by decide +kernel) ⟨Nat.le_of_ble_eq_true rfl, Nat.le_of_ble_eq_true rfl⟩) hK hP (zk_7_9 hk0) (by decide) rfl rfl hl.1 rfl (Nat.le_of_ble_eq_true rfl) dX7_addClaim_85 ⟨Nat.zero_le _, Nat.zero_le _⟩) hS (fun H locs hP hS => ?_)
    refine lv_iload hx hb dX7_addClaim_88 (lv_at hl 5 rfl) ?_
    obtain rfl := Option.some.inj hf
    exact x_iret hx hb hr hlocks hK hP hS dX7_addClaim_90
  unfold f_X7_addClaim at hf
  refine lv_iconst (v := 0) hx hb dX7_addClaim_0 (by decide) ?_
  refine lv_istore (lv' := [(5, .int 0), (0, .ref (G.2.1 (x0))), (1, .int x1), (2, .int x2), (3, .int x3), (4, .int x4)]) hx hb dX7_addClaim_1 hl (by decide) rfl (fun ls hl => ?_)
  refine L3 I _ (fun z5 H locs ls hf hP hS hl => ?_) zFu 0 H locs ls hf hP hS (lv_sub hl [1, 2, 3, 4, 5, 0] rfl)
  exact J34 I z5 H locs ls hf hP hS (lv_sub hl [0, 1, 2, 3, 4, 5] rfl)
set_option maxRecDepth 100000 in
set_option maxHeartbeats 4000000 in
theorem c_X2_enterClaim (l : Launch) (G : zGT) (hG : zOK G) (I J : zM) (x0 : Nat) (x1 : Int32) (x2 : Int32) (x3 : Int32) (x4 : Int32) (hk0 : zK x0 = 2) {r : Int32 × zM} (hf : f_X2_enterClaim I x0 x1 x2 x3 x4 = some r) : Met l yX2_enterClaim wsX2_enterClaim (zrm 3 72) (va_Pc [.ref (G.2.1 (x0)), .int x1, .int x2, .int x3, .int x4] (zS G I J)) (zQi G r.1 r.2 J) 0 0 (zA G) := by
  refine zMet (cc := cX2_enterClaim) (n := 7) (ret := (some .int)) (by decide) rfl (Nat.le_of_ble_eq_true rfl) ?_
  intro p e s m args below meth c H locs ls F hK hP hS hl
  obtain ⟨hx, hb, hr, hml, hts, hown, hlocks⟩ := F
  have hown : s.vm.findClass RX2 = some m.cls := hown
  have hl : lv_has ls 7 [(0, .ref (G.2.1 (x0))), (1, .int x1), (2, .int x2), (3, .int x3), (4, .int x4)] := hl
  have hi2 : ∀ w ∈ wsX20, w ∈ wsX2_enterClaim := fun _ h => List.mem_cons_of_mem _ (List.mem_append_left _ (List.mem_append_right _ h))
  have hi7 : ∀ w ∈ wsX70, w ∈ wsX2_enterClaim := fun _ h => List.mem_cons_of_mem _ (List.mem_append_left _ (List.mem_append_left _ (List.mem_append_right _ h)))
  have J21 : ∀ (M : zM) (s0 : Int32) (H : Heap) (locs : List Loc) (ls : Array Slot), f_X2_enterClaim_j21 M x0 x1 x2 x3 x4 s0 = some r → va_P G.1 vwCl (zW G M J) H → va_S (zA G) s.heap H locs → lv_has ls 7 [(0, .ref (G.2.1 (x0))), (1, .int x1), (2, .int x2), (3, .int x3), (4, .int x4)] → W p l e (zrm 3 72) s m args below meth c H locs 0 0 (MQ below (zQi G r.1 r.2 J) args s 0 0 (zA G)) (F0 m 21 ls [.int s0]) := by
    intro M s0 H locs ls hf hP hS hl
    unfold f_X2_enterClaim_j21 at hf
    refine lv_istore (lv' := [(5, .int s0), (0, .ref (G.2.1 (x0))), (1, .int x1), (2, .int x2), (3, .int x3), (4, .int x4)]) hx hb dX2_enterClaim_21 hl (by decide) rfl (fun ls hl => ?_)
    refine lv_iload hx hb dX2_enterClaim_23 (lv_at hl 0 rfl) ?_
    refine lv_if_eq (tgt := 51) hx hb dX2_enterClaim_25 (by decide) (fun c3 => ?_) (fun c3 => ?_)
    · have hf := zif_t c3 hf
      refine lv_iconst (v := (-1)) hx hb dX2_enterClaim_51 (by decide) ?_
      obtain rfl := Option.some.inj hf
      exact x_iret hx hb hr hlocks hK hP hS dX2_enterClaim_52
    · have hf := zif_f c3 hf
      refine lv_iload_n hx hb dX2_enterClaim_28 rfl (lv_at hl 4 rfl) ?_
      refine lv_if_lt (tgt := 51) hx hb dX2_enterClaim_29 (by decide) (fun c4 => ?_) (fun c4 => ?_)
      · have hf := zif_t c4 hf
        refine lv_iconst (v := (-1)) hx hb dX2_enterClaim_51 (by decide) ?_
        obtain rfl := Option.some.inj hf
        exact x_iret hx hb hr hlocks hK hP hS dX2_enterClaim_52
      · have hf := zif_f c4 hf
        refine lv_iload_n hx hb dX2_enterClaim_32 rfl (lv_at hl 4 rfl) ?_
        refine lv_bipush (v := 9) hx hb dX2_enterClaim_33 (by decide) ?_
        refine lv_icmp_gt (tgt := 51) hx hb dX2_enterClaim_35 (by decide) (fun c5 => ?_) (fun c5 => ?_)
        · have hf := zif_t c5 hf
          refine lv_iconst (v := (-1)) hx hb dX2_enterClaim_51 (by decide) ?_
          obtain rfl := Option.some.inj hf
          exact x_iret hx hb hr hlocks hK hP hS dX2_enterClaim_52
        · have hf := zif_f c5 hf
          refine lv_iload hx hb dX2_enterClaim_38 (lv_at hl 5 rfl) ?_
          refine lv_iconst (v := 1) hx hb dX2_enterClaim_40 (by decide) ?_
          refine lv_icmp_lt (tgt := 51) hx hb dX2_enterClaim_41 (by decide) (fun c6 => ?_) (fun c6 => ?_)
          · have hf := zif_t c6 hf
            refine lv_iconst (v := (-1)) hx hb dX2_enterClaim_51 (by decide) ?_
            obtain rfl := Option.some.inj hf
            exact x_iret hx hb hr hlocks hK hP hS dX2_enterClaim_52
          · have hf := zif_f c6 hf
            refine lv_iload hx hb dX2_enterClaim_44 (lv_at hl 5 rfl) ?_
            refine lv_bipush (v := 30) hx hb dX2_enterClaim_46 (by decide) ?_
            refine lv_icmp_le (tgt := 53) hx hb dX2_enterClaim_48 (by decide) (fun c7 => ?_) (fun c7 => ?_)
            · have hf := zif_t c7 hf
              refine lv_aload_n hx hb dX2_enterClaim_53 rfl (lv_at hl 1 rfl) ?_
              refine lv_iload_n hx hb dX2_enterClaim_54 rfl (lv_at hl 3 rfl) ?_
              obtain ⟨q8, hq8, hf⟩ := zb_e hf
              refine x_callr (x_runV (As := [.int x2]) (rest := []) ⟨hx, hb, hml, hown, hts⟩ (c_X2_toolAt l G hG M J x0 x2 hk0 hq8) (cwV 1 hts gX2_enterClaim_X2_toolAt rfl rfl rfl (by decide +kernel) ⟨Nat.le_of_ble_eq_true rfl, Nat.le_of_ble_eq_true rfl⟩) hK hP hk0 (by decide) rfl rfl hl.1 rfl (Nat.le_of_ble_eq_true rfl) dX2_enterClaim_55 ⟨Nat.zero_le _, Nat.zero_le _⟩) hS (fun H locs hP hS => ?_)
              refine lv_astore (lv' := [(6, .ref (G.2.1 (q8))), (5, .int s0), (0, .ref (G.2.1 (x0))), (1, .int x1), (2, .int x2), (3, .int x3), (4, .int x4)]) hx hb dX2_enterClaim_58 hl (by decide) rfl (fun ls hl => ?_)
              refine lv_aload hx hb dX2_enterClaim_60 (lv_at hl 0 rfl) ?_
              refine lv_iload_n hx hb dX2_enterClaim_62 rfl (lv_at hl 3 rfl) ?_
              obtain ⟨q9, hq9, hf⟩ := zb_e hf
              refine x_calli (x_runV (As := [.int x1]) (rest := []) ⟨hx, hb, hml, hown, hts⟩ (c_X7_placeOfClaim l G hG M J q8 x1 (kd_X2_toolAt hk0 hq8) hq9) (cwV 1 hts gX2_enterClaim_X7_placeOfClaim rfl rfl rfl (by decide +kernel) ⟨Nat.le_of_ble_eq_true rfl, Nat.le_of_ble_eq_true rfl⟩) hK hP (kd_X2_toolAt hk0 hq8) (by decide) rfl rfl hl.1 rfl (Nat.le_of_ble_eq_true rfl) dX2_enterClaim_63 ⟨Nat.zero_le _, Nat.zero_le _⟩) hS (fun H locs hP hS => ?_)
              refine lv_if_ge (tgt := 78) hx hb dX2_enterClaim_66 (by decide) (fun c10 => ?_) (fun c10 => ?_)
              · have hf := zif_t c10 hf
                refine lv_bipush (v := (-5)) hx hb dX2_enterClaim_78 (by decide) ?_
                obtain rfl := Option.some.inj hf
                exact x_iret hx hb hr hlocks hK hP hS dX2_enterClaim_80
              · have hf := zif_f c10 hf
                refine lv_aload hx hb dX2_enterClaim_69 (lv_at hl 0 rfl) ?_
                refine x_get (j := 2) (v := .int (M q8 2)) hx hb hts hi7 hown hK hP (kd_X2_toolAt hk0 hq8) rfl (by decide) (hts (.fieldLink RX2 111 "LeaseOffice$Tool" "holder" "I") (by decide +kernel)) rfl (by decide) dX2_enterClaim_71 ?_
                refine lv_iload_n hx hb dX2_enterClaim_74 rfl (lv_at hl 3 rfl) ?_
                refine lv_icmp_ne (tgt := 81) hx hb dX2_enterClaim_75 (by decide) (fun c11 => ?_) (fun c11 => ?_)
                · have hf := zif_f c11 hf
                  refine lv_aload hx hb dX2_enterClaim_81 (lv_at hl 0 rfl) ?_
                  refine x_get (j := 9) (v := .ref (G.2.1 (q8 + 5))) hx hb hts hi7 hown hK hP (kd_X2_toolAt hk0 hq8) rfl (by decide) (hts (.fieldLink RX2 150 "LeaseOffice$Tool" "claims" "LLeaseOffice$Table;") (by decide +kernel)) rfl (by decide) dX2_enterClaim_83 ?_
                  obtain ⟨q12, hq12, hf⟩ := zb_e hf
                  refine x_calli (x_runV (As := []) (rest := []) ⟨hx, hb, hml, hown, hts⟩ (c_X4_size l G hG M J (q8 + 5) (zk_7_9 (kd_X2_toolAt hk0 hq8)) hq12) (cwV 0 hts gX2_enterClaim_X4_size rfl rfl rfl (by decide +kernel) ⟨Nat.le_of_ble_eq_true rfl, Nat.le_of_ble_eq_true rfl⟩) hK hP (zk_7_9 (kd_X2_toolAt hk0 hq8)) (by decide) rfl rfl hl.1 rfl (Nat.le_of_ble_eq_true rfl) dX2_enterClaim_86 ⟨Nat.zero_le _, Nat.zero_le _⟩) hS (fun H locs hP hS => ?_)
                  refine lv_bipush (v := 8) hx hb dX2_enterClaim_89 (by decide) ?_
                  refine lv_icmp_lt (tgt := 97) hx hb dX2_enterClaim_91 (by decide) (fun c13 => ?_) (fun c13 => ?_)
                  · have hf := zif_t c13 hf
                    refine lv_aload hx hb dX2_enterClaim_97 (lv_at hl 0 rfl) ?_
                    refine lv_iload_n hx hb dX2_enterClaim_99 rfl (lv_at hl 3 rfl) ?_
                    refine lv_iload_n hx hb dX2_enterClaim_100 rfl (lv_at hl 5 rfl) ?_
                    refine lv_iload hx hb dX2_enterClaim_101 (lv_at hl 6 rfl) ?_
                    refine lv_aload_n hx hb dX2_enterClaim_103 rfl (lv_at hl 2 rfl) ?_
                    refine x_get (j := 7) (v := .int (M x0 7)) hx hb hts hi2 hown hK hP hk0 rfl (by decide) (hts (.fieldLink RX2 47 "LeaseOffice$Office" "day" "I") (by decide +kernel)) rfl (by decide) dX2_enterClaim_104 ?_
                    obtain ⟨q14, hq14, hf⟩ := zb_e hf
                    refine x_calli (x_runV (As := [.int x1, .int x3, .int x4, .int (M x0 7)]) (rest := []) ⟨hx, hb, hml, hown, hts⟩ (c_X7_addClaim l G hG M J q8 x1 x3 x4 (M x0 7) (kd_X2_toolAt hk0 hq8) hq14) (cwV 4 hts gX2_enterClaim_X7_addClaim rfl rfl rfl (by decide +kernel) ⟨Nat.le_of_ble_eq_true rfl, Nat.le_of_ble_eq_true rfl⟩) hK hP (kd_X2_toolAt hk0 hq8) (by decide) rfl rfl hl.1 rfl (Nat.le_of_ble_eq_true rfl) dX2_enterClaim_107 ⟨Nat.zero_le _, Nat.zero_le _⟩) hS (fun H locs hP hS => ?_)
                    obtain rfl := Option.some.inj hf
                    exact x_iret hx hb hr hlocks hK hP hS dX2_enterClaim_110
                  · have hf := zif_f c13 hf
                    refine lv_bipush (v := (-3)) hx hb dX2_enterClaim_94 (by decide) ?_
                    obtain rfl := Option.some.inj hf
                    exact x_iret hx hb hr hlocks hK hP hS dX2_enterClaim_96
                · have hf := zif_t c11 hf
                  refine lv_bipush (v := (-5)) hx hb dX2_enterClaim_78 (by decide) ?_
                  obtain rfl := Option.some.inj hf
                  exact x_iret hx hb hr hlocks hK hP hS dX2_enterClaim_80
            · have hf := zif_f c7 hf
              refine lv_iconst (v := (-1)) hx hb dX2_enterClaim_51 (by decide) ?_
              obtain rfl := Option.some.inj hf
              exact x_iret hx hb hr hlocks hK hP hS dX2_enterClaim_52
  have J20 : ∀ (M : zM) (H : Heap) (locs : List Loc) (ls : Array Slot), f_X2_enterClaim_j20 M x0 x1 x2 x3 x4 = some r → va_P G.1 vwCl (zW G M J) H → va_S (zA G) s.heap H locs → lv_has ls 7 [(0, .ref (G.2.1 (x0))), (1, .int x1), (2, .int x2), (3, .int x3), (4, .int x4)] → W p l e (zrm 3 72) s m args below meth c H locs 0 0 (MQ below (zQi G r.1 r.2 J) args s 0 0 (zA G)) (F0 m 20 ls []) := by
    intro M H locs ls hf hP hS hl
    unfold f_X2_enterClaim_j20 at hf
    refine lv_iconst (v := 0) hx hb dX2_enterClaim_20 (by decide) ?_
    exact J21 M 0 H locs ls hf hP hS (lv_sub hl [0, 1, 2, 3, 4] rfl)
  unfold f_X2_enterClaim at hf
  refine lv_aload_n hx hb dX2_enterClaim_0 rfl (lv_at hl 0 rfl) ?_
  refine lv_iload_n hx hb dX2_enterClaim_1 rfl (lv_at hl 1 rfl) ?_
  obtain ⟨q1, hq1, hf⟩ := zb_e hf
  refine x_calli (x_runV (As := [.int x1]) (rest := []) ⟨hx, hb, hml, hown, hts⟩ (c_X2_isPerson l G hG I J x0 x1 hk0 hq1) (cwV 1 hts gX2_enterClaim_X2_isPerson rfl rfl rfl (by decide +kernel) ⟨Nat.le_of_ble_eq_true rfl, Nat.le_of_ble_eq_true rfl⟩) hK hP hk0 (by decide) rfl rfl hl.1 rfl (Nat.le_of_ble_eq_true rfl) dX2_enterClaim_2 ⟨Nat.zero_le _, Nat.zero_le _⟩) hS (fun H locs hP hS => ?_)
  refine lv_if_eq (tgt := 20) hx hb dX2_enterClaim_5 (by decide) (fun c2 => ?_) (fun c2 => ?_)
  · have hf := zif_t c2 hf
    exact J20 I H locs ls hf hP hS (lv_sub hl [0, 1, 2, 3, 4] rfl)
  · have hf := zif_f c2 hf
    refine lv_aload_n hx hb dX2_enterClaim_8 rfl (lv_at hl 0 rfl) ?_
    refine lv_iload_n hx hb dX2_enterClaim_9 rfl (lv_at hl 2 rfl) ?_
    obtain ⟨q15, hq15, hf⟩ := zb_e hf
    refine x_calli (x_runV (As := [.int x2]) (rest := []) ⟨hx, hb, hml, hown, hts⟩ (c_X2_isTool l G hG I J x0 x2 hk0 hq15) (cwV 1 hts gX2_enterClaim_X2_isTool rfl rfl rfl (by decide +kernel) ⟨Nat.le_of_ble_eq_true rfl, Nat.le_of_ble_eq_true rfl⟩) hK hP hk0 (by decide) rfl rfl hl.1 rfl (Nat.le_of_ble_eq_true rfl) dX2_enterClaim_10 ⟨Nat.zero_le _, Nat.zero_le _⟩) hS (fun H locs hP hS => ?_)
    refine lv_if_eq (tgt := 20) hx hb dX2_enterClaim_13 (by decide) (fun c16 => ?_) (fun c16 => ?_)
    · have hf := zif_t c16 hf
      exact J20 I H locs ls hf hP hS (lv_sub hl [0, 1, 2, 3, 4] rfl)
    · have hf := zif_f c16 hf
      refine lv_iconst (v := 1) hx hb dX2_enterClaim_16 (by decide) ?_
      refine lv_goto (tgt := 21) hx hb dX2_enterClaim_17 (by decide) ?_
      exact J21 I 1 H locs ls hf hP hS (lv_sub hl [0, 1, 2, 3, 4] rfl)
set_option maxRecDepth 100000 in
set_option maxHeartbeats 4000000 in
theorem c_X2_isName (l : Launch) (G : zGT) (hG : zOK G) (I J : zM) (x0 : Int32) {r : Int32} (hf : f_X2_isName I x0 = some r) : Met l yX2_isName wsX2_isName (zrm 0 0) (va_Pc [.int x0] (zS G I J)) (zQi G r I J) 0 0 (zA G) := by
  refine zMet (cc := cX2_isName) (n := 2) (ret := (some .boolean)) (by decide) rfl (Nat.le_of_ble_eq_true rfl) ?_
  intro p e s m args below meth c H locs ls F hK hP hS hl
  obtain ⟨hx, hb, hr, hml, hts, hown, hlocks⟩ := F
  have hown : s.vm.findClass RX2 = some m.cls := hown
  have hl : lv_has ls 2 [(0, .int x0)] := hl
  have L16 : ∀ (n : Nat) (y1 : Int32) (H : Heap) (locs : List Loc) (ls : Array Slot), f_X2_isName_l16 I n y1 = some r → va_P G.1 vwCl (zW G I J) H → va_S (zA G) s.heap H locs → lv_has ls 2 [(1, .int y1)] → W p l e (zrm 0 0) s m args below meth c H locs 0 0 (MQ below (zQi G r I J) args s 0 0 (zA G)) (F0 m 16 ls []) := by
    intro n
    induction n with
    | zero =>
      intro y1 H locs ls hf
      rw [f_X2_isName_l16] at hf
      cases hf
    | succ n ih =>
      intro y1 H locs ls hf hP hS hl
      rw [f_X2_isName_l16] at hf
      refine lv_iload_n hx hb dX2_isName_16 rfl (lv_at hl 0 rfl) ?_
      refine lv_if_le (tgt := 37) hx hb dX2_isName_17 (by decide) (fun c3 => ?_) (fun c3 => ?_)
      · have hf := zif_t c3 hf
        refine lv_iconst (v := 1) hx hb dX2_isName_37 (by decide) ?_
        obtain rfl := Option.some.inj hf
        exact x_zret (v := 1) rfl hx hb hr hlocks hK hP hS dX2_isName_38
      · have hf := zif_f c3 hf
        refine lv_iload_n hx hb dX2_isName_20 rfl (lv_at hl 0 rfl) ?_
        refine lv_bipush (v := 27) hx hb dX2_isName_21 (by decide) ?_
        refine lv_irem hx hb dX2_isName_23 (by decide) ?_
        refine lv_if_ne (tgt := 29) hx hb dX2_isName_24 (by decide) (fun c4 => ?_) (fun c4 => ?_)
        · have hf := zif_f c4 hf
          refine lv_iload_n hx hb dX2_isName_29 rfl (lv_at hl 0 rfl) ?_
          refine lv_bipush (v := 27) hx hb dX2_isName_30 (by decide) ?_
          refine lv_idiv hx hb dX2_isName_32 (by decide) ?_
          obtain ⟨w5, ew5, hf⟩ := zlet_e hf
          refine z_topi ew5 ?_
          refine lv_istore_n (lv' := [(1, .int w5)]) hx hb dX2_isName_33 rfl hl (by decide) rfl (fun ls hl => ?_)
          refine lv_goto (tgt := 16) hx hb dX2_isName_34 (by decide) ?_
          exact ih w5 H locs ls hf hP hS (lv_sub hl [0] rfl)
        · have hf := zif_t c4 hf
          refine lv_iconst (v := 0) hx hb dX2_isName_27 (by decide) ?_
          obtain rfl := Option.some.inj hf
          exact x_zret (v := 0) rfl hx hb hr hlocks hK hP hS dX2_isName_28
  unfold f_X2_isName at hf
  refine lv_iload_n hx hb dX2_isName_0 rfl (lv_at hl 0 rfl) ?_
  refine lv_iconst (v := 1) hx hb dX2_isName_1 (by decide) ?_
  refine lv_icmp_lt (tgt := 12) hx hb dX2_isName_2 (by decide) (fun c1 => ?_) (fun c1 => ?_)
  · have hf := zif_t c1 hf
    refine lv_iconst (v := 0) hx hb dX2_isName_12 (by decide) ?_
    obtain rfl := Option.some.inj hf
    exact x_zret (v := 0) rfl hx hb hr hlocks hK hP hS dX2_isName_13
  · have hf := zif_f c1 hf
    refine lv_iload_n hx hb dX2_isName_5 rfl (lv_at hl 0 rfl) ?_
    refine lv_sipush (v := 19683) hx hb dX2_isName_6 (by decide) ?_
    refine lv_icmp_lt (tgt := 14) hx hb dX2_isName_9 (by decide) (fun c2 => ?_) (fun c2 => ?_)
    · have hf := zif_t c2 hf
      refine lv_iload_n hx hb dX2_isName_14 rfl (lv_at hl 0 rfl) ?_
      refine lv_istore_n (lv' := [(1, .int x0), (0, .int x0)]) hx hb dX2_isName_15 rfl hl (by decide) rfl (fun ls hl => ?_)
      exact L16 zFu x0 H locs ls hf hP hS (lv_sub hl [0] rfl)
    · have hf := zif_f c2 hf
      refine lv_iconst (v := 0) hx hb dX2_isName_12 (by decide) ?_
      obtain rfl := Option.some.inj hf
      exact x_zret (v := 0) rfl hx hb hr hlocks hK hP hS dX2_isName_13
set_option maxRecDepth 100000 in
set_option maxHeartbeats 4000000 in
theorem c_X3_comeIn (l : Launch) (G : zGT) (hG : zOK G) (I J : zM) (x0 : Nat) (x1 : Int32) (x2 : Int32) (hk0 : zK x0 = 3) {r : zM} (hf : f_X3_comeIn I x0 x1 x2 = some r) : Met l yX3_comeIn wsX3_comeIn (zrm 0 0) (va_Pc [.ref (G.2.1 (x0)), .int x1, .int x2] (zS G I J)) (zQv G r J) 0 0 (zA G) := by
  refine zMet (cc := cX3_comeIn) (n := 4) (ret := none) (by decide) rfl (Nat.le_of_ble_eq_true rfl) ?_
  intro p e s m args below meth c H locs ls F hK hP hS hl
  obtain ⟨hx, hb, hr, hml, hts, hown, hlocks⟩ := F
  have hown : s.vm.findClass RX3 = some m.cls := hown
  have hl : lv_has ls 4 [(0, .ref (G.2.1 (x0))), (1, .int x1), (2, .int x2)] := hl
  have hi3 : ∀ w ∈ wsX30, w ∈ wsX3_comeIn := fun _ h => List.mem_cons_of_mem _ (List.mem_append_right _ h)
  have L28 : ∀ (n : Nat) (M : zM) (y3 : Int32) (H : Heap) (locs : List Loc) (ls : Array Slot), f_X3_comeIn_l28 x0 n M y3 = some r → va_P G.1 vwCl (zW G M J) H → va_S (zA G) s.heap H locs → lv_has ls 4 [(0, .ref (G.2.1 (x0))), (3, .int y3)] → W p l e (zrm 0 0) s m args below meth c H locs 0 0 (MQ below (zQv G r J) args s 0 0 (zA G)) (F0 m 28 ls []) := by
    intro n
    induction n with
    | zero =>
      intro M y3 H locs ls hf
      rw [f_X3_comeIn_l28] at hf
      cases hf
    | succ n ih =>
      intro M y3 H locs ls hf hP hS hl
      rw [f_X3_comeIn_l28] at hf
      refine lv_iload_n hx hb dX3_comeIn_28 rfl (lv_at hl 1 rfl) ?_
      refine lv_aload_n hx hb dX3_comeIn_29 rfl (lv_at hl 0 rfl) ?_
      refine x_get (j := 5) (v := .ref (G.2.1 (x0 + 1))) hx hb hts hi3 hown hK hP hk0 rfl (by decide) (hts (.fieldLink RX3 9 "LeaseOffice$Person" "wishes" "[I") (by decide +kernel)) rfl (by decide) dX3_comeIn_30 ?_
      refine x_alen 0 (v := 10) hx hb hK hP (zK_lt (zk_3_5 hk0) (by decide)) (zE_10 (zk_3_5 hk0) (zl_3_5 hk0)) rfl rfl dX3_comeIn_33 ?_
      refine lv_icmp_ge (tgt := 50) hx hb dX3_comeIn_34 (by decide) (fun c6 => ?_) (fun c6 => ?_)
      · have hf := zif_t c6 hf
        obtain rfl := Option.some.inj hf
        exact x_vret hx hb hr hlocks hK hP hS dX3_comeIn_50
      · have hf := zif_f c6 hf
        refine lv_aload_n hx hb dX3_comeIn_37 rfl (lv_at hl 0 rfl) ?_
        refine x_get (j := 5) (v := .ref (G.2.1 (x0 + 1))) hx hb hts hi3 hown hK hP hk0 rfl (by decide) (hts (.fieldLink RX3 9 "LeaseOffice$Person" "wishes" "[I") (by decide +kernel)) rfl (by decide) dX3_comeIn_38 ?_
        refine lv_iload_n hx hb dX3_comeIn_41 rfl (lv_at hl 1 rfl) ?_
        refine lv_iconst (v := 0) hx hb dX3_comeIn_42 (by decide) ?_
        obtain ⟨h8, hf⟩ := zck_e hf
        obtain ⟨M7, eM7, hf⟩ := zlet_e hf
        refine x_iastC eM7 hx hb hG hK hP hS (zk_3_5 hk0) (zl_3_5 hk0) (zin_e h8) dX3_comeIn_43 (fun H locs hP hS => ?_)
        refine lv_iinc (v := (y3 + 1)) (lv' := [(3, .int (y3 + 1)), (0, .ref (G.2.1 (x0)))]) hx hb dX3_comeIn_44 hl (k := 1) rfl rfl (by decide) rfl (fun ls hl => ?_)
        refine lv_goto (tgt := 28) hx hb dX3_comeIn_47 (by decide) ?_
        exact ih M7 (y3 + 1) H locs ls hf hP hS (lv_sub hl [1, 0] rfl)
  unfold f_X3_comeIn at hf
  refine lv_aload_n hx hb dX3_comeIn_0 rfl (lv_at hl 0 rfl) ?_
  refine lv_iload_n hx hb dX3_comeIn_1 rfl (lv_at hl 1 rfl) ?_
  obtain ⟨M1, eM1, hf⟩ := zlet_e hf
  refine x_put (j := 0) (I2 := M1) (J2 := J) (ty0 := tyX3) (ty := .int) hx hb hts hi3 hown hG hK hP hS hk0 rfl tyX3_ok nmX3 (by decide) (hts (.fieldLink RX3 15 "LeaseOffice$Person" "name" "I") (by decide +kernel)) rfl (by decide +kernel) rfl rfl (Nat.le_of_ble_eq_true rfl) (by rw [eM1]; exact zs_3_0 _) (by rw [eM1]; exact zo_C) (by decide) dX3_comeIn_2 (fun H locs hP hS => ?_)
  refine lv_aload_n hx hb dX3_comeIn_5 rfl (lv_at hl 0 rfl) ?_
  refine lv_iload_n hx hb dX3_comeIn_6 rfl (lv_at hl 2 rfl) ?_
  obtain ⟨M2, eM2, hf⟩ := zlet_e hf
  refine x_put (j := 1) (I2 := M2) (J2 := J) (ty0 := tyX3) (ty := .int) hx hb hts hi3 hown hG hK hP hS hk0 rfl tyX3_ok nmX3 (by decide) (hts (.fieldLink RX3 19 "LeaseOffice$Person" "purse" "I") (by decide +kernel)) rfl (by decide +kernel) rfl rfl (Nat.le_of_ble_eq_true rfl) (by rw [eM2]; exact zs_3_1 _) (by rw [eM2]; exact zo_C) (by decide) dX3_comeIn_7 (fun H locs hP hS => ?_)
  refine lv_aload_n hx hb dX3_comeIn_10 rfl (lv_at hl 0 rfl) ?_
  refine lv_bipush (v := 50) hx hb dX3_comeIn_11 (by decide) ?_
  obtain ⟨M3, eM3, hf⟩ := zlet_e hf
  refine x_put (j := 2) (I2 := M3) (J2 := J) (ty0 := tyX3) (ty := .int) hx hb hts hi3 hown hG hK hP hS hk0 rfl tyX3_ok nmX3 (by decide) (hts (.fieldLink RX3 22 "LeaseOffice$Person" "trust" "I") (by decide +kernel)) rfl (by decide +kernel) rfl rfl (Nat.le_of_ble_eq_true rfl) (by rw [eM3]; exact zs_3_2 _) (by rw [eM3]; exact zo_C) (by decide) dX3_comeIn_13 (fun H locs hP hS => ?_)
  refine lv_aload_n hx hb dX3_comeIn_16 rfl (lv_at hl 0 rfl) ?_
  refine lv_iconst (v := 0) hx hb dX3_comeIn_17 (by decide) ?_
  obtain ⟨M4, eM4, hf⟩ := zlet_e hf
  refine x_put (j := 3) (I2 := M4) (J2 := J) (ty0 := tyX3) (ty := .int) hx hb hts hi3 hown hG hK hP hS hk0 rfl tyX3_ok nmX3 (by decide) (hts (.fieldLink RX3 25 "LeaseOffice$Person" "late" "I") (by decide +kernel)) rfl (by decide +kernel) rfl rfl (Nat.le_of_ble_eq_true rfl) (by rw [eM4]; exact zs_3_3 _) (by rw [eM4]; exact zo_C) (by decide) dX3_comeIn_18 (fun H locs hP hS => ?_)
  refine lv_aload_n hx hb dX3_comeIn_21 rfl (lv_at hl 0 rfl) ?_
  refine lv_iconst (v := 0) hx hb dX3_comeIn_22 (by decide) ?_
  obtain ⟨M5, eM5, hf⟩ := zlet_e hf
  refine x_put (j := 4) (I2 := M5) (J2 := J) (ty0 := tyX3) (ty := .int) hx hb hts hi3 hown hG hK hP hS hk0 rfl tyX3_ok nmX3 (by decide) (hts (.fieldLink RX3 28 "LeaseOffice$Person" "debt" "I") (by decide +kernel)) rfl (by decide +kernel) rfl rfl (Nat.le_of_ble_eq_true rfl) (by rw [eM5]; exact zs_3_4 _) (by rw [eM5]; exact zo_C) (by decide) dX3_comeIn_23 (fun H locs hP hS => ?_)
  refine lv_iconst (v := 0) hx hb dX3_comeIn_26 (by decide) ?_
  refine lv_istore_n (lv' := [(3, .int 0), (0, .ref (G.2.1 (x0))), (1, .int x1), (2, .int x2)]) hx hb dX3_comeIn_27 rfl hl (by decide) rfl (fun ls hl => ?_)
  exact L28 zFu M5 0 H locs ls hf hP hS (lv_sub hl [1, 0] rfl)
set_option maxRecDepth 100000 in
set_option maxHeartbeats 4000000 in
theorem c_X2_enterPerson (l : Launch) (G : zGT) (hG : zOK G) (I J : zM) (x0 : Nat) (x1 : Int32) (x2 : Int32) (hk0 : zK x0 = 2) {r : Int32 × zM} (hf : f_X2_enterPerson I x0 x1 x2 = some r) : Met l yX2_enterPerson wsX2_enterPerson (zrm 1 23) (va_Pc [.ref (G.2.1 (x0)), .int x1, .int x2] (zS G I J)) (zQi G r.1 r.2 J) 0 0 (zA G) := by
  refine zMet (cc := cX2_enterPerson) (n := 4) (ret := (some .int)) (by decide) rfl (Nat.le_of_ble_eq_true rfl) ?_
  intro p e s m args below meth c H locs ls F hK hP hS hl
  obtain ⟨hx, hb, hr, hml, hts, hown, hlocks⟩ := F
  have hown : s.vm.findClass RX2 = some m.cls := hown
  have hl : lv_has ls 4 [(0, .ref (G.2.1 (x0))), (1, .int x1), (2, .int x2)] := hl
  have hi2 : ∀ w ∈ wsX20, w ∈ wsX2_enterPerson := fun _ h => List.mem_cons_of_mem _ (List.mem_append_left _ (List.mem_append_right _ h))
  have hi3 : ∀ w ∈ wsX30, w ∈ wsX2_enterPerson := fun _ h => List.mem_cons_of_mem _ (List.mem_append_right _ h)
  have L22 : ∀ (M : zM) (K : Option (Int32 × zM)) (hKK : ∀ (H : Heap) (locs : List Loc) (ls : Array Slot), K = some r → va_P G.1 vwCl (zW G M J) H → va_S (zA G) s.heap H locs → lv_has ls 4 [(0, .ref (G.2.1 (x0))), (1, .int x1), (2, .int x2)] → W p l e (zrm 1 23) s m args below meth c H locs 0 0 (MQ below (zQi G r.1 r.2 J) args s 0 0 (zA G)) (F0 m 51 ls [])) (n : Nat) (y3 : Int32) (H : Heap) (locs : List Loc) (ls : Array Slot), f_X2_enterPerson_l22 M x0 x1 x2 K n y3 = some r → va_P G.1 vwCl (zW G M J) H → va_S (zA G) s.heap H locs → lv_has ls 4 [(0, .ref (G.2.1 (x0))), (1, .int x1), (2, .int x2), (3, .int y3)] → W p l e (zrm 1 23) s m args below meth c H locs 0 0 (MQ below (zQi G r.1 r.2 J) args s 0 0 (zA G)) (F0 m 22 ls []) := by
    intro M K hKK n
    induction n with
    | zero =>
      intro y3 H locs ls hf
      rw [f_X2_enterPerson_l22] at hf
      cases hf
    | succ n ih =>
      intro y3 H locs ls hf hP hS hl
      rw [f_X2_enterPerson_l22] at hf
      refine lv_iload_n hx hb dX2_enterPerson_22 rfl (lv_at hl 3 rfl) ?_
      refine lv_aload_n hx hb dX2_enterPerson_23 rfl (lv_at hl 0 rfl) ?_
      refine x_get (j := 5) (v := .int (M x0 5)) hx hb hts hi2 hown hK hP hk0 rfl (by decide) (hts (.fieldLink RX2 40 "LeaseOffice$Office" "personCount" "I") (by decide +kernel)) rfl (by decide) dX2_enterPerson_24 ?_
      refine lv_icmp_ge (tgt := 51) hx hb dX2_enterPerson_27 (by decide) (fun c5 => ?_) (fun c5 => ?_)
      · have hf := zif_t c5 hf
        exact hKK H locs ls hf hP hS (lv_sub hl [0, 1, 2] rfl)
      · have hf := zif_f c5 hf
        refine lv_aload_n hx hb dX2_enterPerson_30 rfl (lv_at hl 0 rfl) ?_
        refine lv_iload_n hx hb dX2_enterPerson_31 rfl (lv_at hl 3 rfl) ?_
        obtain ⟨q6, hq6, hf⟩ := zb_e hf
        refine x_callr (x_runV (As := [.int y3]) (rest := []) ⟨hx, hb, hml, hown, hts⟩ (c_X2_personAt l G hG M J x0 y3 hk0 hq6) (cwV 1 hts gX2_enterPerson_X2_personAt rfl rfl rfl (by decide +kernel) ⟨Nat.le_of_ble_eq_true rfl, Nat.le_of_ble_eq_true rfl⟩) hK hP hk0 (by decide) rfl rfl hl.1 rfl (Nat.le_of_ble_eq_true rfl) dX2_enterPerson_32 ⟨Nat.zero_le _, Nat.zero_le _⟩) hS (fun H locs hP hS => ?_)
        refine x_get (j := 0) (v := .int (M q6 0)) hx hb hts hi3 hown hK hP (kd_X2_personAt hk0 hq6) rfl (by decide) (hts (.fieldLink RX2 78 "LeaseOffice$Person" "name" "I") (by decide +kernel)) rfl (by decide) dX2_enterPerson_35 ?_
        refine lv_iload_n hx hb dX2_enterPerson_38 rfl (lv_at hl 1 rfl) ?_
        refine lv_icmp_ne (tgt := 45) hx hb dX2_enterPerson_39 (by decide) (fun c7 => ?_) (fun c7 => ?_)
        · have hf := zif_f c7 hf
          refine lv_iinc (v := (y3 + 1)) (lv' := [(3, .int (y3 + 1)), (0, .ref (G.2.1 (x0))), (1, .int x1), (2, .int x2)]) hx hb dX2_enterPerson_45 hl (k := 3) rfl rfl (by decide) rfl (fun ls hl => ?_)
          refine lv_goto (tgt := 22) hx hb dX2_enterPerson_48 (by decide) ?_
          exact ih (y3 + 1) H locs ls hf hP hS (lv_sub hl [1, 2, 3, 0] rfl)
        · have hf := zif_t c7 hf
          refine lv_bipush (v := (-5)) hx hb dX2_enterPerson_42 (by decide) ?_
          obtain rfl := Option.some.inj hf
          exact x_iret hx hb hr hlocks hK hP hS dX2_enterPerson_44
  unfold f_X2_enterPerson at hf
  refine lv_iload_n hx hb dX2_enterPerson_0 rfl (lv_at hl 1 rfl) ?_
  obtain ⟨q1, hq1, hf⟩ := zb_e hf
  refine x_calli (x_runS (As := [.int x1]) (rest := []) ⟨hx, hb, hml, hown, hts⟩ (c_X2_isName l G hG I J x1 hq1) (va_cwS 1 hts gX2_enterPerson_X2_isName rfl rfl rfl (by decide +kernel) ⟨Nat.le_of_ble_eq_true rfl, Nat.le_of_ble_eq_true rfl⟩) hK hP rfl hl.1 rfl (Nat.le_of_ble_eq_true rfl) dX2_enterPerson_1 ⟨Nat.zero_le _, Nat.zero_le _⟩) hS (fun H locs hP hS => ?_)
  refine lv_if_eq (tgt := 18) hx hb dX2_enterPerson_4 (by decide) (fun c2 => ?_) (fun c2 => ?_)
  · have hf := zif_t c2 hf
    refine lv_iconst (v := (-1)) hx hb dX2_enterPerson_18 (by decide) ?_
    obtain rfl := Option.some.inj hf
    exact x_iret hx hb hr hlocks hK hP hS dX2_enterPerson_19
  · have hf := zif_f c2 hf
    refine lv_iload_n hx hb dX2_enterPerson_7 rfl (lv_at hl 2 rfl) ?_
    refine lv_if_lt (tgt := 18) hx hb dX2_enterPerson_8 (by decide) (fun c3 => ?_) (fun c3 => ?_)
    · have hf := zif_t c3 hf
      refine lv_iconst (v := (-1)) hx hb dX2_enterPerson_18 (by decide) ?_
      obtain rfl := Option.some.inj hf
      exact x_iret hx hb hr hlocks hK hP hS dX2_enterPerson_19
    · have hf := zif_f c3 hf
      refine lv_iload_n hx hb dX2_enterPerson_11 rfl (lv_at hl 2 rfl) ?_
      refine lv_sipush (v := 9999) hx hb dX2_enterPerson_12 (by decide) ?_
      refine lv_icmp_le (tgt := 20) hx hb dX2_enterPerson_15 (by decide) (fun c4 => ?_) (fun c4 => ?_)
      · have hf := zif_t c4 hf
        refine lv_iconst (v := 0) hx hb dX2_enterPerson_20 (by decide) ?_
        refine lv_istore_n (lv' := [(3, .int 0), (0, .ref (G.2.1 (x0))), (1, .int x1), (2, .int x2)]) hx hb dX2_enterPerson_21 rfl hl (by decide) rfl (fun ls hl => ?_)
        refine L22 I _ (fun H locs ls hf hP hS hl => ?_) zFu 0 H locs ls hf hP hS (lv_sub hl [1, 2, 3, 0] rfl)
        refine lv_aload_n hx hb dX2_enterPerson_51 rfl (lv_at hl 0 rfl) ?_
        refine x_get (j := 5) (v := .int (I x0 5)) hx hb hts hi2 hown hK hP hk0 rfl (by decide) (hts (.fieldLink RX2 40 "LeaseOffice$Office" "personCount" "I") (by decide +kernel)) rfl (by decide) dX2_enterPerson_52 ?_
        refine lv_bipush (v := 12) hx hb dX2_enterPerson_55 (by decide) ?_
        refine lv_icmp_lt (tgt := 63) hx hb dX2_enterPerson_57 (by decide) (fun c8 => ?_) (fun c8 => ?_)
        · have hf := zif_t c8 hf
          refine lv_aload_n hx hb dX2_enterPerson_63 rfl (lv_at hl 0 rfl) ?_
          refine lv_aload_n hx hb dX2_enterPerson_64 rfl (lv_at hl 0 rfl) ?_
          refine x_get (j := 5) (v := .int (I x0 5)) hx hb hts hi2 hown hK hP hk0 rfl (by decide) (hts (.fieldLink RX2 40 "LeaseOffice$Office" "personCount" "I") (by decide +kernel)) rfl (by decide) dX2_enterPerson_65 ?_
          obtain ⟨q9, hq9, hf⟩ := zb_e hf
          refine x_callr (x_runV (As := [.int (I x0 5)]) (rest := []) ⟨hx, hb, hml, hown, hts⟩ (c_X2_personAt l G hG I J x0 (I x0 5) hk0 hq9) (cwV 1 hts gX2_enterPerson_X2_personAt rfl rfl rfl (by decide +kernel) ⟨Nat.le_of_ble_eq_true rfl, Nat.le_of_ble_eq_true rfl⟩) hK hP hk0 (by decide) rfl rfl hl.1 rfl (Nat.le_of_ble_eq_true rfl) dX2_enterPerson_68 ⟨Nat.zero_le _, Nat.zero_le _⟩) hS (fun H locs hP hS => ?_)
          refine lv_iload_n hx hb dX2_enterPerson_71 rfl (lv_at hl 1 rfl) ?_
          refine lv_iload_n hx hb dX2_enterPerson_72 rfl (lv_at hl 2 rfl) ?_
          obtain ⟨q10, hq10, hf⟩ := zb_e hf
          refine x_callv (x_runV (As := [.int x1, .int x2]) (rest := []) ⟨hx, hb, hml, hown, hts⟩ (c_X3_comeIn l G hG I J q9 x1 x2 (kd_X2_personAt hk0 hq9) hq10) (cwV 2 hts gX2_enterPerson_X3_comeIn rfl rfl rfl (by decide +kernel) ⟨Nat.le_of_ble_eq_true rfl, Nat.le_of_ble_eq_true rfl⟩) hK hP (kd_X2_personAt hk0 hq9) (by decide) rfl rfl hl.1 rfl (Nat.le_of_ble_eq_true rfl) dX2_enterPerson_73 ⟨Nat.zero_le _, Nat.zero_le _⟩) hS (fun H locs hP hS => ?_)
          refine lv_aload_n hx hb dX2_enterPerson_76 rfl (lv_at hl 0 rfl) ?_
          refine lv_dup hx hb dX2_enterPerson_77 rfl ?_
          refine x_get (j := 5) (v := .int (q10 x0 5)) hx hb hts hi2 hown hK hP hk0 rfl (by decide) (hts (.fieldLink RX2 40 "LeaseOffice$Office" "personCount" "I") (by decide +kernel)) rfl (by decide) dX2_enterPerson_78 ?_
          refine lv_iconst (v := 1) hx hb dX2_enterPerson_81 (by decide) ?_
          refine lv_iadd hx hb dX2_enterPerson_82 ?_
          obtain ⟨M11, eM11, hf⟩ := zlet_e hf
          refine x_put (j := 5) (I2 := M11) (J2 := J) (ty0 := tyX2) (ty := .int) hx hb hts hi2 hown hG hK hP hS hk0 rfl tyX2_ok nmX2 (by decide) (hts (.fieldLink RX2 40 "LeaseOffice$Office" "personCount" "I") (by decide +kernel)) rfl (by decide +kernel) rfl rfl (Nat.le_of_ble_eq_true rfl) (by rw [eM11]; exact zs_2_5 _) (by rw [eM11]; exact zo_C) (by decide) dX2_enterPerson_83 (fun H locs hP hS => ?_)
          refine lv_aload_n hx hb dX2_enterPerson_86 rfl (lv_at hl 0 rfl) ?_
          refine x_get (j := 5) (v := .int (M11 x0 5)) hx hb hts hi2 hown hK hP hk0 rfl (by decide) (hts (.fieldLink RX2 40 "LeaseOffice$Office" "personCount" "I") (by decide +kernel)) rfl (by decide) dX2_enterPerson_87 ?_
          refine lv_iconst (v := 1) hx hb dX2_enterPerson_90 (by decide) ?_
          refine lv_isub hx hb dX2_enterPerson_91 ?_
          obtain rfl := Option.some.inj hf
          exact x_iret hx hb hr hlocks hK hP hS dX2_enterPerson_92
        · have hf := zif_f c8 hf
          refine lv_bipush (v := (-3)) hx hb dX2_enterPerson_60 (by decide) ?_
          obtain rfl := Option.some.inj hf
          exact x_iret hx hb hr hlocks hK hP hS dX2_enterPerson_62
      · have hf := zif_f c4 hf
        refine lv_iconst (v := (-1)) hx hb dX2_enterPerson_18 (by decide) ?_
        obtain rfl := Option.some.inj hf
        exact x_iret hx hb hr hlocks hK hP hS dX2_enterPerson_19
set_option maxRecDepth 100000 in
set_option maxHeartbeats 4000000 in
theorem c_X7_stayAtOffice (l : Launch) (G : zGT) (hG : zOK G) (I J : zM) (x0 : Nat) (hk0 : zK x0 = 7) {r : zM} (hf : f_X7_stayAtOffice I x0 = some r) : Met l yX7_stayAtOffice wsX7_stayAtOffice (zrm 0 0) (va_Pc [.ref (G.2.1 (x0))] (zS G I J)) (zQv G r J) 0 0 (zA G) := by
  refine zMet (cc := cX7_stayAtOffice) (n := 1) (ret := none) (by decide) rfl (Nat.le_of_ble_eq_true rfl) ?_
  intro p e s m args below meth c H locs ls F hK hP hS hl
  obtain ⟨hx, hb, hr, hml, hts, hown, hlocks⟩ := F
  have hown : s.vm.findClass RX7 = some m.cls := hown
  have hl : lv_has ls 1 [(0, .ref (G.2.1 (x0)))] := hl
  have hi7 : ∀ w ∈ wsX70, w ∈ wsX7_stayAtOffice := fun _ h => List.mem_cons_of_mem _ (List.mem_append_right _ h)
  unfold f_X7_stayAtOffice at hf
  refine lv_aload_n hx hb dX7_stayAtOffice_0 rfl (lv_at hl 0 rfl) ?_
  refine lv_bipush (v := (-2)) hx hb dX7_stayAtOffice_1 (by decide) ?_
  obtain ⟨M1, eM1, hf⟩ := zlet_e hf
  refine x_put (j := 2) (I2 := M1) (J2 := J) (ty0 := tyX7) (ty := .int) hx hb hts hi7 hown hG hK hP hS hk0 rfl tyX7_ok nmX7 (by decide) (hts (.fieldLink RX7 46 "LeaseOffice$Tool" "holder" "I") (by decide +kernel)) rfl (by decide +kernel) rfl rfl (Nat.le_of_ble_eq_true rfl) (by rw [eM1]; exact zs_7_2 _) (by rw [eM1]; exact zo_C) (by decide) dX7_stayAtOffice_3 (fun H locs hP hS => ?_)
  refine lv_aload_n hx hb dX7_stayAtOffice_6 rfl (lv_at hl 0 rfl) ?_
  refine lv_bipush (v := (-2)) hx hb dX7_stayAtOffice_7 (by decide) ?_
  obtain ⟨M2, eM2, hf⟩ := zlet_e hf
  refine x_put (j := 3) (I2 := M2) (J2 := J) (ty0 := tyX7) (ty := .int) hx hb hts hi7 hown hG hK hP hS hk0 rfl tyX7_ok nmX7 (by decide) (hts (.fieldLink RX7 49 "LeaseOffice$Tool" "since" "I") (by decide +kernel)) rfl (by decide +kernel) rfl rfl (Nat.le_of_ble_eq_true rfl) (by rw [eM2]; exact zs_7_3 _) (by rw [eM2]; exact zo_C) (by decide) dX7_stayAtOffice_9 (fun H locs hP hS => ?_)
  refine lv_aload_n hx hb dX7_stayAtOffice_12 rfl (lv_at hl 0 rfl) ?_
  refine lv_bipush (v := (-2)) hx hb dX7_stayAtOffice_13 (by decide) ?_
  obtain ⟨M3, eM3, hf⟩ := zlet_e hf
  refine x_put (j := 4) (I2 := M3) (J2 := J) (ty0 := tyX7) (ty := .int) hx hb hts hi7 hown hG hK hP hS hk0 rfl tyX7_ok nmX7 (by decide) (hts (.fieldLink RX7 52 "LeaseOffice$Tool" "due" "I") (by decide +kernel)) rfl (by decide +kernel) rfl rfl (Nat.le_of_ble_eq_true rfl) (by rw [eM3]; exact zs_7_4 _) (by rw [eM3]; exact zo_C) (by decide) dX7_stayAtOffice_15 (fun H locs hP hS => ?_)
  refine lv_aload_n hx hb dX7_stayAtOffice_18 rfl (lv_at hl 0 rfl) ?_
  refine lv_iconst (v := 0) hx hb dX7_stayAtOffice_19 (by decide) ?_
  obtain ⟨M4, eM4, hf⟩ := zlet_e hf
  refine x_put (j := 5) (I2 := M4) (J2 := J) (ty0 := tyX7) (ty := .int) hx hb hts hi7 hown hG hK hP hS hk0 rfl tyX7_ok nmX7 (by decide) (hts (.fieldLink RX7 55 "LeaseOffice$Tool" "deposit" "I") (by decide +kernel)) rfl (by decide +kernel) rfl rfl (Nat.le_of_ble_eq_true rfl) (by rw [eM4]; exact zs_7_5 _) (by rw [eM4]; exact zo_C) (by decide) dX7_stayAtOffice_20 (fun H locs hP hS => ?_)
  obtain rfl := Option.some.inj hf
  exact x_vret hx hb hr hlocks hK hP hS dX7_stayAtOffice_23
set_option maxRecDepth 100000 in
set_option maxHeartbeats 4000000 in
theorem c_X7_isLeased (l : Launch) (G : zGT) (hG : zOK G) (I J : zM) (x0 : Nat) (hk0 : zK x0 = 7) {r : Int32} (hf : f_X7_isLeased I x0 = some r) : Met l yX7_isLeased wsX7_isLeased (zrm 0 0) (va_Pc [.ref (G.2.1 (x0))] (zS G I J)) (zQi G r I J) 0 0 (zA G) := by
  refine zMet (cc := cX7_isLeased) (n := 1) (ret := (some .boolean)) (by decide) rfl (Nat.le_of_ble_eq_true rfl) ?_
  intro p e s m args below meth c H locs ls F hK hP hS hl
  obtain ⟨hx, hb, hr, hml, hts, hown, hlocks⟩ := F
  have hown : s.vm.findClass RX7 = some m.cls := hown
  have hl : lv_has ls 1 [(0, .ref (G.2.1 (x0)))] := hl
  have hi7 : ∀ w ∈ wsX70, w ∈ wsX7_isLeased := fun _ h => List.mem_cons_of_mem _ (List.mem_append_right _ h)
  unfold f_X7_isLeased at hf
  refine lv_aload_n hx hb dX7_isLeased_0 rfl (lv_at hl 0 rfl) ?_
  refine x_get (j := 2) (v := .int (I x0 2)) hx hb hts hi7 hown hK hP hk0 rfl (by decide) (hts (.fieldLink RX7 46 "LeaseOffice$Tool" "holder" "I") (by decide +kernel)) rfl (by decide) dX7_isLeased_1 ?_
  refine lv_if_lt (tgt := 11) hx hb dX7_isLeased_4 (by decide) (fun c1 => ?_) (fun c1 => ?_)
  · have hf := zif_t c1 hf
    refine lv_iconst (v := 0) hx hb dX7_isLeased_11 (by decide) ?_
    obtain rfl := Option.some.inj hf
    exact x_zret (v := 0) rfl hx hb hr hlocks hK hP hS dX7_isLeased_12
  · have hf := zif_f c1 hf
    refine lv_iconst (v := 1) hx hb dX7_isLeased_7 (by decide) ?_
    refine lv_goto (tgt := 12) hx hb dX7_isLeased_8 (by decide) ?_
    obtain rfl := Option.some.inj hf
    exact x_zret (v := 1) rfl hx hb hr hlocks hK hP hS dX7_isLeased_12
set_option maxRecDepth 100000 in
set_option maxHeartbeats 4000000 in
theorem c_X7_noteLook (l : Launch) (G : zGT) (hG : zOK G) (I J : zM) (x0 : Nat) (x1 : Int32) (hk0 : zK x0 = 7) {r : zM} (hf : f_X7_noteLook I x0 x1 = some r) : Met l yX7_noteLook wsX7_noteLook (zrm 1 24) (va_Pc [.ref (G.2.1 (x0)), .int x1] (zS G I J)) (zQv G r J) 0 0 (zA G) := by
  refine zMet (cc := cX7_noteLook) (n := 3) (ret := none) (by decide) rfl (Nat.le_of_ble_eq_true rfl) ?_
  intro p e s m args below meth c H locs ls F hK hP hS hl
  obtain ⟨hx, hb, hr, hml, hts, hown, hlocks⟩ := F
  have hown : s.vm.findClass RX7 = some m.cls := hown
  have hl : lv_has ls 3 [(0, .ref (G.2.1 (x0))), (1, .int x1)] := hl
  have hi7 : ∀ w ∈ wsX70, w ∈ wsX7_noteLook := fun _ h => List.mem_cons_of_mem _ (List.mem_append_left _ (List.mem_append_right _ h))
  have J62 : ∀ (M : zM) (s0 : Int32) (s2 : Int32) (s3 : Nat) (hs3 : zK s3 = 4) (H : Heap) (locs : List Loc) (ls : Array Slot), f_X7_noteLook_j62 M s0 s2 s3 = some r → va_P G.1 vwCl (zW G M J) H → va_S (zA G) s.heap H locs → lv_has ls 3 [] → W p l e (zrm 1 24) s m args below meth c H locs 0 0 (MQ below (zQv G r J) args s 0 0 (zA G)) (F0 m 62 ls [.int s0, .int 3, .int s2, .ref (G.2.1 (s3))]) := by
    intro M s0 s2 s3 hs3 H locs ls hf hP hS hl
    unfold f_X7_noteLook_j62 at hf
    obtain ⟨q7, hq7, hf⟩ := zb_e hf
    refine x_callv (x_runV (As := [.int s2, .int 3, .int s0]) (rest := []) ⟨hx, hb, hml, hown, hts⟩ (c_X4_setCell l G hG M J s3 s2 3 s0 hs3 hq7) (cwV 3 hts gX7_noteLook_X4_setCell rfl rfl rfl (by decide +kernel) ⟨Nat.le_of_ble_eq_true rfl, Nat.le_of_ble_eq_true rfl⟩) hK hP hs3 (by decide) rfl rfl hl.1 rfl (Nat.le_of_ble_eq_true rfl) dX7_noteLook_62 ⟨Nat.zero_le _, Nat.zero_le _⟩) hS (fun H locs hP hS => ?_)
    obtain rfl := Option.some.inj hf
    exact x_vret hx hb hr hlocks hK hP hS dX7_noteLook_65
  unfold f_X7_noteLook at hf
  refine lv_aload_n hx hb dX7_noteLook_0 rfl (lv_at hl 0 rfl) ?_
  refine x_get (j := 8) (v := .ref (G.2.1 (x0 + 3))) hx hb hts hi7 hown hK hP hk0 rfl (by decide) (hts (.fieldLink RX7 20 "LeaseOffice$Tool" "looks" "LLeaseOffice$Table;") (by decide +kernel)) rfl (by decide) dX7_noteLook_1 ?_
  obtain ⟨q1, hq1, hf⟩ := zb_e hf
  refine x_calli (x_runV (As := []) (rest := []) ⟨hx, hb, hml, hown, hts⟩ (c_X4_append l G hG I J (x0 + 3) (zk_7_8 hk0) hq1) (cwV 0 hts gX7_noteLook_X4_append rfl rfl rfl (by decide +kernel) ⟨Nat.le_of_ble_eq_true rfl, Nat.le_of_ble_eq_true rfl⟩) hK hP (zk_7_8 hk0) (by decide) rfl rfl hl.1 rfl (Nat.le_of_ble_eq_true rfl) dX7_noteLook_4 ⟨Nat.zero_le _, Nat.zero_le _⟩) hS (fun H locs hP hS => ?_)
  refine lv_istore_n (lv' := [(2, .int q1.1), (0, .ref (G.2.1 (x0))), (1, .int x1)]) hx hb dX7_noteLook_7 rfl hl (by decide) rfl (fun ls hl => ?_)
  refine lv_aload_n hx hb dX7_noteLook_8 rfl (lv_at hl 1 rfl) ?_
  refine x_get (j := 8) (v := .ref (G.2.1 (x0 + 3))) hx hb hts hi7 hown hK hP hk0 rfl (by decide) (hts (.fieldLink RX7 20 "LeaseOffice$Tool" "looks" "LLeaseOffice$Table;") (by decide +kernel)) rfl (by decide) dX7_noteLook_9 ?_
  refine lv_iload_n hx hb dX7_noteLook_12 rfl (lv_at hl 0 rfl) ?_
  refine lv_iconst (v := 0) hx hb dX7_noteLook_13 (by decide) ?_
  refine lv_iload_n hx hb dX7_noteLook_14 rfl (lv_at hl 2 rfl) ?_
  obtain ⟨q2, hq2, hf⟩ := zb_e hf
  refine x_callv (x_runV (As := [.int q1.1, .int 0, .int x1]) (rest := []) ⟨hx, hb, hml, hown, hts⟩ (c_X4_setCell l G hG q1.2 J (x0 + 3) q1.1 0 x1 (zk_7_8 hk0) hq2) (cwV 3 hts gX7_noteLook_X4_setCell rfl rfl rfl (by decide +kernel) ⟨Nat.le_of_ble_eq_true rfl, Nat.le_of_ble_eq_true rfl⟩) hK hP (zk_7_8 hk0) (by decide) rfl rfl hl.1 rfl (Nat.le_of_ble_eq_true rfl) dX7_noteLook_15 ⟨Nat.zero_le _, Nat.zero_le _⟩) hS (fun H locs hP hS => ?_)
  refine lv_aload_n hx hb dX7_noteLook_18 rfl (lv_at hl 1 rfl) ?_
  refine x_get (j := 8) (v := .ref (G.2.1 (x0 + 3))) hx hb hts hi7 hown hK hP hk0 rfl (by decide) (hts (.fieldLink RX7 20 "LeaseOffice$Tool" "looks" "LLeaseOffice$Table;") (by decide +kernel)) rfl (by decide) dX7_noteLook_19 ?_
  refine lv_iload_n hx hb dX7_noteLook_22 rfl (lv_at hl 0 rfl) ?_
  refine lv_iconst (v := 1) hx hb dX7_noteLook_23 (by decide) ?_
  refine lv_aload_n hx hb dX7_noteLook_24 rfl (lv_at hl 1 rfl) ?_
  refine x_get (j := 1) (v := .int (q2 x0 1)) hx hb hts hi7 hown hK hP hk0 rfl (by decide) (hts (.fieldLink RX7 30 "LeaseOffice$Tool" "wear" "I") (by decide +kernel)) rfl (by decide) dX7_noteLook_25 ?_
  obtain ⟨q3, hq3, hf⟩ := zb_e hf
  refine x_callv (x_runV (As := [.int q1.1, .int 1, .int (q2 x0 1)]) (rest := []) ⟨hx, hb, hml, hown, hts⟩ (c_X4_setCell l G hG q2 J (x0 + 3) q1.1 1 (q2 x0 1) (zk_7_8 hk0) hq3) (cwV 3 hts gX7_noteLook_X4_setCell rfl rfl rfl (by decide +kernel) ⟨Nat.le_of_ble_eq_true rfl, Nat.le_of_ble_eq_true rfl⟩) hK hP (zk_7_8 hk0) (by decide) rfl rfl hl.1 rfl (Nat.le_of_ble_eq_true rfl) dX7_noteLook_28 ⟨Nat.zero_le _, Nat.zero_le _⟩) hS (fun H locs hP hS => ?_)
  refine lv_aload_n hx hb dX7_noteLook_31 rfl (lv_at hl 1 rfl) ?_
  refine x_get (j := 8) (v := .ref (G.2.1 (x0 + 3))) hx hb hts hi7 hown hK hP hk0 rfl (by decide) (hts (.fieldLink RX7 20 "LeaseOffice$Tool" "looks" "LLeaseOffice$Table;") (by decide +kernel)) rfl (by decide) dX7_noteLook_32 ?_
  refine lv_iload_n hx hb dX7_noteLook_35 rfl (lv_at hl 0 rfl) ?_
  refine lv_iconst (v := 2) hx hb dX7_noteLook_36 (by decide) ?_
  refine lv_aload_n hx hb dX7_noteLook_37 rfl (lv_at hl 1 rfl) ?_
  refine x_get (j := 6) (v := .int (q3 x0 6)) hx hb hts hi7 hown hK hP hk0 rfl (by decide) (hts (.fieldLink RX7 33 "LeaseOffice$Tool" "linksEver" "I") (by decide +kernel)) rfl (by decide) dX7_noteLook_38 ?_
  obtain ⟨q4, hq4, hf⟩ := zb_e hf
  refine x_callv (x_runV (As := [.int q1.1, .int 2, .int (q3 x0 6)]) (rest := []) ⟨hx, hb, hml, hown, hts⟩ (c_X4_setCell l G hG q3 J (x0 + 3) q1.1 2 (q3 x0 6) (zk_7_8 hk0) hq4) (cwV 3 hts gX7_noteLook_X4_setCell rfl rfl rfl (by decide +kernel) ⟨Nat.le_of_ble_eq_true rfl, Nat.le_of_ble_eq_true rfl⟩) hK hP (zk_7_8 hk0) (by decide) rfl rfl hl.1 rfl (Nat.le_of_ble_eq_true rfl) dX7_noteLook_41 ⟨Nat.zero_le _, Nat.zero_le _⟩) hS (fun H locs hP hS => ?_)
  refine lv_aload_n hx hb dX7_noteLook_44 rfl (lv_at hl 1 rfl) ?_
  refine x_get (j := 8) (v := .ref (G.2.1 (x0 + 3))) hx hb hts hi7 hown hK hP hk0 rfl (by decide) (hts (.fieldLink RX7 20 "LeaseOffice$Tool" "looks" "LLeaseOffice$Table;") (by decide +kernel)) rfl (by decide) dX7_noteLook_45 ?_
  refine lv_iload_n hx hb dX7_noteLook_48 rfl (lv_at hl 0 rfl) ?_
  refine lv_iconst (v := 3) hx hb dX7_noteLook_49 (by decide) ?_
  refine lv_aload_n hx hb dX7_noteLook_50 rfl (lv_at hl 1 rfl) ?_
  obtain ⟨q5, hq5, hf⟩ := zb_e hf
  refine x_calli (x_runV (As := []) (rest := [.int 3, .int q1.1, .ref (G.2.1 (x0 + 3))]) ⟨hx, hb, hml, hown, hts⟩ (c_X7_isLeased l G hG q4 J x0 hk0 hq5) (cwV 0 hts gX7_noteLook_X7_isLeased rfl rfl rfl (by decide +kernel) ⟨Nat.le_of_ble_eq_true rfl, Nat.le_of_ble_eq_true rfl⟩) hK hP hk0 (by decide) rfl rfl hl.1 rfl (Nat.le_of_ble_eq_true rfl) dX7_noteLook_51 ⟨Nat.zero_le _, Nat.zero_le _⟩) hS (fun H locs hP hS => ?_)
  refine lv_if_eq (tgt := 61) hx hb dX7_noteLook_54 (by decide) (fun c6 => ?_) (fun c6 => ?_)
  · have hf := zif_t c6 hf
    refine lv_iconst (v := 0) hx hb dX7_noteLook_61 (by decide) ?_
    exact J62 q4 0 q1.1 (x0 + 3) (zk_7_8 hk0) H locs ls hf hP hS (lv_sub hl [] rfl)
  · have hf := zif_f c6 hf
    refine lv_iconst (v := 1) hx hb dX7_noteLook_57 (by decide) ?_
    refine lv_goto (tgt := 62) hx hb dX7_noteLook_58 (by decide) ?_
    exact J62 q4 1 q1.1 (x0 + 3) (zk_7_8 hk0) H locs ls hf hP hS (lv_sub hl [] rfl)
set_option maxRecDepth 100000 in
set_option maxHeartbeats 4000000 in
theorem c_X7_comeIn (l : Launch) (G : zGT) (hG : zOK G) (I J : zM) (x0 : Nat) (x1 : Int32) (x2 : Int32) (hk0 : zK x0 = 7) {r : zM} (hf : f_X7_comeIn I x0 x1 x2 = some r) : Met l yX7_comeIn wsX7_comeIn (zrm 2 46) (va_Pc [.ref (G.2.1 (x0)), .int x1, .int x2] (zS G I J)) (zQv G r J) 0 0 (zA G) := by
  refine zMet (cc := cX7_comeIn) (n := 3) (ret := none) (by decide) rfl (Nat.le_of_ble_eq_true rfl) ?_
  intro p e s m args below meth c H locs ls F hK hP hS hl
  obtain ⟨hx, hb, hr, hml, hts, hown, hlocks⟩ := F
  have hown : s.vm.findClass RX7 = some m.cls := hown
  have hl : lv_has ls 3 [(0, .ref (G.2.1 (x0))), (1, .int x1), (2, .int x2)] := hl
  have hi7 : ∀ w ∈ wsX70, w ∈ wsX7_comeIn := fun _ h => List.mem_cons_of_mem _ (List.mem_append_left _ (List.mem_append_right _ h))
  unfold f_X7_comeIn at hf
  refine lv_aload_n hx hb dX7_comeIn_0 rfl (lv_at hl 0 rfl) ?_
  refine lv_iload_n hx hb dX7_comeIn_1 rfl (lv_at hl 1 rfl) ?_
  obtain ⟨M1, eM1, hf⟩ := zlet_e hf
  refine x_put (j := 0) (I2 := M1) (J2 := J) (ty0 := tyX7) (ty := .int) hx hb hts hi7 hown hG hK hP hS hk0 rfl tyX7_ok nmX7 (by decide) (hts (.fieldLink RX7 26 "LeaseOffice$Tool" "worth" "I") (by decide +kernel)) rfl (by decide +kernel) rfl rfl (Nat.le_of_ble_eq_true rfl) (by rw [eM1]; exact zs_7_0 _) (by rw [eM1]; exact zo_C) (by decide) dX7_comeIn_2 (fun H locs hP hS => ?_)
  refine lv_aload_n hx hb dX7_comeIn_5 rfl (lv_at hl 0 rfl) ?_
  refine lv_iconst (v := 0) hx hb dX7_comeIn_6 (by decide) ?_
  obtain ⟨M2, eM2, hf⟩ := zlet_e hf
  refine x_put (j := 1) (I2 := M2) (J2 := J) (ty0 := tyX7) (ty := .int) hx hb hts hi7 hown hG hK hP hS hk0 rfl tyX7_ok nmX7 (by decide) (hts (.fieldLink RX7 30 "LeaseOffice$Tool" "wear" "I") (by decide +kernel)) rfl (by decide +kernel) rfl rfl (Nat.le_of_ble_eq_true rfl) (by rw [eM2]; exact zs_7_1 _) (by rw [eM2]; exact zo_C) (by decide) dX7_comeIn_7 (fun H locs hP hS => ?_)
  refine lv_aload_n hx hb dX7_comeIn_10 rfl (lv_at hl 0 rfl) ?_
  refine lv_iconst (v := 0) hx hb dX7_comeIn_11 (by decide) ?_
  obtain ⟨M3, eM3, hf⟩ := zlet_e hf
  refine x_put (j := 6) (I2 := M3) (J2 := J) (ty0 := tyX7) (ty := .int) hx hb hts hi7 hown hG hK hP hS hk0 rfl tyX7_ok nmX7 (by decide) (hts (.fieldLink RX7 33 "LeaseOffice$Tool" "linksEver" "I") (by decide +kernel)) rfl (by decide +kernel) rfl rfl (Nat.le_of_ble_eq_true rfl) (by rw [eM3]; exact zs_7_6 _) (by rw [eM3]; exact zo_C) (by decide) dX7_comeIn_12 (fun H locs hP hS => ?_)
  refine lv_aload_n hx hb dX7_comeIn_15 rfl (lv_at hl 0 rfl) ?_
  refine x_get (j := 7) (v := .ref (G.2.1 (x0 + 1))) hx hb hts hi7 hown hK hP hk0 rfl (by decide) (hts (.fieldLink RX7 14 "LeaseOffice$Tool" "links" "LLeaseOffice$Table;") (by decide +kernel)) rfl (by decide) dX7_comeIn_16 ?_
  obtain ⟨q4, hq4, hf⟩ := zb_e hf
  refine x_callv (x_runV (As := []) (rest := []) ⟨hx, hb, hml, hown, hts⟩ (c_X4_clear l G hG M3 J (x0 + 1) (zk_7_7 hk0) hq4) (cwV 0 hts gX7_comeIn_X4_clear rfl rfl rfl (by decide +kernel) ⟨Nat.le_of_ble_eq_true rfl, Nat.le_of_ble_eq_true rfl⟩) hK hP (zk_7_7 hk0) (by decide) rfl rfl hl.1 rfl (Nat.le_of_ble_eq_true rfl) dX7_comeIn_19 ⟨Nat.zero_le _, Nat.zero_le _⟩) hS (fun H locs hP hS => ?_)
  refine lv_aload_n hx hb dX7_comeIn_22 rfl (lv_at hl 0 rfl) ?_
  refine x_get (j := 8) (v := .ref (G.2.1 (x0 + 3))) hx hb hts hi7 hown hK hP hk0 rfl (by decide) (hts (.fieldLink RX7 20 "LeaseOffice$Tool" "looks" "LLeaseOffice$Table;") (by decide +kernel)) rfl (by decide) dX7_comeIn_23 ?_
  obtain ⟨q5, hq5, hf⟩ := zb_e hf
  refine x_callv (x_runV (As := []) (rest := []) ⟨hx, hb, hml, hown, hts⟩ (c_X4_clear l G hG q4 J (x0 + 3) (zk_7_8 hk0) hq5) (cwV 0 hts gX7_comeIn_X4_clear rfl rfl rfl (by decide +kernel) ⟨Nat.le_of_ble_eq_true rfl, Nat.le_of_ble_eq_true rfl⟩) hK hP (zk_7_8 hk0) (by decide) rfl rfl hl.1 rfl (Nat.le_of_ble_eq_true rfl) dX7_comeIn_26 ⟨Nat.zero_le _, Nat.zero_le _⟩) hS (fun H locs hP hS => ?_)
  refine lv_aload_n hx hb dX7_comeIn_29 rfl (lv_at hl 0 rfl) ?_
  refine x_get (j := 9) (v := .ref (G.2.1 (x0 + 5))) hx hb hts hi7 hown hK hP hk0 rfl (by decide) (hts (.fieldLink RX7 23 "LeaseOffice$Tool" "claims" "LLeaseOffice$Table;") (by decide +kernel)) rfl (by decide) dX7_comeIn_30 ?_
  obtain ⟨q6, hq6, hf⟩ := zb_e hf
  refine x_callv (x_runV (As := []) (rest := []) ⟨hx, hb, hml, hown, hts⟩ (c_X4_clear l G hG q5 J (x0 + 5) (zk_7_9 hk0) hq6) (cwV 0 hts gX7_comeIn_X4_clear rfl rfl rfl (by decide +kernel) ⟨Nat.le_of_ble_eq_true rfl, Nat.le_of_ble_eq_true rfl⟩) hK hP (zk_7_9 hk0) (by decide) rfl rfl hl.1 rfl (Nat.le_of_ble_eq_true rfl) dX7_comeIn_33 ⟨Nat.zero_le _, Nat.zero_le _⟩) hS (fun H locs hP hS => ?_)
  refine lv_aload_n hx hb dX7_comeIn_36 rfl (lv_at hl 0 rfl) ?_
  obtain ⟨q7, hq7, hf⟩ := zb_e hf
  refine x_callv (x_runV (As := []) (rest := []) ⟨hx, hb, hml, hown, hts⟩ (c_X7_stayAtOffice l G hG q6 J x0 hk0 hq7) (cwV 0 hts gX7_comeIn_X7_stayAtOffice rfl rfl rfl (by decide +kernel) ⟨Nat.le_of_ble_eq_true rfl, Nat.le_of_ble_eq_true rfl⟩) hK hP hk0 (by decide) rfl rfl hl.1 rfl (Nat.le_of_ble_eq_true rfl) dX7_comeIn_37 ⟨Nat.zero_le _, Nat.zero_le _⟩) hS (fun H locs hP hS => ?_)
  refine lv_aload_n hx hb dX7_comeIn_40 rfl (lv_at hl 0 rfl) ?_
  refine lv_iload_n hx hb dX7_comeIn_41 rfl (lv_at hl 2 rfl) ?_
  obtain ⟨q8, hq8, hf⟩ := zb_e hf
  refine x_callv (x_runV (As := [.int x2]) (rest := []) ⟨hx, hb, hml, hown, hts⟩ (c_X7_noteLook l G hG q7 J x0 x2 hk0 hq8) (cwV 1 hts gX7_comeIn_X7_noteLook rfl rfl rfl (by decide +kernel) ⟨Nat.le_of_ble_eq_true rfl, Nat.le_of_ble_eq_true rfl⟩) hK hP hk0 (by decide) rfl rfl hl.1 rfl (Nat.le_of_ble_eq_true rfl) dX7_comeIn_42 ⟨Nat.zero_le _, Nat.zero_le _⟩) hS (fun H locs hP hS => ?_)
  obtain rfl := Option.some.inj hf
  exact x_vret hx hb hr hlocks hK hP hS dX7_comeIn_45
set_option maxRecDepth 100000 in
set_option maxHeartbeats 4000000 in
theorem c_X2_enterTool (l : Launch) (G : zGT) (hG : zOK G) (I J : zM) (x0 : Nat) (x1 : Int32) (hk0 : zK x0 = 2) {r : Int32 × zM} (hf : f_X2_enterTool I x0 x1 = some r) : Met l yX2_enterTool wsX2_enterTool (zrm 3 68) (va_Pc [.ref (G.2.1 (x0)), .int x1] (zS G I J)) (zQi G r.1 r.2 J) 0 0 (zA G) := by
  refine zMet (cc := cX2_enterTool) (n := 2) (ret := (some .int)) (by decide) rfl (Nat.le_of_ble_eq_true rfl) ?_
  intro p e s m args below meth c H locs ls F hK hP hS hl
  obtain ⟨hx, hb, hr, hml, hts, hown, hlocks⟩ := F
  have hown : s.vm.findClass RX2 = some m.cls := hown
  have hl : lv_has ls 2 [(0, .ref (G.2.1 (x0))), (1, .int x1)] := hl
  have hi2 : ∀ w ∈ wsX20, w ∈ wsX2_enterTool := fun _ h => List.mem_cons_of_mem _ (List.mem_append_left _ (List.mem_append_left _ (List.mem_append_right _ h)))
  unfold f_X2_enterTool at hf
  refine lv_iload_n hx hb dX2_enterTool_0 rfl (lv_at hl 1 rfl) ?_
  refine lv_iconst (v := 1) hx hb dX2_enterTool_1 (by decide) ?_
  refine lv_icmp_lt (tgt := 11) hx hb dX2_enterTool_2 (by decide) (fun c1 => ?_) (fun c1 => ?_)
  · have hf := zif_t c1 hf
    refine lv_iconst (v := (-1)) hx hb dX2_enterTool_11 (by decide) ?_
    obtain rfl := Option.some.inj hf
    exact x_iret hx hb hr hlocks hK hP hS dX2_enterTool_12
  · have hf := zif_f c1 hf
    refine lv_iload_n hx hb dX2_enterTool_5 rfl (lv_at hl 1 rfl) ?_
    refine lv_bipush (v := 99) hx hb dX2_enterTool_6 (by decide) ?_
    refine lv_icmp_le (tgt := 13) hx hb dX2_enterTool_8 (by decide) (fun c2 => ?_) (fun c2 => ?_)
    · have hf := zif_t c2 hf
      refine lv_aload_n hx hb dX2_enterTool_13 rfl (lv_at hl 0 rfl) ?_
      refine x_get (j := 6) (v := .int (I x0 6)) hx hb hts hi2 hown hK hP hk0 rfl (by decide) (hts (.fieldLink RX2 44 "LeaseOffice$Office" "toolCount" "I") (by decide +kernel)) rfl (by decide) dX2_enterTool_14 ?_
      refine lv_bipush (v := 10) hx hb dX2_enterTool_17 (by decide) ?_
      refine lv_icmp_lt (tgt := 25) hx hb dX2_enterTool_19 (by decide) (fun c3 => ?_) (fun c3 => ?_)
      · have hf := zif_t c3 hf
        refine lv_aload_n hx hb dX2_enterTool_25 rfl (lv_at hl 0 rfl) ?_
        refine lv_aload_n hx hb dX2_enterTool_26 rfl (lv_at hl 0 rfl) ?_
        refine x_get (j := 6) (v := .int (I x0 6)) hx hb hts hi2 hown hK hP hk0 rfl (by decide) (hts (.fieldLink RX2 44 "LeaseOffice$Office" "toolCount" "I") (by decide +kernel)) rfl (by decide) dX2_enterTool_27 ?_
        obtain ⟨q4, hq4, hf⟩ := zb_e hf
        refine x_callr (x_runV (As := [.int (I x0 6)]) (rest := []) ⟨hx, hb, hml, hown, hts⟩ (c_X2_toolAt l G hG I J x0 (I x0 6) hk0 hq4) (cwV 1 hts gX2_enterTool_X2_toolAt rfl rfl rfl (by decide +kernel) ⟨Nat.le_of_ble_eq_true rfl, Nat.le_of_ble_eq_true rfl⟩) hK hP hk0 (by decide) rfl rfl hl.1 rfl (Nat.le_of_ble_eq_true rfl) dX2_enterTool_30 ⟨Nat.zero_le _, Nat.zero_le _⟩) hS (fun H locs hP hS => ?_)
        refine lv_iload_n hx hb dX2_enterTool_33 rfl (lv_at hl 1 rfl) ?_
        refine lv_aload_n hx hb dX2_enterTool_34 rfl (lv_at hl 0 rfl) ?_
        refine x_get (j := 7) (v := .int (I x0 7)) hx hb hts hi2 hown hK hP hk0 rfl (by decide) (hts (.fieldLink RX2 47 "LeaseOffice$Office" "day" "I") (by decide +kernel)) rfl (by decide) dX2_enterTool_35 ?_
        obtain ⟨q5, hq5, hf⟩ := zb_e hf
        refine x_callv (x_runV (As := [.int x1, .int (I x0 7)]) (rest := []) ⟨hx, hb, hml, hown, hts⟩ (c_X7_comeIn l G hG I J q4 x1 (I x0 7) (kd_X2_toolAt hk0 hq4) hq5) (cwV 2 hts gX2_enterTool_X7_comeIn rfl rfl rfl (by decide +kernel) ⟨Nat.le_of_ble_eq_true rfl, Nat.le_of_ble_eq_true rfl⟩) hK hP (kd_X2_toolAt hk0 hq4) (by decide) rfl rfl hl.1 rfl (Nat.le_of_ble_eq_true rfl) dX2_enterTool_38 ⟨Nat.zero_le _, Nat.zero_le _⟩) hS (fun H locs hP hS => ?_)
        refine lv_aload_n hx hb dX2_enterTool_41 rfl (lv_at hl 0 rfl) ?_
        refine lv_dup hx hb dX2_enterTool_42 rfl ?_
        refine x_get (j := 6) (v := .int (q5 x0 6)) hx hb hts hi2 hown hK hP hk0 rfl (by decide) (hts (.fieldLink RX2 44 "LeaseOffice$Office" "toolCount" "I") (by decide +kernel)) rfl (by decide) dX2_enterTool_43 ?_
        refine lv_iconst (v := 1) hx hb dX2_enterTool_46 (by decide) ?_
        refine lv_iadd hx hb dX2_enterTool_47 ?_
        obtain ⟨M6, eM6, hf⟩ := zlet_e hf
        refine x_put (j := 6) (I2 := M6) (J2 := J) (ty0 := tyX2) (ty := .int) hx hb hts hi2 hown hG hK hP hS hk0 rfl tyX2_ok nmX2 (by decide) (hts (.fieldLink RX2 44 "LeaseOffice$Office" "toolCount" "I") (by decide +kernel)) rfl (by decide +kernel) rfl rfl (Nat.le_of_ble_eq_true rfl) (by rw [eM6]; exact zs_2_6 _) (by rw [eM6]; exact zo_C) (by decide) dX2_enterTool_48 (fun H locs hP hS => ?_)
        refine lv_aload_n hx hb dX2_enterTool_51 rfl (lv_at hl 0 rfl) ?_
        refine x_get (j := 6) (v := .int (M6 x0 6)) hx hb hts hi2 hown hK hP hk0 rfl (by decide) (hts (.fieldLink RX2 44 "LeaseOffice$Office" "toolCount" "I") (by decide +kernel)) rfl (by decide) dX2_enterTool_52 ?_
        refine lv_iconst (v := 1) hx hb dX2_enterTool_55 (by decide) ?_
        refine lv_isub hx hb dX2_enterTool_56 ?_
        obtain rfl := Option.some.inj hf
        exact x_iret hx hb hr hlocks hK hP hS dX2_enterTool_57
      · have hf := zif_f c3 hf
        refine lv_bipush (v := (-3)) hx hb dX2_enterTool_22 (by decide) ?_
        obtain rfl := Option.some.inj hf
        exact x_iret hx hb hr hlocks hK hP hS dX2_enterTool_24
    · have hf := zif_f c2 hf
      refine lv_iconst (v := (-1)) hx hb dX2_enterTool_11 (by decide) ?_
      obtain rfl := Option.some.inj hf
      exact x_iret hx hb hr hlocks hK hP hS dX2_enterTool_12
set_option maxRecDepth 100000 in
set_option maxHeartbeats 4000000 in
theorem c_X2_haveTwoHolders (l : Launch) (G : zGT) (hG : zOK G) (I J : zM) (x0 : Nat) (x1 : Int32) (x2 : Int32) (hk0 : zK x0 = 2) {r : Int32} (hf : f_X2_haveTwoHolders I x0 x1 x2 = some r) : Met l yX2_haveTwoHolders wsX2_haveTwoHolders (zrm 1 21) (va_Pc [.ref (G.2.1 (x0)), .int x1, .int x2] (zS G I J)) (zQi G r I J) 0 0 (zA G) := by
  refine zMet (cc := cX2_haveTwoHolders) (n := 3) (ret := (some .boolean)) (by decide) rfl (Nat.le_of_ble_eq_true rfl) ?_
  intro p e s m args below meth c H locs ls F hK hP hS hl
  obtain ⟨hx, hb, hr, hml, hts, hown, hlocks⟩ := F
  have hown : s.vm.findClass RX2 = some m.cls := hown
  have hl : lv_has ls 3 [(0, .ref (G.2.1 (x0))), (1, .int x1), (2, .int x2)] := hl
  have hi7 : ∀ w ∈ wsX70, w ∈ wsX2_haveTwoHolders := fun _ h => List.mem_cons_of_mem _ (List.mem_append_left _ (List.mem_append_right _ h))
  unfold f_X2_haveTwoHolders at hf
  refine lv_aload_n hx hb dX2_haveTwoHolders_0 rfl (lv_at hl 0 rfl) ?_
  refine lv_iload_n hx hb dX2_haveTwoHolders_1 rfl (lv_at hl 1 rfl) ?_
  obtain ⟨q1, hq1, hf⟩ := zb_e hf
  refine x_calli (x_runV (As := [.int x1]) (rest := []) ⟨hx, hb, hml, hown, hts⟩ (c_X2_isTool l G hG I J x0 x1 hk0 hq1) (cwV 1 hts gX2_haveTwoHolders_X2_isTool rfl rfl rfl (by decide +kernel) ⟨Nat.le_of_ble_eq_true rfl, Nat.le_of_ble_eq_true rfl⟩) hK hP hk0 (by decide) rfl rfl hl.1 rfl (Nat.le_of_ble_eq_true rfl) dX2_haveTwoHolders_2 ⟨Nat.zero_le _, Nat.zero_le _⟩) hS (fun H locs hP hS => ?_)
  refine lv_if_eq (tgt := 61) hx hb dX2_haveTwoHolders_5 (by decide) (fun c2 => ?_) (fun c2 => ?_)
  · have hf := zif_t c2 hf
    refine lv_iconst (v := 0) hx hb dX2_haveTwoHolders_61 (by decide) ?_
    obtain rfl := Option.some.inj hf
    exact x_zret (v := 0) rfl hx hb hr hlocks hK hP hS dX2_haveTwoHolders_62
  · have hf := zif_f c2 hf
    refine lv_aload_n hx hb dX2_haveTwoHolders_8 rfl (lv_at hl 0 rfl) ?_
    refine lv_iload_n hx hb dX2_haveTwoHolders_9 rfl (lv_at hl 2 rfl) ?_
    obtain ⟨q3, hq3, hf⟩ := zb_e hf
    refine x_calli (x_runV (As := [.int x2]) (rest := []) ⟨hx, hb, hml, hown, hts⟩ (c_X2_isTool l G hG I J x0 x2 hk0 hq3) (cwV 1 hts gX2_haveTwoHolders_X2_isTool rfl rfl rfl (by decide +kernel) ⟨Nat.le_of_ble_eq_true rfl, Nat.le_of_ble_eq_true rfl⟩) hK hP hk0 (by decide) rfl rfl hl.1 rfl (Nat.le_of_ble_eq_true rfl) dX2_haveTwoHolders_10 ⟨Nat.zero_le _, Nat.zero_le _⟩) hS (fun H locs hP hS => ?_)
    refine lv_if_eq (tgt := 61) hx hb dX2_haveTwoHolders_13 (by decide) (fun c4 => ?_) (fun c4 => ?_)
    · have hf := zif_t c4 hf
      refine lv_iconst (v := 0) hx hb dX2_haveTwoHolders_61 (by decide) ?_
      obtain rfl := Option.some.inj hf
      exact x_zret (v := 0) rfl hx hb hr hlocks hK hP hS dX2_haveTwoHolders_62
    · have hf := zif_f c4 hf
      refine lv_aload_n hx hb dX2_haveTwoHolders_16 rfl (lv_at hl 0 rfl) ?_
      refine lv_iload_n hx hb dX2_haveTwoHolders_17 rfl (lv_at hl 1 rfl) ?_
      obtain ⟨q5, hq5, hf⟩ := zb_e hf
      refine x_callr (x_runV (As := [.int x1]) (rest := []) ⟨hx, hb, hml, hown, hts⟩ (c_X2_toolAt l G hG I J x0 x1 hk0 hq5) (cwV 1 hts gX2_haveTwoHolders_X2_toolAt rfl rfl rfl (by decide +kernel) ⟨Nat.le_of_ble_eq_true rfl, Nat.le_of_ble_eq_true rfl⟩) hK hP hk0 (by decide) rfl rfl hl.1 rfl (Nat.le_of_ble_eq_true rfl) dX2_haveTwoHolders_18 ⟨Nat.zero_le _, Nat.zero_le _⟩) hS (fun H locs hP hS => ?_)
      obtain ⟨q6, hq6, hf⟩ := zb_e hf
      refine x_calli (x_runV (As := []) (rest := []) ⟨hx, hb, hml, hown, hts⟩ (c_X7_isLeased l G hG I J q5 (kd_X2_toolAt hk0 hq5) hq6) (cwV 0 hts gX2_haveTwoHolders_X7_isLeased rfl rfl rfl (by decide +kernel) ⟨Nat.le_of_ble_eq_true rfl, Nat.le_of_ble_eq_true rfl⟩) hK hP (kd_X2_toolAt hk0 hq5) (by decide) rfl rfl hl.1 rfl (Nat.le_of_ble_eq_true rfl) dX2_haveTwoHolders_21 ⟨Nat.zero_le _, Nat.zero_le _⟩) hS (fun H locs hP hS => ?_)
      refine lv_if_eq (tgt := 61) hx hb dX2_haveTwoHolders_24 (by decide) (fun c7 => ?_) (fun c7 => ?_)
      · have hf := zif_t c7 hf
        refine lv_iconst (v := 0) hx hb dX2_haveTwoHolders_61 (by decide) ?_
        obtain rfl := Option.some.inj hf
        exact x_zret (v := 0) rfl hx hb hr hlocks hK hP hS dX2_haveTwoHolders_62
      · have hf := zif_f c7 hf
        refine lv_aload_n hx hb dX2_haveTwoHolders_27 rfl (lv_at hl 0 rfl) ?_
        refine lv_iload_n hx hb dX2_haveTwoHolders_28 rfl (lv_at hl 2 rfl) ?_
        obtain ⟨q8, hq8, hf⟩ := zb_e hf
        refine x_callr (x_runV (As := [.int x2]) (rest := []) ⟨hx, hb, hml, hown, hts⟩ (c_X2_toolAt l G hG I J x0 x2 hk0 hq8) (cwV 1 hts gX2_haveTwoHolders_X2_toolAt rfl rfl rfl (by decide +kernel) ⟨Nat.le_of_ble_eq_true rfl, Nat.le_of_ble_eq_true rfl⟩) hK hP hk0 (by decide) rfl rfl hl.1 rfl (Nat.le_of_ble_eq_true rfl) dX2_haveTwoHolders_29 ⟨Nat.zero_le _, Nat.zero_le _⟩) hS (fun H locs hP hS => ?_)
        obtain ⟨q9, hq9, hf⟩ := zb_e hf
        refine x_calli (x_runV (As := []) (rest := []) ⟨hx, hb, hml, hown, hts⟩ (c_X7_isLeased l G hG I J q8 (kd_X2_toolAt hk0 hq8) hq9) (cwV 0 hts gX2_haveTwoHolders_X7_isLeased rfl rfl rfl (by decide +kernel) ⟨Nat.le_of_ble_eq_true rfl, Nat.le_of_ble_eq_true rfl⟩) hK hP (kd_X2_toolAt hk0 hq8) (by decide) rfl rfl hl.1 rfl (Nat.le_of_ble_eq_true rfl) dX2_haveTwoHolders_32 ⟨Nat.zero_le _, Nat.zero_le _⟩) hS (fun H locs hP hS => ?_)
        refine lv_if_eq (tgt := 61) hx hb dX2_haveTwoHolders_35 (by decide) (fun c10 => ?_) (fun c10 => ?_)
        · have hf := zif_t c10 hf
          refine lv_iconst (v := 0) hx hb dX2_haveTwoHolders_61 (by decide) ?_
          obtain rfl := Option.some.inj hf
          exact x_zret (v := 0) rfl hx hb hr hlocks hK hP hS dX2_haveTwoHolders_62
        · have hf := zif_f c10 hf
          refine lv_aload_n hx hb dX2_haveTwoHolders_38 rfl (lv_at hl 0 rfl) ?_
          refine lv_iload_n hx hb dX2_haveTwoHolders_39 rfl (lv_at hl 1 rfl) ?_
          obtain ⟨q11, hq11, hf⟩ := zb_e hf
          refine x_callr (x_runV (As := [.int x1]) (rest := []) ⟨hx, hb, hml, hown, hts⟩ (c_X2_toolAt l G hG I J x0 x1 hk0 hq11) (cwV 1 hts gX2_haveTwoHolders_X2_toolAt rfl rfl rfl (by decide +kernel) ⟨Nat.le_of_ble_eq_true rfl, Nat.le_of_ble_eq_true rfl⟩) hK hP hk0 (by decide) rfl rfl hl.1 rfl (Nat.le_of_ble_eq_true rfl) dX2_haveTwoHolders_40 ⟨Nat.zero_le _, Nat.zero_le _⟩) hS (fun H locs hP hS => ?_)
          refine x_get (j := 2) (v := .int (I q11 2)) hx hb hts hi7 hown hK hP (kd_X2_toolAt hk0 hq11) rfl (by decide) (hts (.fieldLink RX2 111 "LeaseOffice$Tool" "holder" "I") (by decide +kernel)) rfl (by decide) dX2_haveTwoHolders_43 ?_
          refine lv_aload_n hx hb dX2_haveTwoHolders_46 rfl (lv_at hl 0 rfl) ?_
          refine lv_iload_n hx hb dX2_haveTwoHolders_47 rfl (lv_at hl 2 rfl) ?_
          obtain ⟨q12, hq12, hf⟩ := zb_e hf
          refine x_callr (x_runV (As := [.int x2]) (rest := [.int (I q11 2)]) ⟨hx, hb, hml, hown, hts⟩ (c_X2_toolAt l G hG I J x0 x2 hk0 hq12) (cwV 1 hts gX2_haveTwoHolders_X2_toolAt rfl rfl rfl (by decide +kernel) ⟨Nat.le_of_ble_eq_true rfl, Nat.le_of_ble_eq_true rfl⟩) hK hP hk0 (by decide) rfl rfl hl.1 rfl (Nat.le_of_ble_eq_true rfl) dX2_haveTwoHolders_48 ⟨Nat.zero_le _, Nat.zero_le _⟩) hS (fun H locs hP hS => ?_)
          refine x_get (j := 2) (v := .int (I q12 2)) hx hb hts hi7 hown hK hP (kd_X2_toolAt hk0 hq12) rfl (by decide) (hts (.fieldLink RX2 111 "LeaseOffice$Tool" "holder" "I") (by decide +kernel)) rfl (by decide) dX2_haveTwoHolders_51 ?_
          refine lv_icmp_eq (tgt := 61) hx hb dX2_haveTwoHolders_54 (by decide) (fun c13 => ?_) (fun c13 => ?_)
          · have hf := zif_t c13 hf
            refine lv_iconst (v := 0) hx hb dX2_haveTwoHolders_61 (by decide) ?_
            obtain rfl := Option.some.inj hf
            exact x_zret (v := 0) rfl hx hb hr hlocks hK hP hS dX2_haveTwoHolders_62
          · have hf := zif_f c13 hf
            refine lv_iconst (v := 1) hx hb dX2_haveTwoHolders_57 (by decide) ?_
            refine lv_goto (tgt := 62) hx hb dX2_haveTwoHolders_58 (by decide) ?_
            obtain rfl := Option.some.inj hf
            exact x_zret (v := 1) rfl hx hb hr hlocks hK hP hS dX2_haveTwoHolders_62
set_option maxRecDepth 100000 in
set_option maxHeartbeats 4000000 in
theorem c_X2_riseOf (l : Launch) (G : zGT) (hG : zOK G) (I J : zM) (x0 : Nat) (x1 : Int32) (x2 : Int32) (hk0 : zK x0 = 2) {r : Int32} (hf : f_X2_riseOf I x0 x1 x2 = some r) : Met l yX2_riseOf wsX2_riseOf (zrm 1 21) (va_Pc [.ref (G.2.1 (x0)), .int x1, .int x2] (zS G I J)) (zQi G r I J) 0 0 (zA G) := by
  refine zMet (cc := cX2_riseOf) (n := 4) (ret := (some .int)) (by decide) rfl (Nat.le_of_ble_eq_true rfl) ?_
  intro p e s m args below meth c H locs ls F hK hP hS hl
  obtain ⟨hx, hb, hr, hml, hts, hown, hlocks⟩ := F
  have hown : s.vm.findClass RX2 = some m.cls := hown
  have hl : lv_has ls 4 [(0, .ref (G.2.1 (x0))), (1, .int x1), (2, .int x2)] := hl
  have hi7 : ∀ w ∈ wsX70, w ∈ wsX2_riseOf := fun _ h => List.mem_cons_of_mem _ (List.mem_append_left _ (List.mem_append_left _ (List.mem_append_right _ h)))
  unfold f_X2_riseOf at hf
  refine lv_aload_n hx hb dX2_riseOf_0 rfl (lv_at hl 0 rfl) ?_
  refine lv_aload_n hx hb dX2_riseOf_1 rfl (lv_at hl 0 rfl) ?_
  refine lv_iload_n hx hb dX2_riseOf_2 rfl (lv_at hl 1 rfl) ?_
  obtain ⟨q1, hq1, hf⟩ := zb_e hf
  refine x_callr (x_runV (As := [.int x1]) (rest := [.ref (G.2.1 (x0))]) ⟨hx, hb, hml, hown, hts⟩ (c_X2_toolAt l G hG I J x0 x1 hk0 hq1) (cwV 1 hts gX2_riseOf_X2_toolAt rfl rfl rfl (by decide +kernel) ⟨Nat.le_of_ble_eq_true rfl, Nat.le_of_ble_eq_true rfl⟩) hK hP hk0 (by decide) rfl rfl hl.1 rfl (Nat.le_of_ble_eq_true rfl) dX2_riseOf_3 ⟨Nat.zero_le _, Nat.zero_le _⟩) hS (fun H locs hP hS => ?_)
  refine x_get (j := 2) (v := .int (I q1 2)) hx hb hts hi7 hown hK hP (kd_X2_toolAt hk0 hq1) rfl (by decide) (hts (.fieldLink RX2 111 "LeaseOffice$Tool" "holder" "I") (by decide +kernel)) rfl (by decide) dX2_riseOf_6 ?_
  obtain ⟨q2, hq2, hf⟩ := zb_e hf
  refine x_callr (x_runV (As := [.int (I q1 2)]) (rest := []) ⟨hx, hb, hml, hown, hts⟩ (c_X2_personAt l G hG I J x0 (I q1 2) hk0 hq2) (cwV 1 hts gX2_riseOf_X2_personAt rfl rfl rfl (by decide +kernel) ⟨Nat.le_of_ble_eq_true rfl, Nat.le_of_ble_eq_true rfl⟩) hK hP hk0 (by decide) rfl rfl hl.1 rfl (Nat.le_of_ble_eq_true rfl) dX2_riseOf_9 ⟨Nat.zero_le _, Nat.zero_le _⟩) hS (fun H locs hP hS => ?_)
  refine lv_astore_n (lv' := [(3, .ref (G.2.1 (q2))), (0, .ref (G.2.1 (x0))), (1, .int x1), (2, .int x2)]) hx hb dX2_riseOf_12 rfl hl (by decide) rfl (fun ls hl => ?_)
  refine lv_aload_n hx hb dX2_riseOf_13 rfl (lv_at hl 0 rfl) ?_
  refine lv_iload_n hx hb dX2_riseOf_14 rfl (lv_at hl 3 rfl) ?_
  obtain ⟨q3, hq3, hf⟩ := zb_e hf
  refine x_calli (x_runV (As := [.int x2]) (rest := []) ⟨hx, hb, hml, hown, hts⟩ (c_X3_wishOf l G hG I J q2 x2 (kd_X2_personAt hk0 hq2) hq3) (cwV 1 hts gX2_riseOf_X3_wishOf rfl rfl rfl (by decide +kernel) ⟨Nat.le_of_ble_eq_true rfl, Nat.le_of_ble_eq_true rfl⟩) hK hP (kd_X2_personAt hk0 hq2) (by decide) rfl rfl hl.1 rfl (Nat.le_of_ble_eq_true rfl) dX2_riseOf_15 ⟨Nat.zero_le _, Nat.zero_le _⟩) hS (fun H locs hP hS => ?_)
  refine lv_aload_n hx hb dX2_riseOf_18 rfl (lv_at hl 0 rfl) ?_
  refine lv_iload_n hx hb dX2_riseOf_19 rfl (lv_at hl 2 rfl) ?_
  obtain ⟨q4, hq4, hf⟩ := zb_e hf
  refine x_calli (x_runV (As := [.int x1]) (rest := [.int q3]) ⟨hx, hb, hml, hown, hts⟩ (c_X3_wishOf l G hG I J q2 x1 (kd_X2_personAt hk0 hq2) hq4) (cwV 1 hts gX2_riseOf_X3_wishOf rfl rfl rfl (by decide +kernel) ⟨Nat.le_of_ble_eq_true rfl, Nat.le_of_ble_eq_true rfl⟩) hK hP (kd_X2_personAt hk0 hq2) (by decide) rfl rfl hl.1 rfl (Nat.le_of_ble_eq_true rfl) dX2_riseOf_20 ⟨Nat.zero_le _, Nat.zero_le _⟩) hS (fun H locs hP hS => ?_)
  refine lv_isub hx hb dX2_riseOf_23 ?_
  obtain rfl := Option.some.inj hf
  exact x_iret hx hb hr hlocks hK hP hS dX2_riseOf_24
set_option maxRecDepth 100000 in
set_option maxHeartbeats 4000000 in
theorem c_X2_gainOf (l : Launch) (G : zGT) (hG : zOK G) (I J : zM) (x0 : Nat) (x1 : Int32) (x2 : Int32) (hk0 : zK x0 = 2) {r : Int32} (hf : f_X2_gainOf I x0 x1 x2 = some r) : Met l yX2_gainOf wsX2_gainOf (zrm 2 44) (va_Pc [.ref (G.2.1 (x0)), .int x1, .int x2] (zS G I J)) (zQi G r I J) 0 0 (zA G) := by
  refine zMet (cc := cX2_gainOf) (n := 5) (ret := (some .int)) (by decide) rfl (Nat.le_of_ble_eq_true rfl) ?_
  intro p e s m args below meth c H locs ls F hK hP hS hl
  obtain ⟨hx, hb, hr, hml, hts, hown, hlocks⟩ := F
  have hown : s.vm.findClass RX2 = some m.cls := hown
  have hl : lv_has ls 5 [(0, .ref (G.2.1 (x0))), (1, .int x1), (2, .int x2)] := hl
  unfold f_X2_gainOf at hf
  refine lv_aload_n hx hb dX2_gainOf_0 rfl (lv_at hl 0 rfl) ?_
  refine lv_iload_n hx hb dX2_gainOf_1 rfl (lv_at hl 1 rfl) ?_
  refine lv_iload_n hx hb dX2_gainOf_2 rfl (lv_at hl 2 rfl) ?_
  obtain ⟨q1, hq1, hf⟩ := zb_e hf
  refine x_calli (x_runV (As := [.int x1, .int x2]) (rest := []) ⟨hx, hb, hml, hown, hts⟩ (c_X2_riseOf l G hG I J x0 x1 x2 hk0 hq1) (cwV 2 hts gX2_gainOf_X2_riseOf rfl rfl rfl (by decide +kernel) ⟨Nat.le_of_ble_eq_true rfl, Nat.le_of_ble_eq_true rfl⟩) hK hP hk0 (by decide) rfl rfl hl.1 rfl (Nat.le_of_ble_eq_true rfl) dX2_gainOf_3 ⟨Nat.zero_le _, Nat.zero_le _⟩) hS (fun H locs hP hS => ?_)
  refine lv_istore_n (lv' := [(3, .int q1), (0, .ref (G.2.1 (x0))), (1, .int x1), (2, .int x2)]) hx hb dX2_gainOf_6 rfl hl (by decide) rfl (fun ls hl => ?_)
  refine lv_aload_n hx hb dX2_gainOf_7 rfl (lv_at hl 1 rfl) ?_
  refine lv_iload_n hx hb dX2_gainOf_8 rfl (lv_at hl 3 rfl) ?_
  refine lv_iload_n hx hb dX2_gainOf_9 rfl (lv_at hl 2 rfl) ?_
  obtain ⟨q2, hq2, hf⟩ := zb_e hf
  refine x_calli (x_runV (As := [.int x2, .int x1]) (rest := []) ⟨hx, hb, hml, hown, hts⟩ (c_X2_riseOf l G hG I J x0 x2 x1 hk0 hq2) (cwV 2 hts gX2_gainOf_X2_riseOf rfl rfl rfl (by decide +kernel) ⟨Nat.le_of_ble_eq_true rfl, Nat.le_of_ble_eq_true rfl⟩) hK hP hk0 (by decide) rfl rfl hl.1 rfl (Nat.le_of_ble_eq_true rfl) dX2_gainOf_10 ⟨Nat.zero_le _, Nat.zero_le _⟩) hS (fun H locs hP hS => ?_)
  refine lv_istore (lv' := [(4, .int q2), (3, .int q1), (0, .ref (G.2.1 (x0))), (1, .int x1), (2, .int x2)]) hx hb dX2_gainOf_13 hl (by decide) rfl (fun ls hl => ?_)
  refine lv_iload_n hx hb dX2_gainOf_15 rfl (lv_at hl 1 rfl) ?_
  refine lv_if_le (tgt := 31) hx hb dX2_gainOf_16 (by decide) (fun c3 => ?_) (fun c3 => ?_)
  · have hf := zif_t c3 hf
    refine lv_iconst (v := 0) hx hb dX2_gainOf_31 (by decide) ?_
    obtain rfl := Option.some.inj hf
    exact x_iret hx hb hr hlocks hK hP hS dX2_gainOf_32
  · have hf := zif_f c3 hf
    refine lv_iload hx hb dX2_gainOf_19 (lv_at hl 0 rfl) ?_
    refine lv_if_le (tgt := 31) hx hb dX2_gainOf_21 (by decide) (fun c4 => ?_) (fun c4 => ?_)
    · have hf := zif_t c4 hf
      refine lv_iconst (v := 0) hx hb dX2_gainOf_31 (by decide) ?_
      obtain rfl := Option.some.inj hf
      exact x_iret hx hb hr hlocks hK hP hS dX2_gainOf_32
    · have hf := zif_f c4 hf
      refine lv_iload_n hx hb dX2_gainOf_24 rfl (lv_at hl 1 rfl) ?_
      refine lv_iload hx hb dX2_gainOf_25 (lv_at hl 0 rfl) ?_
      refine lv_iadd hx hb dX2_gainOf_27 ?_
      refine lv_goto (tgt := 32) hx hb dX2_gainOf_28 (by decide) ?_
      obtain rfl := Option.some.inj hf
      exact x_iret hx hb hr hlocks hK hP hS dX2_gainOf_32
set_option maxRecDepth 100000 in
set_option maxHeartbeats 4000000 in
theorem c_X2_refuse (l : Launch) (G : zGT) (hG : zOK G) (I J : zM) (x0 : Nat) (x1 : Int32) (x2 : Int32) (hk0 : zK x0 = 2) {r : Int32 × zM} (hf : f_X2_refuse I x0 x1 x2 = some r) : Met l yX2_refuse wsX2_refuse (zrm 0 0) (va_Pc [.ref (G.2.1 (x0)), .int x1, .int x2] (zS G I J)) (zQi G r.1 r.2 J) 0 0 (zA G) := by
  refine zMet (cc := cX2_refuse) (n := 3) (ret := (some .int)) (by decide) rfl (Nat.le_of_ble_eq_true rfl) ?_
  intro p e s m args below meth c H locs ls F hK hP hS hl
  obtain ⟨hx, hb, hr, hml, hts, hown, hlocks⟩ := F
  have hown : s.vm.findClass RX2 = some m.cls := hown
  have hl : lv_has ls 3 [(0, .ref (G.2.1 (x0))), (1, .int x1), (2, .int x2)] := hl
  have hi2 : ∀ w ∈ wsX20, w ∈ wsX2_refuse := fun _ h => List.mem_cons_of_mem _ (List.mem_append_right _ h)
  unfold f_X2_refuse at hf
  refine lv_aload_n hx hb dX2_refuse_0 rfl (lv_at hl 0 rfl) ?_
  refine lv_iload_n hx hb dX2_refuse_1 rfl (lv_at hl 1 rfl) ?_
  obtain ⟨M1, eM1, hf⟩ := zlet_e hf
  refine x_put (j := 9) (I2 := M1) (J2 := J) (ty0 := tyX2) (ty := .int) hx hb hts hi2 hown hG hK hP hS hk0 rfl tyX2_ok nmX2 (by decide) (hts (.fieldLink RX2 53 "LeaseOffice$Office" "why" "I") (by decide +kernel)) rfl (by decide +kernel) rfl rfl (Nat.le_of_ble_eq_true rfl) (by rw [eM1]; exact zs_2_9 _) (by rw [eM1]; exact zo_C) (by decide) dX2_refuse_2 (fun H locs hP hS => ?_)
  refine lv_aload_n hx hb dX2_refuse_5 rfl (lv_at hl 0 rfl) ?_
  refine lv_iload_n hx hb dX2_refuse_6 rfl (lv_at hl 2 rfl) ?_
  obtain ⟨M2, eM2, hf⟩ := zlet_e hf
  refine x_put (j := 10) (I2 := M2) (J2 := J) (ty0 := tyX2) (ty := .int) hx hb hts hi2 hown hG hK hP hS hk0 rfl tyX2_ok nmX2 (by decide) (hts (.fieldLink RX2 56 "LeaseOffice$Office" "whyBehind" "I") (by decide +kernel)) rfl (by decide +kernel) rfl rfl (Nat.le_of_ble_eq_true rfl) (by rw [eM2]; exact zs_2_10 _) (by rw [eM2]; exact zo_C) (by decide) dX2_refuse_7 (fun H locs hP hS => ?_)
  refine lv_bipush (v := (-5)) hx hb dX2_refuse_10 (by decide) ?_
  obtain rfl := Option.some.inj hf
  exact x_iret hx hb hr hlocks hK hP hS dX2_refuse_12
set_option maxRecDepth 100000 in
set_option maxHeartbeats 4000000 in
theorem c_X2_whyNotPassed (l : Launch) (G : zGT) (hG : zOK G) (I J : zM) (x0 : Nat) (x1 : Nat) (x2 : Int32) (hk0 : zK x0 = 2) (hk1 : zK x1 = 7) {r : Int32} (hf : f_X2_whyNotPassed I x0 x1 x2 = some r) : Met l yX2_whyNotPassed wsX2_whyNotPassed (zrm 0 0) (va_Pc [.ref (G.2.1 (x0)), .ref (G.2.1 (x1)), .int x2] (zS G I J)) (zQi G r I J) 0 0 (zA G) := by
  refine zMet (cc := cX2_whyNotPassed) (n := 3) (ret := (some .int)) (by decide) rfl (Nat.le_of_ble_eq_true rfl) ?_
  intro p e s m args below meth c H locs ls F hK hP hS hl
  obtain ⟨hx, hb, hr, hml, hts, hown, hlocks⟩ := F
  have hown : s.vm.findClass RX2 = some m.cls := hown
  have hl : lv_has ls 3 [(0, .ref (G.2.1 (x0))), (1, .ref (G.2.1 (x1))), (2, .int x2)] := hl
  have hi2 : ∀ w ∈ wsX20, w ∈ wsX2_whyNotPassed := fun _ h => List.mem_cons_of_mem _ (List.mem_append_left _ (List.mem_append_right _ h))
  have hi7 : ∀ w ∈ wsX70, w ∈ wsX2_whyNotPassed := fun _ h => List.mem_cons_of_mem _ (List.mem_append_right _ h)
  unfold f_X2_whyNotPassed at hf
  refine lv_aload_n hx hb dX2_whyNotPassed_0 rfl (lv_at hl 0 rfl) ?_
  refine x_get (j := 7) (v := .int (I x0 7)) hx hb hts hi2 hown hK hP hk0 rfl (by decide) (hts (.fieldLink RX2 47 "LeaseOffice$Office" "day" "I") (by decide +kernel)) rfl (by decide) dX2_whyNotPassed_1 ?_
  refine lv_aload_n hx hb dX2_whyNotPassed_4 rfl (lv_at hl 1 rfl) ?_
  refine x_get (j := 4) (v := .int (I x1 4)) hx hb hts hi7 hown hK hP hk1 rfl (by decide) (hts (.fieldLink RX2 141 "LeaseOffice$Tool" "due" "I") (by decide +kernel)) rfl (by decide) dX2_whyNotPassed_5 ?_
  refine lv_icmp_le (tgt := 13) hx hb dX2_whyNotPassed_8 (by decide) (fun c1 => ?_) (fun c1 => ?_)
  · have hf := zif_t c1 hf
    refine lv_iload_n hx hb dX2_whyNotPassed_13 rfl (lv_at hl 2 rfl) ?_
    refine lv_aload_n hx hb dX2_whyNotPassed_14 rfl (lv_at hl 1 rfl) ?_
    refine x_get (j := 5) (v := .int (I x1 5)) hx hb hts hi7 hown hK hP hk1 rfl (by decide) (hts (.fieldLink RX2 144 "LeaseOffice$Tool" "deposit" "I") (by decide +kernel)) rfl (by decide) dX2_whyNotPassed_15 ?_
    refine lv_icmp_ge (tgt := 25) hx hb dX2_whyNotPassed_18 (by decide) (fun c2 => ?_) (fun c2 => ?_)
    · have hf := zif_t c2 hf
      refine lv_iconst (v := 0) hx hb dX2_whyNotPassed_25 (by decide) ?_
      obtain rfl := Option.some.inj hf
      exact x_iret hx hb hr hlocks hK hP hS dX2_whyNotPassed_26
    · have hf := zif_f c2 hf
      refine lv_iconst (v := 2) hx hb dX2_whyNotPassed_21 (by decide) ?_
      refine lv_goto (tgt := 26) hx hb dX2_whyNotPassed_22 (by decide) ?_
      obtain rfl := Option.some.inj hf
      exact x_iret hx hb hr hlocks hK hP hS dX2_whyNotPassed_26
  · have hf := zif_f c1 hf
    refine lv_iconst (v := 3) hx hb dX2_whyNotPassed_11 (by decide) ?_
    obtain rfl := Option.some.inj hf
    exact x_iret hx hb hr hlocks hK hP hS dX2_whyNotPassed_12
set_option maxRecDepth 100000 in
set_option maxHeartbeats 4000000 in
theorem c_X2_whyNotBothPassed (l : Launch) (G : zGT) (hG : zOK G) (I J : zM) (x0 : Nat) (x1 : Int32) (x2 : Int32) (hk0 : zK x0 = 2) {r : Int32} (hf : f_X2_whyNotBothPassed I x0 x1 x2 = some r) : Met l yX2_whyNotBothPassed wsX2_whyNotBothPassed (zrm 1 22) (va_Pc [.ref (G.2.1 (x0)), .int x1, .int x2] (zS G I J)) (zQi G r I J) 0 0 (zA G) := by
  refine zMet (cc := cX2_whyNotBothPassed) (n := 6) (ret := (some .int)) (by decide) rfl (Nat.le_of_ble_eq_true rfl) ?_
  intro p e s m args below meth c H locs ls F hK hP hS hl
  obtain ⟨hx, hb, hr, hml, hts, hown, hlocks⟩ := F
  have hown : s.vm.findClass RX2 = some m.cls := hown
  have hl : lv_has ls 6 [(0, .ref (G.2.1 (x0))), (1, .int x1), (2, .int x2)] := hl
  have hi3 : ∀ w ∈ wsX30, w ∈ wsX2_whyNotBothPassed := fun _ h => List.mem_cons_of_mem _ (List.mem_append_left _ (List.mem_append_right _ h))
  have hi7 : ∀ w ∈ wsX70, w ∈ wsX2_whyNotBothPassed := fun _ h => List.mem_cons_of_mem _ (List.mem_append_left _ (List.mem_append_left _ (List.mem_append_right _ h)))
  unfold f_X2_whyNotBothPassed at hf
  refine lv_aload_n hx hb dX2_whyNotBothPassed_0 rfl (lv_at hl 0 rfl) ?_
  refine lv_iload_n hx hb dX2_whyNotBothPassed_1 rfl (lv_at hl 1 rfl) ?_
  obtain ⟨q1, hq1, hf⟩ := zb_e hf
  refine x_callr (x_runV (As := [.int x1]) (rest := []) ⟨hx, hb, hml, hown, hts⟩ (c_X2_toolAt l G hG I J x0 x1 hk0 hq1) (cwV 1 hts gX2_whyNotBothPassed_X2_toolAt rfl rfl rfl (by decide +kernel) ⟨Nat.le_of_ble_eq_true rfl, Nat.le_of_ble_eq_true rfl⟩) hK hP hk0 (by decide) rfl rfl hl.1 rfl (Nat.le_of_ble_eq_true rfl) dX2_whyNotBothPassed_2 ⟨Nat.zero_le _, Nat.zero_le _⟩) hS (fun H locs hP hS => ?_)
  refine lv_astore_n (lv' := [(3, .ref (G.2.1 (q1))), (0, .ref (G.2.1 (x0))), (1, .int x1), (2, .int x2)]) hx hb dX2_whyNotBothPassed_5 rfl hl (by decide) rfl (fun ls hl => ?_)
  refine lv_aload_n hx hb dX2_whyNotBothPassed_6 rfl (lv_at hl 1 rfl) ?_
  refine lv_iload_n hx hb dX2_whyNotBothPassed_7 rfl (lv_at hl 3 rfl) ?_
  obtain ⟨q2, hq2, hf⟩ := zb_e hf
  refine x_callr (x_runV (As := [.int x2]) (rest := []) ⟨hx, hb, hml, hown, hts⟩ (c_X2_toolAt l G hG I J x0 x2 hk0 hq2) (cwV 1 hts gX2_whyNotBothPassed_X2_toolAt rfl rfl rfl (by decide +kernel) ⟨Nat.le_of_ble_eq_true rfl, Nat.le_of_ble_eq_true rfl⟩) hK hP hk0 (by decide) rfl rfl hl.1 rfl (Nat.le_of_ble_eq_true rfl) dX2_whyNotBothPassed_8 ⟨Nat.zero_le _, Nat.zero_le _⟩) hS (fun H locs hP hS => ?_)
  refine lv_astore (lv' := [(4, .ref (G.2.1 (q2))), (3, .ref (G.2.1 (q1))), (0, .ref (G.2.1 (x0))), (1, .int x1), (2, .int x2)]) hx hb dX2_whyNotBothPassed_11 hl (by decide) rfl (fun ls hl => ?_)
  refine lv_aload_n hx hb dX2_whyNotBothPassed_13 rfl (lv_at hl 2 rfl) ?_
  refine lv_aload_n hx hb dX2_whyNotBothPassed_14 rfl (lv_at hl 1 rfl) ?_
  refine lv_aload_n hx hb dX2_whyNotBothPassed_15 rfl (lv_at hl 2 rfl) ?_
  refine lv_aload hx hb dX2_whyNotBothPassed_16 (lv_at hl 0 rfl) ?_
  refine x_get (j := 2) (v := .int (I q2 2)) hx hb hts hi7 hown hK hP (kd_X2_toolAt hk0 hq2) rfl (by decide) (hts (.fieldLink RX2 111 "LeaseOffice$Tool" "holder" "I") (by decide +kernel)) rfl (by decide) dX2_whyNotBothPassed_18 ?_
  obtain ⟨q3, hq3, hf⟩ := zb_e hf
  refine x_callr (x_runV (As := [.int (I q2 2)]) (rest := [.ref (G.2.1 (q1)), .ref (G.2.1 (x0))]) ⟨hx, hb, hml, hown, hts⟩ (c_X2_personAt l G hG I J x0 (I q2 2) hk0 hq3) (cwV 1 hts gX2_whyNotBothPassed_X2_personAt rfl rfl rfl (by decide +kernel) ⟨Nat.le_of_ble_eq_true rfl, Nat.le_of_ble_eq_true rfl⟩) hK hP hk0 (by decide) rfl rfl hl.1 rfl (Nat.le_of_ble_eq_true rfl) dX2_whyNotBothPassed_21 ⟨Nat.zero_le _, Nat.zero_le _⟩) hS (fun H locs hP hS => ?_)
  refine x_get (j := 1) (v := .int (I q3 1)) hx hb hts hi3 hown hK hP (kd_X2_personAt hk0 hq3) rfl (by decide) (hts (.fieldLink RX2 108 "LeaseOffice$Person" "purse" "I") (by decide +kernel)) rfl (by decide) dX2_whyNotBothPassed_24 ?_
  obtain ⟨q4, hq4, hf⟩ := zb_e hf
  refine x_calli (x_runV (As := [.ref (G.2.1 (q1)), .int (I q3 1)]) (rest := []) ⟨hx, hb, hml, hown, hts⟩ (c_X2_whyNotPassed l G hG I J x0 q1 (I q3 1) hk0 (kd_X2_toolAt hk0 hq1) hq4) (cwV 2 hts gX2_whyNotBothPassed_X2_whyNotPassed rfl rfl rfl (by decide +kernel) ⟨Nat.le_of_ble_eq_true rfl, Nat.le_of_ble_eq_true rfl⟩) hK hP hk0 (by decide) rfl rfl hl.1 rfl (Nat.le_of_ble_eq_true rfl) dX2_whyNotBothPassed_27 ⟨Nat.zero_le _, Nat.zero_le _⟩) hS (fun H locs hP hS => ?_)
  refine lv_istore (lv' := [(5, .int q4), (4, .ref (G.2.1 (q2))), (3, .ref (G.2.1 (q1))), (0, .ref (G.2.1 (x0))), (1, .int x1), (2, .int x2)]) hx hb dX2_whyNotBothPassed_30 hl (by decide) rfl (fun ls hl => ?_)
  refine lv_iload hx hb dX2_whyNotBothPassed_32 (lv_at hl 0 rfl) ?_
  refine lv_if_eq (tgt := 42) hx hb dX2_whyNotBothPassed_34 (by decide) (fun c5 => ?_) (fun c5 => ?_)
  · have hf := zif_t c5 hf
    refine lv_aload_n hx hb dX2_whyNotBothPassed_42 rfl (lv_at hl 3 rfl) ?_
    refine lv_aload hx hb dX2_whyNotBothPassed_43 (lv_at hl 1 rfl) ?_
    refine lv_aload_n hx hb dX2_whyNotBothPassed_45 rfl (lv_at hl 3 rfl) ?_
    refine lv_aload_n hx hb dX2_whyNotBothPassed_46 rfl (lv_at hl 2 rfl) ?_
    refine x_get (j := 2) (v := .int (I q1 2)) hx hb hts hi7 hown hK hP (kd_X2_toolAt hk0 hq1) rfl (by decide) (hts (.fieldLink RX2 111 "LeaseOffice$Tool" "holder" "I") (by decide +kernel)) rfl (by decide) dX2_whyNotBothPassed_47 ?_
    obtain ⟨q6, hq6, hf⟩ := zb_e hf
    refine x_callr (x_runV (As := [.int (I q1 2)]) (rest := [.ref (G.2.1 (q2)), .ref (G.2.1 (x0))]) ⟨hx, hb, hml, hown, hts⟩ (c_X2_personAt l G hG I J x0 (I q1 2) hk0 hq6) (cwV 1 hts gX2_whyNotBothPassed_X2_personAt rfl rfl rfl (by decide +kernel) ⟨Nat.le_of_ble_eq_true rfl, Nat.le_of_ble_eq_true rfl⟩) hK hP hk0 (by decide) rfl rfl hl.1 rfl (Nat.le_of_ble_eq_true rfl) dX2_whyNotBothPassed_50 ⟨Nat.zero_le _, Nat.zero_le _⟩) hS (fun H locs hP hS => ?_)
    refine x_get (j := 1) (v := .int (I q6 1)) hx hb hts hi3 hown hK hP (kd_X2_personAt hk0 hq6) rfl (by decide) (hts (.fieldLink RX2 108 "LeaseOffice$Person" "purse" "I") (by decide +kernel)) rfl (by decide) dX2_whyNotBothPassed_53 ?_
    refine lv_aload_n hx hb dX2_whyNotBothPassed_56 rfl (lv_at hl 2 rfl) ?_
    refine x_get (j := 5) (v := .int (I q1 5)) hx hb hts hi7 hown hK hP (kd_X2_toolAt hk0 hq1) rfl (by decide) (hts (.fieldLink RX2 144 "LeaseOffice$Tool" "deposit" "I") (by decide +kernel)) rfl (by decide) dX2_whyNotBothPassed_57 ?_
    refine lv_iadd hx hb dX2_whyNotBothPassed_60 ?_
    obtain ⟨q7, hq7, hf⟩ := zb_e hf
    refine x_calli (x_runV (As := [.ref (G.2.1 (q2)), .int ((I q6 1) + (I q1 5))]) (rest := []) ⟨hx, hb, hml, hown, hts⟩ (c_X2_whyNotPassed l G hG I J x0 q2 ((I q6 1) + (I q1 5)) hk0 (kd_X2_toolAt hk0 hq2) hq7) (cwV 2 hts gX2_whyNotBothPassed_X2_whyNotPassed rfl rfl rfl (by decide +kernel) ⟨Nat.le_of_ble_eq_true rfl, Nat.le_of_ble_eq_true rfl⟩) hK hP hk0 (by decide) rfl rfl hl.1 rfl (Nat.le_of_ble_eq_true rfl) dX2_whyNotBothPassed_61 ⟨Nat.zero_le _, Nat.zero_le _⟩) hS (fun H locs hP hS => ?_)
    obtain rfl := Option.some.inj hf
    exact x_iret hx hb hr hlocks hK hP hS dX2_whyNotBothPassed_64
  · have hf := zif_f c5 hf
    refine lv_iload hx hb dX2_whyNotBothPassed_37 (lv_at hl 0 rfl) ?_
    refine lv_goto (tgt := 64) hx hb dX2_whyNotBothPassed_39 (by decide) ?_
    obtain rfl := Option.some.inj hf
    exact x_iret hx hb hr hlocks hK hP hS dX2_whyNotBothPassed_64
set_option maxRecDepth 100000 in
set_option maxHeartbeats 4000000 in
theorem c_X7_endLink (l : Launch) (G : zGT) (hG : zOK G) (I J : zM) (x0 : Nat) (x1 : Int32) (hk0 : zK x0 = 7) {r : zM} (hf : f_X7_endLink I x0 x1 = some r) : Met l yX7_endLink wsX7_endLink (zrm 1 24) (va_Pc [.ref (G.2.1 (x0)), .int x1] (zS G I J)) (zQv G r J) 0 0 (zA G) := by
  refine zMet (cc := cX7_endLink) (n := 2) (ret := none) (by decide) rfl (Nat.le_of_ble_eq_true rfl) ?_
  intro p e s m args below meth c H locs ls F hK hP hS hl
  obtain ⟨hx, hb, hr, hml, hts, hown, hlocks⟩ := F
  have hown : s.vm.findClass RX7 = some m.cls := hown
  have hl : lv_has ls 2 [(0, .ref (G.2.1 (x0))), (1, .int x1)] := hl
  have hi7 : ∀ w ∈ wsX70, w ∈ wsX7_endLink := fun _ h => List.mem_cons_of_mem _ (List.mem_append_left _ (List.mem_append_right _ h))
  unfold f_X7_endLink at hf
  refine lv_aload_n hx hb dX7_endLink_0 rfl (lv_at hl 0 rfl) ?_
  refine x_get (j := 7) (v := .ref (G.2.1 (x0 + 1))) hx hb hts hi7 hown hK hP hk0 rfl (by decide) (hts (.fieldLink RX7 14 "LeaseOffice$Tool" "links" "LLeaseOffice$Table;") (by decide +kernel)) rfl (by decide) dX7_endLink_1 ?_
  refine lv_aload_n hx hb dX7_endLink_4 rfl (lv_at hl 0 rfl) ?_
  refine x_get (j := 7) (v := .ref (G.2.1 (x0 + 1))) hx hb hts hi7 hown hK hP hk0 rfl (by decide) (hts (.fieldLink RX7 14 "LeaseOffice$Tool" "links" "LLeaseOffice$Table;") (by decide +kernel)) rfl (by decide) dX7_endLink_5 ?_
  obtain ⟨q1, hq1, hf⟩ := zb_e hf
  refine x_calli (x_runV (As := []) (rest := [.ref (G.2.1 (x0 + 1))]) ⟨hx, hb, hml, hown, hts⟩ (c_X4_size l G hG I J (x0 + 1) (zk_7_7 hk0) hq1) (cwV 0 hts gX7_endLink_X4_size rfl rfl rfl (by decide +kernel) ⟨Nat.le_of_ble_eq_true rfl, Nat.le_of_ble_eq_true rfl⟩) hK hP (zk_7_7 hk0) (by decide) rfl rfl hl.1 rfl (Nat.le_of_ble_eq_true rfl) dX7_endLink_8 ⟨Nat.zero_le _, Nat.zero_le _⟩) hS (fun H locs hP hS => ?_)
  refine lv_iconst (v := 1) hx hb dX7_endLink_11 (by decide) ?_
  refine lv_isub hx hb dX7_endLink_12 ?_
  refine lv_iconst (v := 2) hx hb dX7_endLink_13 (by decide) ?_
  refine lv_iload_n hx hb dX7_endLink_14 rfl (lv_at hl 1 rfl) ?_
  obtain ⟨q2, hq2, hf⟩ := zb_e hf
  refine x_callv (x_runV (As := [.int (q1 - 1), .int 2, .int x1]) (rest := []) ⟨hx, hb, hml, hown, hts⟩ (c_X4_setCell l G hG I J (x0 + 1) (q1 - 1) 2 x1 (zk_7_7 hk0) hq2) (cwV 3 hts gX7_endLink_X4_setCell rfl rfl rfl (by decide +kernel) ⟨Nat.le_of_ble_eq_true rfl, Nat.le_of_ble_eq_true rfl⟩) hK hP (zk_7_7 hk0) (by decide) rfl rfl hl.1 rfl (Nat.le_of_ble_eq_true rfl) dX7_endLink_15 ⟨Nat.zero_le _, Nat.zero_le _⟩) hS (fun H locs hP hS => ?_)
  obtain rfl := Option.some.inj hf
  exact x_vret hx hb hr hlocks hK hP hS dX7_endLink_18
set_option maxRecDepth 100000 in
set_option maxHeartbeats 4000000 in
theorem c_X7_goTo (l : Launch) (G : zGT) (hG : zOK G) (I J : zM) (x0 : Nat) (x1 : Int32) (x2 : Int32) (hk0 : zK x0 = 7) {r : zM} (hf : f_X7_goTo I x0 x1 x2 = some r) : Met l yX7_goTo wsX7_goTo (zrm 1 24) (va_Pc [.ref (G.2.1 (x0)), .int x1, .int x2] (zS G I J)) (zQv G r J) 0 0 (zA G) := by
  refine zMet (cc := cX7_goTo) (n := 4) (ret := none) (by decide) rfl (Nat.le_of_ble_eq_true rfl) ?_
  intro p e s m args below meth c H locs ls F hK hP hS hl
  obtain ⟨hx, hb, hr, hml, hts, hown, hlocks⟩ := F
  have hown : s.vm.findClass RX7 = some m.cls := hown
  have hl : lv_has ls 4 [(0, .ref (G.2.1 (x0))), (1, .int x1), (2, .int x2)] := hl
  have hi7 : ∀ w ∈ wsX70, w ∈ wsX7_goTo := fun _ h => List.mem_cons_of_mem _ (List.mem_append_left _ (List.mem_append_right _ h))
  unfold f_X7_goTo at hf
  refine lv_aload_n hx hb dX7_goTo_0 rfl (lv_at hl 0 rfl) ?_
  refine lv_iload_n hx hb dX7_goTo_1 rfl (lv_at hl 1 rfl) ?_
  obtain ⟨M1, eM1, hf⟩ := zlet_e hf
  refine x_put (j := 2) (I2 := M1) (J2 := J) (ty0 := tyX7) (ty := .int) hx hb hts hi7 hown hG hK hP hS hk0 rfl tyX7_ok nmX7 (by decide) (hts (.fieldLink RX7 46 "LeaseOffice$Tool" "holder" "I") (by decide +kernel)) rfl (by decide +kernel) rfl rfl (Nat.le_of_ble_eq_true rfl) (by rw [eM1]; exact zs_7_2 _) (by rw [eM1]; exact zo_C) (by decide) dX7_goTo_2 (fun H locs hP hS => ?_)
  refine lv_aload_n hx hb dX7_goTo_5 rfl (lv_at hl 0 rfl) ?_
  refine lv_iload_n hx hb dX7_goTo_6 rfl (lv_at hl 2 rfl) ?_
  obtain ⟨M2, eM2, hf⟩ := zlet_e hf
  refine x_put (j := 3) (I2 := M2) (J2 := J) (ty0 := tyX7) (ty := .int) hx hb hts hi7 hown hG hK hP hS hk0 rfl tyX7_ok nmX7 (by decide) (hts (.fieldLink RX7 49 "LeaseOffice$Tool" "since" "I") (by decide +kernel)) rfl (by decide +kernel) rfl rfl (Nat.le_of_ble_eq_true rfl) (by rw [eM2]; exact zs_7_3 _) (by rw [eM2]; exact zo_C) (by decide) dX7_goTo_7 (fun H locs hP hS => ?_)
  refine lv_aload_n hx hb dX7_goTo_10 rfl (lv_at hl 0 rfl) ?_
  refine x_get (j := 7) (v := .ref (G.2.1 (x0 + 1))) hx hb hts hi7 hown hK hP hk0 rfl (by decide) (hts (.fieldLink RX7 14 "LeaseOffice$Tool" "links" "LLeaseOffice$Table;") (by decide +kernel)) rfl (by decide) dX7_goTo_11 ?_
  obtain ⟨q3, hq3, hf⟩ := zb_e hf
  refine x_calli (x_runV (As := []) (rest := []) ⟨hx, hb, hml, hown, hts⟩ (c_X4_append l G hG M2 J (x0 + 1) (zk_7_7 hk0) hq3) (cwV 0 hts gX7_goTo_X4_append rfl rfl rfl (by decide +kernel) ⟨Nat.le_of_ble_eq_true rfl, Nat.le_of_ble_eq_true rfl⟩) hK hP (zk_7_7 hk0) (by decide) rfl rfl hl.1 rfl (Nat.le_of_ble_eq_true rfl) dX7_goTo_14 ⟨Nat.zero_le _, Nat.zero_le _⟩) hS (fun H locs hP hS => ?_)
  refine lv_istore_n (lv' := [(3, .int q3.1), (0, .ref (G.2.1 (x0))), (1, .int x1), (2, .int x2)]) hx hb dX7_goTo_17 rfl hl (by decide) rfl (fun ls hl => ?_)
  refine lv_aload_n hx hb dX7_goTo_18 rfl (lv_at hl 1 rfl) ?_
  refine x_get (j := 7) (v := .ref (G.2.1 (x0 + 1))) hx hb hts hi7 hown hK hP hk0 rfl (by decide) (hts (.fieldLink RX7 14 "LeaseOffice$Tool" "links" "LLeaseOffice$Table;") (by decide +kernel)) rfl (by decide) dX7_goTo_19 ?_
  refine lv_iload_n hx hb dX7_goTo_22 rfl (lv_at hl 0 rfl) ?_
  refine lv_iconst (v := 0) hx hb dX7_goTo_23 (by decide) ?_
  refine lv_iload_n hx hb dX7_goTo_24 rfl (lv_at hl 2 rfl) ?_
  obtain ⟨q4, hq4, hf⟩ := zb_e hf
  refine x_callv (x_runV (As := [.int q3.1, .int 0, .int x1]) (rest := []) ⟨hx, hb, hml, hown, hts⟩ (c_X4_setCell l G hG q3.2 J (x0 + 1) q3.1 0 x1 (zk_7_7 hk0) hq4) (cwV 3 hts gX7_goTo_X4_setCell rfl rfl rfl (by decide +kernel) ⟨Nat.le_of_ble_eq_true rfl, Nat.le_of_ble_eq_true rfl⟩) hK hP (zk_7_7 hk0) (by decide) rfl rfl hl.1 rfl (Nat.le_of_ble_eq_true rfl) dX7_goTo_25 ⟨Nat.zero_le _, Nat.zero_le _⟩) hS (fun H locs hP hS => ?_)
  refine lv_aload_n hx hb dX7_goTo_28 rfl (lv_at hl 1 rfl) ?_
  refine x_get (j := 7) (v := .ref (G.2.1 (x0 + 1))) hx hb hts hi7 hown hK hP hk0 rfl (by decide) (hts (.fieldLink RX7 14 "LeaseOffice$Tool" "links" "LLeaseOffice$Table;") (by decide +kernel)) rfl (by decide) dX7_goTo_29 ?_
  refine lv_iload_n hx hb dX7_goTo_32 rfl (lv_at hl 0 rfl) ?_
  refine lv_iconst (v := 1) hx hb dX7_goTo_33 (by decide) ?_
  refine lv_iload_n hx hb dX7_goTo_34 rfl (lv_at hl 3 rfl) ?_
  obtain ⟨q5, hq5, hf⟩ := zb_e hf
  refine x_callv (x_runV (As := [.int q3.1, .int 1, .int x2]) (rest := []) ⟨hx, hb, hml, hown, hts⟩ (c_X4_setCell l G hG q4 J (x0 + 1) q3.1 1 x2 (zk_7_7 hk0) hq5) (cwV 3 hts gX7_goTo_X4_setCell rfl rfl rfl (by decide +kernel) ⟨Nat.le_of_ble_eq_true rfl, Nat.le_of_ble_eq_true rfl⟩) hK hP (zk_7_7 hk0) (by decide) rfl rfl hl.1 rfl (Nat.le_of_ble_eq_true rfl) dX7_goTo_35 ⟨Nat.zero_le _, Nat.zero_le _⟩) hS (fun H locs hP hS => ?_)
  refine lv_aload_n hx hb dX7_goTo_38 rfl (lv_at hl 1 rfl) ?_
  refine x_get (j := 7) (v := .ref (G.2.1 (x0 + 1))) hx hb hts hi7 hown hK hP hk0 rfl (by decide) (hts (.fieldLink RX7 14 "LeaseOffice$Tool" "links" "LLeaseOffice$Table;") (by decide +kernel)) rfl (by decide) dX7_goTo_39 ?_
  refine lv_iload_n hx hb dX7_goTo_42 rfl (lv_at hl 0 rfl) ?_
  refine lv_iconst (v := 2) hx hb dX7_goTo_43 (by decide) ?_
  refine lv_bipush (v := (-2)) hx hb dX7_goTo_44 (by decide) ?_
  obtain ⟨q6, hq6, hf⟩ := zb_e hf
  refine x_callv (x_runV (As := [.int q3.1, .int 2, .int (-2)]) (rest := []) ⟨hx, hb, hml, hown, hts⟩ (c_X4_setCell l G hG q5 J (x0 + 1) q3.1 2 (-2) (zk_7_7 hk0) hq6) (cwV 3 hts gX7_goTo_X4_setCell rfl rfl rfl (by decide +kernel) ⟨Nat.le_of_ble_eq_true rfl, Nat.le_of_ble_eq_true rfl⟩) hK hP (zk_7_7 hk0) (by decide) rfl rfl hl.1 rfl (Nat.le_of_ble_eq_true rfl) dX7_goTo_46 ⟨Nat.zero_le _, Nat.zero_le _⟩) hS (fun H locs hP hS => ?_)
  refine lv_aload_n hx hb dX7_goTo_49 rfl (lv_at hl 1 rfl) ?_
  refine lv_dup hx hb dX7_goTo_50 rfl ?_
  refine x_get (j := 6) (v := .int (q6 x0 6)) hx hb hts hi7 hown hK hP hk0 rfl (by decide) (hts (.fieldLink RX7 33 "LeaseOffice$Tool" "linksEver" "I") (by decide +kernel)) rfl (by decide) dX7_goTo_51 ?_
  refine lv_iconst (v := 1) hx hb dX7_goTo_54 (by decide) ?_
  refine lv_iadd hx hb dX7_goTo_55 ?_
  obtain ⟨M7, eM7, hf⟩ := zlet_e hf
  refine x_put (j := 6) (I2 := M7) (J2 := J) (ty0 := tyX7) (ty := .int) hx hb hts hi7 hown hG hK hP hS hk0 rfl tyX7_ok nmX7 (by decide) (hts (.fieldLink RX7 33 "LeaseOffice$Tool" "linksEver" "I") (by decide +kernel)) rfl (by decide +kernel) rfl rfl (Nat.le_of_ble_eq_true rfl) (by rw [eM7]; exact zs_7_6 _) (by rw [eM7]; exact zo_C) (by decide) dX7_goTo_56 (fun H locs hP hS => ?_)
  obtain rfl := Option.some.inj hf
  exact x_vret hx hb hr hlocks hK hP hS dX7_goTo_59
set_option maxRecDepth 100000 in
set_option maxHeartbeats 4000000 in
theorem c_X2_handOver (l : Launch) (G : zGT) (hG : zOK G) (I J : zM) (x0 : Nat) (x1 : Nat) (x2 : Int32) (hk0 : zK x0 = 2) (hk1 : zK x1 = 7) {r : zM} (hf : f_X2_handOver I x0 x1 x2 = some r) : Met l yX2_handOver wsX2_handOver (zrm 2 47) (va_Pc [.ref (G.2.1 (x0)), .ref (G.2.1 (x1)), .int x2] (zS G I J)) (zQv G r J) 0 0 (zA G) := by
  refine zMet (cc := cX2_handOver) (n := 3) (ret := none) (by decide) rfl (Nat.le_of_ble_eq_true rfl) ?_
  intro p e s m args below meth c H locs ls F hK hP hS hl
  obtain ⟨hx, hb, hr, hml, hts, hown, hlocks⟩ := F
  have hown : s.vm.findClass RX2 = some m.cls := hown
  have hl : lv_has ls 3 [(0, .ref (G.2.1 (x0))), (1, .ref (G.2.1 (x1))), (2, .int x2)] := hl
  have hi2 : ∀ w ∈ wsX20, w ∈ wsX2_handOver := fun _ h => List.mem_cons_of_mem _ (List.mem_append_left _ (List.mem_append_right _ h))
  have hi3 : ∀ w ∈ wsX30, w ∈ wsX2_handOver := fun _ h => List.mem_cons_of_mem _ (List.mem_append_left _ (List.mem_append_left _ (List.mem_append_left _ (List.mem_append_right _ h))))
  have hi7 : ∀ w ∈ wsX70, w ∈ wsX2_handOver := fun _ h => List.mem_cons_of_mem _ (List.mem_append_left _ (List.mem_append_left _ (List.mem_append_right _ h)))
  unfold f_X2_handOver at hf
  refine lv_aload_n hx hb dX2_handOver_0 rfl (lv_at hl 0 rfl) ?_
  refine lv_iload_n hx hb dX2_handOver_1 rfl (lv_at hl 2 rfl) ?_
  obtain ⟨q1, hq1, hf⟩ := zb_e hf
  refine x_callr (x_runV (As := [.int x2]) (rest := []) ⟨hx, hb, hml, hown, hts⟩ (c_X2_personAt l G hG I J x0 x2 hk0 hq1) (cwV 1 hts gX2_handOver_X2_personAt rfl rfl rfl (by decide +kernel) ⟨Nat.le_of_ble_eq_true rfl, Nat.le_of_ble_eq_true rfl⟩) hK hP hk0 (by decide) rfl rfl hl.1 rfl (Nat.le_of_ble_eq_true rfl) dX2_handOver_2 ⟨Nat.zero_le _, Nat.zero_le _⟩) hS (fun H locs hP hS => ?_)
  refine lv_dup hx hb dX2_handOver_5 rfl ?_
  refine x_get (j := 1) (v := .int (I q1 1)) hx hb hts hi3 hown hK hP (kd_X2_personAt hk0 hq1) rfl (by decide) (hts (.fieldLink RX2 108 "LeaseOffice$Person" "purse" "I") (by decide +kernel)) rfl (by decide) dX2_handOver_6 ?_
  refine lv_aload_n hx hb dX2_handOver_9 rfl (lv_at hl 1 rfl) ?_
  refine x_get (j := 5) (v := .int (I x1 5)) hx hb hts hi7 hown hK hP hk1 rfl (by decide) (hts (.fieldLink RX2 144 "LeaseOffice$Tool" "deposit" "I") (by decide +kernel)) rfl (by decide) dX2_handOver_10 ?_
  refine lv_isub hx hb dX2_handOver_13 ?_
  obtain ⟨M2, eM2, hf⟩ := zlet_e hf
  refine x_put (j := 1) (I2 := M2) (J2 := J) (ty0 := tyX3) (ty := .int) hx hb hts hi3 hown hG hK hP hS (kd_X2_personAt hk0 hq1) rfl tyX3_ok nmX3 (by decide) (hts (.fieldLink RX2 108 "LeaseOffice$Person" "purse" "I") (by decide +kernel)) rfl (by decide +kernel) rfl rfl (Nat.le_of_ble_eq_true rfl) (by rw [eM2]; exact zs_3_1 _) (by rw [eM2]; exact zo_C) (by decide) dX2_handOver_14 (fun H locs hP hS => ?_)
  refine lv_aload_n hx hb dX2_handOver_17 rfl (lv_at hl 0 rfl) ?_
  refine lv_aload_n hx hb dX2_handOver_18 rfl (lv_at hl 1 rfl) ?_
  refine x_get (j := 2) (v := .int (M2 x1 2)) hx hb hts hi7 hown hK hP hk1 rfl (by decide) (hts (.fieldLink RX2 111 "LeaseOffice$Tool" "holder" "I") (by decide +kernel)) rfl (by decide) dX2_handOver_19 ?_
  obtain ⟨q3, hq3, hf⟩ := zb_e hf
  refine x_callr (x_runV (As := [.int (M2 x1 2)]) (rest := []) ⟨hx, hb, hml, hown, hts⟩ (c_X2_personAt l G hG M2 J x0 (M2 x1 2) hk0 hq3) (cwV 1 hts gX2_handOver_X2_personAt rfl rfl rfl (by decide +kernel) ⟨Nat.le_of_ble_eq_true rfl, Nat.le_of_ble_eq_true rfl⟩) hK hP hk0 (by decide) rfl rfl hl.1 rfl (Nat.le_of_ble_eq_true rfl) dX2_handOver_22 ⟨Nat.zero_le _, Nat.zero_le _⟩) hS (fun H locs hP hS => ?_)
  refine lv_dup hx hb dX2_handOver_25 rfl ?_
  refine x_get (j := 1) (v := .int (M2 q3 1)) hx hb hts hi3 hown hK hP (kd_X2_personAt hk0 hq3) rfl (by decide) (hts (.fieldLink RX2 108 "LeaseOffice$Person" "purse" "I") (by decide +kernel)) rfl (by decide) dX2_handOver_26 ?_
  refine lv_aload_n hx hb dX2_handOver_29 rfl (lv_at hl 1 rfl) ?_
  refine x_get (j := 5) (v := .int (M2 x1 5)) hx hb hts hi7 hown hK hP hk1 rfl (by decide) (hts (.fieldLink RX2 144 "LeaseOffice$Tool" "deposit" "I") (by decide +kernel)) rfl (by decide) dX2_handOver_30 ?_
  refine lv_iadd hx hb dX2_handOver_33 ?_
  obtain ⟨M4, eM4, hf⟩ := zlet_e hf
  refine x_put (j := 1) (I2 := M4) (J2 := J) (ty0 := tyX3) (ty := .int) hx hb hts hi3 hown hG hK hP hS (kd_X2_personAt hk0 hq3) rfl tyX3_ok nmX3 (by decide) (hts (.fieldLink RX2 108 "LeaseOffice$Person" "purse" "I") (by decide +kernel)) rfl (by decide +kernel) rfl rfl (Nat.le_of_ble_eq_true rfl) (by rw [eM4]; exact zs_3_1 _) (by rw [eM4]; exact zo_C) (by decide) dX2_handOver_34 (fun H locs hP hS => ?_)
  refine lv_aload_n hx hb dX2_handOver_37 rfl (lv_at hl 1 rfl) ?_
  refine lv_aload_n hx hb dX2_handOver_38 rfl (lv_at hl 0 rfl) ?_
  refine x_get (j := 7) (v := .int (M4 x0 7)) hx hb hts hi2 hown hK hP hk0 rfl (by decide) (hts (.fieldLink RX2 47 "LeaseOffice$Office" "day" "I") (by decide +kernel)) rfl (by decide) dX2_handOver_39 ?_
  obtain ⟨q5, hq5, hf⟩ := zb_e hf
  refine x_callv (x_runV (As := [.int (M4 x0 7)]) (rest := []) ⟨hx, hb, hml, hown, hts⟩ (c_X7_endLink l G hG M4 J x1 (M4 x0 7) hk1 hq5) (cwV 1 hts gX2_handOver_X7_endLink rfl rfl rfl (by decide +kernel) ⟨Nat.le_of_ble_eq_true rfl, Nat.le_of_ble_eq_true rfl⟩) hK hP hk1 (by decide) rfl rfl hl.1 rfl (Nat.le_of_ble_eq_true rfl) dX2_handOver_42 ⟨Nat.zero_le _, Nat.zero_le _⟩) hS (fun H locs hP hS => ?_)
  refine lv_aload_n hx hb dX2_handOver_45 rfl (lv_at hl 1 rfl) ?_
  refine lv_iload_n hx hb dX2_handOver_46 rfl (lv_at hl 2 rfl) ?_
  refine lv_aload_n hx hb dX2_handOver_47 rfl (lv_at hl 0 rfl) ?_
  refine x_get (j := 7) (v := .int (q5 x0 7)) hx hb hts hi2 hown hK hP hk0 rfl (by decide) (hts (.fieldLink RX2 47 "LeaseOffice$Office" "day" "I") (by decide +kernel)) rfl (by decide) dX2_handOver_48 ?_
  obtain ⟨q6, hq6, hf⟩ := zb_e hf
  refine x_callv (x_runV (As := [.int x2, .int (q5 x0 7)]) (rest := []) ⟨hx, hb, hml, hown, hts⟩ (c_X7_goTo l G hG q5 J x1 x2 (q5 x0 7) hk1 hq6) (cwV 2 hts gX2_handOver_X7_goTo rfl rfl rfl (by decide +kernel) ⟨Nat.le_of_ble_eq_true rfl, Nat.le_of_ble_eq_true rfl⟩) hK hP hk1 (by decide) rfl rfl hl.1 rfl (Nat.le_of_ble_eq_true rfl) dX2_handOver_51 ⟨Nat.zero_le _, Nat.zero_le _⟩) hS (fun H locs hP hS => ?_)
  obtain rfl := Option.some.inj hf
  exact x_vret hx hb hr hlocks hK hP hS dX2_handOver_54
set_option maxRecDepth 100000 in
set_option maxHeartbeats 4000000 in
theorem c_X2_exchange (l : Launch) (G : zGT) (hG : zOK G) (I J : zM) (x0 : Nat) (x1 : Int32) (x2 : Int32) (hk0 : zK x0 = 2) {r : Int32 × zM} (hf : f_X2_exchange I x0 x1 x2 = some r) : Met l yX2_exchange wsX2_exchange (zrm 3 69) (va_Pc [.ref (G.2.1 (x0)), .int x1, .int x2] (zS G I J)) (zQi G r.1 r.2 J) 0 0 (zA G) := by
  refine zMet (cc := cX2_exchange) (n := 6) (ret := (some .int)) (by decide) rfl (Nat.le_of_ble_eq_true rfl) ?_
  intro p e s m args below meth c H locs ls F hK hP hS hl
  obtain ⟨hx, hb, hr, hml, hts, hown, hlocks⟩ := F
  have hown : s.vm.findClass RX2 = some m.cls := hown
  have hl : lv_has ls 6 [(0, .ref (G.2.1 (x0))), (1, .int x1), (2, .int x2)] := hl
  have hi7 : ∀ w ∈ wsX70, w ∈ wsX2_exchange := fun _ h => List.mem_cons_of_mem _ (List.mem_append_left _ (List.mem_append_left _ (List.mem_append_left _ (List.mem_append_right _ h))))
  unfold f_X2_exchange at hf
  refine lv_aload_n hx hb dX2_exchange_0 rfl (lv_at hl 0 rfl) ?_
  refine lv_iload_n hx hb dX2_exchange_1 rfl (lv_at hl 1 rfl) ?_
  refine lv_iload_n hx hb dX2_exchange_2 rfl (lv_at hl 2 rfl) ?_
  obtain ⟨q1, hq1, hf⟩ := zb_e hf
  refine x_calli (x_runV (As := [.int x1, .int x2]) (rest := []) ⟨hx, hb, hml, hown, hts⟩ (c_X2_haveTwoHolders l G hG I J x0 x1 x2 hk0 hq1) (cwV 2 hts gX2_exchange_X2_haveTwoHolders rfl rfl rfl (by decide +kernel) ⟨Nat.le_of_ble_eq_true rfl, Nat.le_of_ble_eq_true rfl⟩) hK hP hk0 (by decide) rfl rfl hl.1 rfl (Nat.le_of_ble_eq_true rfl) dX2_exchange_3 ⟨Nat.zero_le _, Nat.zero_le _⟩) hS (fun H locs hP hS => ?_)
  refine lv_if_ne (tgt := 11) hx hb dX2_exchange_6 (by decide) (fun c2 => ?_) (fun c2 => ?_)
  · have hf := zif_f c2 hf
    refine lv_aload_n hx hb dX2_exchange_11 rfl (lv_at hl 0 rfl) ?_
    refine lv_iload_n hx hb dX2_exchange_12 rfl (lv_at hl 1 rfl) ?_
    refine lv_iload_n hx hb dX2_exchange_13 rfl (lv_at hl 2 rfl) ?_
    obtain ⟨q3, hq3, hf⟩ := zb_e hf
    refine x_calli (x_runV (As := [.int x1, .int x2]) (rest := []) ⟨hx, hb, hml, hown, hts⟩ (c_X2_gainOf l G hG I J x0 x1 x2 hk0 hq3) (cwV 2 hts gX2_exchange_X2_gainOf rfl rfl rfl (by decide +kernel) ⟨Nat.le_of_ble_eq_true rfl, Nat.le_of_ble_eq_true rfl⟩) hK hP hk0 (by decide) rfl rfl hl.1 rfl (Nat.le_of_ble_eq_true rfl) dX2_exchange_14 ⟨Nat.zero_le _, Nat.zero_le _⟩) hS (fun H locs hP hS => ?_)
    refine lv_istore_n (lv' := [(3, .int q3), (0, .ref (G.2.1 (x0))), (1, .int x1), (2, .int x2)]) hx hb dX2_exchange_17 rfl hl (by decide) rfl (fun ls hl => ?_)
    refine lv_iload_n hx hb dX2_exchange_18 rfl (lv_at hl 0 rfl) ?_
    refine lv_if_ne (tgt := 29) hx hb dX2_exchange_19 (by decide) (fun c4 => ?_) (fun c4 => ?_)
    · have hf := zif_f c4 hf
      refine lv_aload_n hx hb dX2_exchange_29 rfl (lv_at hl 1 rfl) ?_
      refine lv_iload_n hx hb dX2_exchange_30 rfl (lv_at hl 2 rfl) ?_
      refine lv_iload_n hx hb dX2_exchange_31 rfl (lv_at hl 3 rfl) ?_
      obtain ⟨q5, hq5, hf⟩ := zb_e hf
      refine x_calli (x_runV (As := [.int x1, .int x2]) (rest := []) ⟨hx, hb, hml, hown, hts⟩ (c_X2_whyNotBothPassed l G hG I J x0 x1 x2 hk0 hq5) (cwV 2 hts gX2_exchange_X2_whyNotBothPassed rfl rfl rfl (by decide +kernel) ⟨Nat.le_of_ble_eq_true rfl, Nat.le_of_ble_eq_true rfl⟩) hK hP hk0 (by decide) rfl rfl hl.1 rfl (Nat.le_of_ble_eq_true rfl) dX2_exchange_32 ⟨Nat.zero_le _, Nat.zero_le _⟩) hS (fun H locs hP hS => ?_)
      refine lv_istore (lv' := [(4, .int q5), (3, .int q3), (0, .ref (G.2.1 (x0))), (1, .int x1), (2, .int x2)]) hx hb dX2_exchange_35 hl (by decide) rfl (fun ls hl => ?_)
      refine lv_iload hx hb dX2_exchange_37 (lv_at hl 0 rfl) ?_
      refine lv_if_eq (tgt := 50) hx hb dX2_exchange_39 (by decide) (fun c6 => ?_) (fun c6 => ?_)
      · have hf := zif_t c6 hf
        refine lv_aload_n hx hb dX2_exchange_50 rfl (lv_at hl 2 rfl) ?_
        refine lv_iload_n hx hb dX2_exchange_51 rfl (lv_at hl 3 rfl) ?_
        obtain ⟨q7, hq7, hf⟩ := zb_e hf
        refine x_callr (x_runV (As := [.int x1]) (rest := []) ⟨hx, hb, hml, hown, hts⟩ (c_X2_toolAt l G hG I J x0 x1 hk0 hq7) (cwV 1 hts gX2_exchange_X2_toolAt rfl rfl rfl (by decide +kernel) ⟨Nat.le_of_ble_eq_true rfl, Nat.le_of_ble_eq_true rfl⟩) hK hP hk0 (by decide) rfl rfl hl.1 rfl (Nat.le_of_ble_eq_true rfl) dX2_exchange_52 ⟨Nat.zero_le _, Nat.zero_le _⟩) hS (fun H locs hP hS => ?_)
        refine x_get (j := 2) (v := .int (I q7 2)) hx hb hts hi7 hown hK hP (kd_X2_toolAt hk0 hq7) rfl (by decide) (hts (.fieldLink RX2 111 "LeaseOffice$Tool" "holder" "I") (by decide +kernel)) rfl (by decide) dX2_exchange_55 ?_
        refine lv_istore (lv' := [(5, .int (I q7 2)), (4, .int q5), (3, .int q3), (0, .ref (G.2.1 (x0))), (1, .int x1), (2, .int x2)]) hx hb dX2_exchange_58 hl (by decide) rfl (fun ls hl => ?_)
        refine lv_aload_n hx hb dX2_exchange_60 rfl (lv_at hl 3 rfl) ?_
        refine lv_aload_n hx hb dX2_exchange_61 rfl (lv_at hl 3 rfl) ?_
        refine lv_iload_n hx hb dX2_exchange_62 rfl (lv_at hl 4 rfl) ?_
        obtain ⟨q8, hq8, hf⟩ := zb_e hf
        refine x_callr (x_runV (As := [.int x1]) (rest := [.ref (G.2.1 (x0))]) ⟨hx, hb, hml, hown, hts⟩ (c_X2_toolAt l G hG I J x0 x1 hk0 hq8) (cwV 1 hts gX2_exchange_X2_toolAt rfl rfl rfl (by decide +kernel) ⟨Nat.le_of_ble_eq_true rfl, Nat.le_of_ble_eq_true rfl⟩) hK hP hk0 (by decide) rfl rfl hl.1 rfl (Nat.le_of_ble_eq_true rfl) dX2_exchange_63 ⟨Nat.zero_le _, Nat.zero_le _⟩) hS (fun H locs hP hS => ?_)
        refine lv_aload_n hx hb dX2_exchange_66 rfl (lv_at hl 3 rfl) ?_
        refine lv_iload_n hx hb dX2_exchange_67 rfl (lv_at hl 5 rfl) ?_
        obtain ⟨q9, hq9, hf⟩ := zb_e hf
        refine x_callr (x_runV (As := [.int x2]) (rest := [.ref (G.2.1 (q8)), .ref (G.2.1 (x0))]) ⟨hx, hb, hml, hown, hts⟩ (c_X2_toolAt l G hG I J x0 x2 hk0 hq9) (cwV 1 hts gX2_exchange_X2_toolAt rfl rfl rfl (by decide +kernel) ⟨Nat.le_of_ble_eq_true rfl, Nat.le_of_ble_eq_true rfl⟩) hK hP hk0 (by decide) rfl rfl hl.1 rfl (Nat.le_of_ble_eq_true rfl) dX2_exchange_68 ⟨Nat.zero_le _, Nat.zero_le _⟩) hS (fun H locs hP hS => ?_)
        refine x_get (j := 2) (v := .int (I q9 2)) hx hb hts hi7 hown hK hP (kd_X2_toolAt hk0 hq9) rfl (by decide) (hts (.fieldLink RX2 111 "LeaseOffice$Tool" "holder" "I") (by decide +kernel)) rfl (by decide) dX2_exchange_71 ?_
        obtain ⟨q10, hq10, hf⟩ := zb_e hf
        refine x_callv (x_runV (As := [.ref (G.2.1 (q8)), .int (I q9 2)]) (rest := []) ⟨hx, hb, hml, hown, hts⟩ (c_X2_handOver l G hG I J x0 q8 (I q9 2) hk0 (kd_X2_toolAt hk0 hq8) hq10) (cwV 2 hts gX2_exchange_X2_handOver rfl rfl rfl (by decide +kernel) ⟨Nat.le_of_ble_eq_true rfl, Nat.le_of_ble_eq_true rfl⟩) hK hP hk0 (by decide) rfl rfl hl.1 rfl (Nat.le_of_ble_eq_true rfl) dX2_exchange_74 ⟨Nat.zero_le _, Nat.zero_le _⟩) hS (fun H locs hP hS => ?_)
        refine lv_aload_n hx hb dX2_exchange_77 rfl (lv_at hl 3 rfl) ?_
        refine lv_aload_n hx hb dX2_exchange_78 rfl (lv_at hl 3 rfl) ?_
        refine lv_iload_n hx hb dX2_exchange_79 rfl (lv_at hl 5 rfl) ?_
        obtain ⟨q11, hq11, hf⟩ := zb_e hf
        refine x_callr (x_runV (As := [.int x2]) (rest := [.ref (G.2.1 (x0))]) ⟨hx, hb, hml, hown, hts⟩ (c_X2_toolAt l G hG q10 J x0 x2 hk0 hq11) (cwV 1 hts gX2_exchange_X2_toolAt rfl rfl rfl (by decide +kernel) ⟨Nat.le_of_ble_eq_true rfl, Nat.le_of_ble_eq_true rfl⟩) hK hP hk0 (by decide) rfl rfl hl.1 rfl (Nat.le_of_ble_eq_true rfl) dX2_exchange_80 ⟨Nat.zero_le _, Nat.zero_le _⟩) hS (fun H locs hP hS => ?_)
        refine lv_iload hx hb dX2_exchange_83 (lv_at hl 0 rfl) ?_
        obtain ⟨q12, hq12, hf⟩ := zb_e hf
        refine x_callv (x_runV (As := [.ref (G.2.1 (q11)), .int (I q7 2)]) (rest := []) ⟨hx, hb, hml, hown, hts⟩ (c_X2_handOver l G hG q10 J x0 q11 (I q7 2) hk0 (kd_X2_toolAt hk0 hq11) hq12) (cwV 2 hts gX2_exchange_X2_handOver rfl rfl rfl (by decide +kernel) ⟨Nat.le_of_ble_eq_true rfl, Nat.le_of_ble_eq_true rfl⟩) hK hP hk0 (by decide) rfl rfl hl.1 rfl (Nat.le_of_ble_eq_true rfl) dX2_exchange_85 ⟨Nat.zero_le _, Nat.zero_le _⟩) hS (fun H locs hP hS => ?_)
        refine lv_iload_n hx hb dX2_exchange_88 rfl (lv_at hl 2 rfl) ?_
        obtain rfl := Option.some.inj hf
        exact x_iret hx hb hr hlocks hK hP hS dX2_exchange_89
      · have hf := zif_f c6 hf
        refine lv_aload_n hx hb dX2_exchange_42 rfl (lv_at hl 2 rfl) ?_
        refine lv_iconst (v := 5) hx hb dX2_exchange_43 (by decide) ?_
        refine lv_iload hx hb dX2_exchange_44 (lv_at hl 0 rfl) ?_
        obtain ⟨q13, hq13, hf⟩ := zb_e hf
        refine x_calli (x_runV (As := [.int 5, .int q5]) (rest := []) ⟨hx, hb, hml, hown, hts⟩ (c_X2_refuse l G hG I J x0 5 q5 hk0 hq13) (cwV 2 hts gX2_exchange_X2_refuse rfl rfl rfl (by decide +kernel) ⟨Nat.le_of_ble_eq_true rfl, Nat.le_of_ble_eq_true rfl⟩) hK hP hk0 (by decide) rfl rfl hl.1 rfl (Nat.le_of_ble_eq_true rfl) dX2_exchange_46 ⟨Nat.zero_le _, Nat.zero_le _⟩) hS (fun H locs hP hS => ?_)
        obtain rfl := Option.some.inj hf
        exact x_iret hx hb hr hlocks hK hP hS dX2_exchange_49
    · have hf := zif_t c4 hf
      refine lv_aload_n hx hb dX2_exchange_22 rfl (lv_at hl 1 rfl) ?_
      refine lv_iconst (v := 4) hx hb dX2_exchange_23 (by decide) ?_
      refine lv_iconst (v := 0) hx hb dX2_exchange_24 (by decide) ?_
      obtain ⟨q14, hq14, hf⟩ := zb_e hf
      refine x_calli (x_runV (As := [.int 4, .int 0]) (rest := []) ⟨hx, hb, hml, hown, hts⟩ (c_X2_refuse l G hG I J x0 4 0 hk0 hq14) (cwV 2 hts gX2_exchange_X2_refuse rfl rfl rfl (by decide +kernel) ⟨Nat.le_of_ble_eq_true rfl, Nat.le_of_ble_eq_true rfl⟩) hK hP hk0 (by decide) rfl rfl hl.1 rfl (Nat.le_of_ble_eq_true rfl) dX2_exchange_25 ⟨Nat.zero_le _, Nat.zero_le _⟩) hS (fun H locs hP hS => ?_)
      obtain rfl := Option.some.inj hf
      exact x_iret hx hb hr hlocks hK hP hS dX2_exchange_28
  · have hf := zif_t c2 hf
    refine lv_iconst (v := (-1)) hx hb dX2_exchange_9 (by decide) ?_
    obtain rfl := Option.some.inj hf
    exact x_iret hx hb hr hlocks hK hP hS dX2_exchange_10
set_option maxRecDepth 100000 in
set_option maxHeartbeats 4000000 in
theorem c_X7_wearSinceLook (l : Launch) (G : zGT) (hG : zOK G) (I J : zM) (x0 : Nat) (hk0 : zK x0 = 7) {r : Int32} (hf : f_X7_wearSinceLook I x0 = some r) : Met l yX7_wearSinceLook wsX7_wearSinceLook (zrm 1 23) (va_Pc [.ref (G.2.1 (x0))] (zS G I J)) (zQi G r I J) 0 0 (zA G) := by
  refine zMet (cc := cX7_wearSinceLook) (n := 1) (ret := (some .int)) (by decide) rfl (Nat.le_of_ble_eq_true rfl) ?_
  intro p e s m args below meth c H locs ls F hK hP hS hl
  obtain ⟨hx, hb, hr, hml, hts, hown, hlocks⟩ := F
  have hown : s.vm.findClass RX7 = some m.cls := hown
  have hl : lv_has ls 1 [(0, .ref (G.2.1 (x0)))] := hl
  have hi7 : ∀ w ∈ wsX70, w ∈ wsX7_wearSinceLook := fun _ h => List.mem_cons_of_mem _ (List.mem_append_left _ (List.mem_append_right _ h))
  unfold f_X7_wearSinceLook at hf
  refine lv_aload_n hx hb dX7_wearSinceLook_0 rfl (lv_at hl 0 rfl) ?_
  refine x_get (j := 1) (v := .int (I x0 1)) hx hb hts hi7 hown hK hP hk0 rfl (by decide) (hts (.fieldLink RX7 30 "LeaseOffice$Tool" "wear" "I") (by decide +kernel)) rfl (by decide) dX7_wearSinceLook_1 ?_
  refine lv_aload_n hx hb dX7_wearSinceLook_4 rfl (lv_at hl 0 rfl) ?_
  refine x_get (j := 8) (v := .ref (G.2.1 (x0 + 3))) hx hb hts hi7 hown hK hP hk0 rfl (by decide) (hts (.fieldLink RX7 20 "LeaseOffice$Tool" "looks" "LLeaseOffice$Table;") (by decide +kernel)) rfl (by decide) dX7_wearSinceLook_5 ?_
  refine lv_aload_n hx hb dX7_wearSinceLook_8 rfl (lv_at hl 0 rfl) ?_
  refine x_get (j := 8) (v := .ref (G.2.1 (x0 + 3))) hx hb hts hi7 hown hK hP hk0 rfl (by decide) (hts (.fieldLink RX7 20 "LeaseOffice$Tool" "looks" "LLeaseOffice$Table;") (by decide +kernel)) rfl (by decide) dX7_wearSinceLook_9 ?_
  obtain ⟨q1, hq1, hf⟩ := zb_e hf
  refine x_calli (x_runV (As := []) (rest := [.ref (G.2.1 (x0 + 3)), .int (I x0 1)]) ⟨hx, hb, hml, hown, hts⟩ (c_X4_size l G hG I J (x0 + 3) (zk_7_8 hk0) hq1) (cwV 0 hts gX7_wearSinceLook_X4_size rfl rfl rfl (by decide +kernel) ⟨Nat.le_of_ble_eq_true rfl, Nat.le_of_ble_eq_true rfl⟩) hK hP (zk_7_8 hk0) (by decide) rfl rfl hl.1 rfl (Nat.le_of_ble_eq_true rfl) dX7_wearSinceLook_12 ⟨Nat.zero_le _, Nat.zero_le _⟩) hS (fun H locs hP hS => ?_)
  refine lv_iconst (v := 1) hx hb dX7_wearSinceLook_15 (by decide) ?_
  refine lv_isub hx hb dX7_wearSinceLook_16 ?_
  refine lv_iconst (v := 1) hx hb dX7_wearSinceLook_17 (by decide) ?_
  obtain ⟨q2, hq2, hf⟩ := zb_e hf
  refine x_calli (x_runV (As := [.int (q1 - 1), .int 1]) (rest := [.int (I x0 1)]) ⟨hx, hb, hml, hown, hts⟩ (c_X4_cell l G hG I J (x0 + 3) (q1 - 1) 1 (zk_7_8 hk0) hq2) (cwV 2 hts gX7_wearSinceLook_X4_cell rfl rfl rfl (by decide +kernel) ⟨Nat.le_of_ble_eq_true rfl, Nat.le_of_ble_eq_true rfl⟩) hK hP (zk_7_8 hk0) (by decide) rfl rfl hl.1 rfl (Nat.le_of_ble_eq_true rfl) dX7_wearSinceLook_18 ⟨Nat.zero_le _, Nat.zero_le _⟩) hS (fun H locs hP hS => ?_)
  refine lv_isub hx hb dX7_wearSinceLook_21 ?_
  obtain rfl := Option.some.inj hf
  exact x_iret hx hb hr hlocks hK hP hS dX7_wearSinceLook_22
set_option maxRecDepth 100000 in
set_option maxHeartbeats 4000000 in
theorem c_X7_cost (l : Launch) (G : zGT) (hG : zOK G) (I J : zM) (x0 : Nat) (hk0 : zK x0 = 7) {r : Int32} (hf : f_X7_cost I x0 = some r) : Met l yX7_cost wsX7_cost (zrm 2 43) (va_Pc [.ref (G.2.1 (x0))] (zS G I J)) (zQi G r I J) 0 0 (zA G) := by
  refine zMet (cc := cX7_cost) (n := 1) (ret := (some .int)) (by decide) rfl (Nat.le_of_ble_eq_true rfl) ?_
  intro p e s m args below meth c H locs ls F hK hP hS hl
  obtain ⟨hx, hb, hr, hml, hts, hown, hlocks⟩ := F
  have hown : s.vm.findClass RX7 = some m.cls := hown
  have hl : lv_has ls 1 [(0, .ref (G.2.1 (x0)))] := hl
  have hi7 : ∀ w ∈ wsX70, w ∈ wsX7_cost := fun _ h => List.mem_cons_of_mem _ (List.mem_append_left _ (List.mem_append_right _ h))
  unfold f_X7_cost at hf
  refine lv_aload_n hx hb dX7_cost_0 rfl (lv_at hl 0 rfl) ?_
  refine x_get (j := 0) (v := .int (I x0 0)) hx hb hts hi7 hown hK hP hk0 rfl (by decide) (hts (.fieldLink RX7 26 "LeaseOffice$Tool" "worth" "I") (by decide +kernel)) rfl (by decide) dX7_cost_1 ?_
  refine lv_aload_n hx hb dX7_cost_4 rfl (lv_at hl 0 rfl) ?_
  obtain ⟨q1, hq1, hf⟩ := zb_e hf
  refine x_calli (x_runV (As := []) (rest := [.int (I x0 0)]) ⟨hx, hb, hml, hown, hts⟩ (c_X7_wearSinceLook l G hG I J x0 hk0 hq1) (cwV 0 hts gX7_cost_X7_wearSinceLook rfl rfl rfl (by decide +kernel) ⟨Nat.le_of_ble_eq_true rfl, Nat.le_of_ble_eq_true rfl⟩) hK hP hk0 (by decide) rfl rfl hl.1 rfl (Nat.le_of_ble_eq_true rfl) dX7_cost_5 ⟨Nat.zero_le _, Nat.zero_le _⟩) hS (fun H locs hP hS => ?_)
  refine lv_iconst (v := 0) hx hb dX7_cost_8 (by decide) ?_
  obtain ⟨w2, ew2, hf⟩ := zlet_e hf
  refine va_mmax hx hb (hml.trans hl.1.symm) hown (hts (.methodLink RX7 80 Lib.Math.max.name) (by decide +kernel)) (hts (.static Lib.Math.max.name) (by decide +kernel)) (hts (.initialized "java/lang/Math") (by decide +kernel)) (hts (.code Lib.Math.max.name Lib.Math.max.code 2 (some .int)) (by decide +kernel)) (Nat.le_of_ble_eq_true rfl) (Nat.le_of_ble_eq_true rfl) (Nat.zero_le _) (Nat.zero_le _) dX7_cost_9 ?_
  refine z_topi ew2 ?_
  refine lv_imul hx hb dX7_cost_12 ?_
  refine lv_bipush (v := 9) hx hb dX7_cost_13 (by decide) ?_
  refine lv_idiv hx hb dX7_cost_15 (by decide) ?_
  obtain rfl := Option.some.inj hf
  exact x_iret hx hb hr hlocks hK hP hS dX7_cost_16
