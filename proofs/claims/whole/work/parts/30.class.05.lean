set_option maxRecDepth 100000 in
set_option maxHeartbeats 4000000 in
theorem c_X8_claim (l : Launch) (G : zGT) (hG : zOK G) (I J : zM) (x1 : Int32) (x2 : Int32) (x3 : Int32) {r : Int32 × zM} (hf : f_X8_claim I x1 x2 x3 = some r) : Met l yX8_claim wsX8_claim (zrm 4 98) (va_Pc [.ref (G.2.1 0), .int x1, .int x2, .int x3] (zS G I J)) (zQi G r.1 r.2 J) 0 0 (zA G) := by
  refine zMet (cc := cX8_claim) (n := 4) (ret := (some .int)) (by decide) rfl (Nat.le_of_ble_eq_true rfl) ?_
  intro p e s m args below meth c H locs ls F hK hP hS hl
  obtain ⟨hx, hb, hr, hml, hts, hown, hlocks⟩ := F
  have hown : s.vm.findClass RX8 = some m.cls := hown
  have hl : lv_has ls 4 [(0, .ref (G.2.1 0)), (1, .int x1), (2, .int x2), (3, .int x3)] := hl
  have hi8 : ∀ w ∈ wsX80, w ∈ wsX8_claim := fun _ h => List.mem_cons_of_mem _ (List.mem_append_left _ (List.mem_append_left _ (List.mem_append_left _ (List.mem_append_right _ h))))
  unfold f_X8_claim at hf
  refine lv_iload_n hx hb dX8_claim_0 rfl (lv_at hl 3 rfl) ?_
  refine lv_if_ge (tgt := 8) hx hb dX8_claim_1 (by decide) (fun c1 => ?_) (fun c1 => ?_)
  · have hf := zif_t c1 hf
    refine lv_aload_n hx hb dX8_claim_8 rfl (lv_at hl 0 rfl) ?_
    refine x_get (j := 1) (v := .ref (G.2.1 1)) hx hb hts hi8 hown hK hP zkL_0 rfl (by decide) (hts (.fieldLink RX8 20 "LeaseOffice" "office" "LLeaseOffice$Office;") (by decide +kernel)) rfl (by decide) dX8_claim_9 ?_
    refine lv_iload_n hx hb dX8_claim_12 rfl (lv_at hl 1 rfl) ?_
    refine lv_iload_n hx hb dX8_claim_13 rfl (lv_at hl 2 rfl) ?_
    refine lv_iload_n hx hb dX8_claim_14 rfl (lv_at hl 3 rfl) ?_
    refine lv_bipush (v := 100) hx hb dX8_claim_15 (by decide) ?_
    refine lv_idiv hx hb dX8_claim_17 (by decide) ?_
    refine lv_iload_n hx hb dX8_claim_18 rfl (lv_at hl 3 rfl) ?_
    refine lv_bipush (v := 100) hx hb dX8_claim_19 (by decide) ?_
    refine lv_irem hx hb dX8_claim_21 (by decide) ?_
    obtain ⟨q2, hq2, hf⟩ := zb_e hf
    refine x_calli (x_runV (As := [.int x1, .int x2, .int (x3 / 100), .int (x3 - x3 / 100 * 100)]) (rest := []) ⟨hx, hb, hml, hown, hts⟩ (c_X2_enterClaim l G hG I J 1 x1 x2 (x3 / 100) (x3 - x3 / 100 * 100) zkL_1 hq2) (cwV 4 hts gX8_claim_X2_enterClaim rfl rfl rfl (by decide +kernel) ⟨Nat.le_of_ble_eq_true rfl, Nat.le_of_ble_eq_true rfl⟩) hK hP zkL_1 (by decide) rfl rfl hl.1 rfl (Nat.le_of_ble_eq_true rfl) dX8_claim_22 ⟨Nat.zero_le _, Nat.zero_le _⟩) hS (fun H locs hP hS => ?_)
    obtain rfl := Option.some.inj hf
    exact x_iret hx hb hr hlocks hK hP hS dX8_claim_25
  · have hf := zif_f c1 hf
    refine lv_iconst (v := (-1)) hx hb dX8_claim_4 (by decide) ?_
    refine lv_goto (tgt := 25) hx hb dX8_claim_5 (by decide) ?_
    obtain rfl := Option.some.inj hf
    exact x_iret hx hb hr hlocks hK hP hS dX8_claim_25
set_option maxRecDepth 100000 in
set_option maxHeartbeats 4000000 in
theorem c_X8_entryOf (l : Launch) (G : zGT) (hG : zOK G) (I J : zM) (x0 : Nat) (x1 : Int32) (x2 : Int32) (x3 : Int32) (hk0 : zK x0 = 4) {r : Int32} (hf : f_X8_entryOf I x0 x1 x2 x3 = some r) : Met l yX8_entryOf wsX8_entryOf (zrm 1 23) (va_Pc [.ref (G.2.1 (x0)), .int x1, .int x2, .int x3] (zS G I J)) (zQi G r I J) 0 0 (zA G) := by
  refine zMet (cc := cX8_entryOf) (n := 4) (ret := (some .int)) (by decide) rfl (Nat.le_of_ble_eq_true rfl) ?_
  intro p e s m args below meth c H locs ls F hK hP hS hl
  obtain ⟨hx, hb, hr, hml, hts, hown, hlocks⟩ := F
  have hown : s.vm.findClass RX8 = some m.cls := hown
  have hl : lv_has ls 4 [(0, .ref (G.2.1 (x0))), (1, .int x1), (2, .int x2), (3, .int x3)] := hl
  unfold f_X8_entryOf at hf
  refine lv_iload_n hx hb dX8_entryOf_0 rfl (lv_at hl 1 rfl) ?_
  refine lv_if_lt (tgt := 13) hx hb dX8_entryOf_1 (by decide) (fun c1 => ?_) (fun c1 => ?_)
  · have hf := zif_t c1 hf
    refine lv_iconst (v := (-1)) hx hb dX8_entryOf_13 (by decide) ?_
    obtain rfl := Option.some.inj hf
    exact x_iret hx hb hr hlocks hK hP hS dX8_entryOf_14
  · have hf := zif_f c1 hf
    refine lv_iload_n hx hb dX8_entryOf_4 rfl (lv_at hl 2 rfl) ?_
    refine lv_if_lt (tgt := 13) hx hb dX8_entryOf_5 (by decide) (fun c2 => ?_) (fun c2 => ?_)
    · have hf := zif_t c2 hf
      refine lv_iconst (v := (-1)) hx hb dX8_entryOf_13 (by decide) ?_
      obtain rfl := Option.some.inj hf
      exact x_iret hx hb hr hlocks hK hP hS dX8_entryOf_14
    · have hf := zif_f c2 hf
      refine lv_iload_n hx hb dX8_entryOf_8 rfl (lv_at hl 2 rfl) ?_
      refine lv_iload_n hx hb dX8_entryOf_9 rfl (lv_at hl 3 rfl) ?_
      refine lv_icmp_le (tgt := 15) hx hb dX8_entryOf_10 (by decide) (fun c3 => ?_) (fun c3 => ?_)
      · have hf := zif_t c3 hf
        refine lv_iload_n hx hb dX8_entryOf_15 rfl (lv_at hl 1 rfl) ?_
        refine lv_aload_n hx hb dX8_entryOf_16 rfl (lv_at hl 0 rfl) ?_
        obtain ⟨q4, hq4, hf⟩ := zb_e hf
        refine x_calli (x_runV (As := []) (rest := [.int x1]) ⟨hx, hb, hml, hown, hts⟩ (c_X4_size l G hG I J x0 hk0 hq4) (cwV 0 hts gX8_entryOf_X4_size rfl rfl rfl (by decide +kernel) ⟨Nat.le_of_ble_eq_true rfl, Nat.le_of_ble_eq_true rfl⟩) hK hP hk0 (by decide) rfl rfl hl.1 rfl (Nat.le_of_ble_eq_true rfl) dX8_entryOf_17 ⟨Nat.zero_le _, Nat.zero_le _⟩) hS (fun H locs hP hS => ?_)
        refine lv_icmp_ge (tgt := 32) hx hb dX8_entryOf_20 (by decide) (fun c5 => ?_) (fun c5 => ?_)
        · have hf := zif_t c5 hf
          refine lv_bipush (v := (-2)) hx hb dX8_entryOf_32 (by decide) ?_
          obtain rfl := Option.some.inj hf
          exact x_iret hx hb hr hlocks hK hP hS dX8_entryOf_34
        · have hf := zif_f c5 hf
          refine lv_aload_n hx hb dX8_entryOf_23 rfl (lv_at hl 0 rfl) ?_
          refine lv_iload_n hx hb dX8_entryOf_24 rfl (lv_at hl 1 rfl) ?_
          refine lv_iload_n hx hb dX8_entryOf_25 rfl (lv_at hl 2 rfl) ?_
          obtain ⟨q6, hq6, hf⟩ := zb_e hf
          refine x_calli (x_runV (As := [.int x1, .int x2]) (rest := []) ⟨hx, hb, hml, hown, hts⟩ (c_X4_cell l G hG I J x0 x1 x2 hk0 hq6) (cwV 2 hts gX8_entryOf_X4_cell rfl rfl rfl (by decide +kernel) ⟨Nat.le_of_ble_eq_true rfl, Nat.le_of_ble_eq_true rfl⟩) hK hP hk0 (by decide) rfl rfl hl.1 rfl (Nat.le_of_ble_eq_true rfl) dX8_entryOf_26 ⟨Nat.zero_le _, Nat.zero_le _⟩) hS (fun H locs hP hS => ?_)
          refine lv_goto (tgt := 34) hx hb dX8_entryOf_29 (by decide) ?_
          obtain rfl := Option.some.inj hf
          exact x_iret hx hb hr hlocks hK hP hS dX8_entryOf_34
      · have hf := zif_f c3 hf
        refine lv_iconst (v := (-1)) hx hb dX8_entryOf_13 (by decide) ?_
        obtain rfl := Option.some.inj hf
        exact x_iret hx hb hr hlocks hK hP hS dX8_entryOf_14
set_option maxRecDepth 100000 in
set_option maxHeartbeats 4000000 in
theorem c_X8_claimOf (l : Launch) (G : zGT) (hG : zOK G) (I J : zM) (x1 : Int32) (x2 : Int32) (x3 : Int32) {r : Int32} (hf : f_X8_claimOf I x1 x2 x3 = some r) : Met l yX8_claimOf wsX8_claimOf (zrm 2 46) (va_Pc [.ref (G.2.1 0), .int x1, .int x2, .int x3] (zS G I J)) (zQi G r I J) 0 0 (zA G) := by
  refine zMet (cc := cX8_claimOf) (n := 4) (ret := (some .int)) (by decide) rfl (Nat.le_of_ble_eq_true rfl) ?_
  intro p e s m args below meth c H locs ls F hK hP hS hl
  obtain ⟨hx, hb, hr, hml, hts, hown, hlocks⟩ := F
  have hown : s.vm.findClass RX8 = some m.cls := hown
  have hl : lv_has ls 4 [(0, .ref (G.2.1 0)), (1, .int x1), (2, .int x2), (3, .int x3)] := hl
  have hi7 : ∀ w ∈ wsX70, w ∈ wsX8_claimOf := fun _ h => List.mem_cons_of_mem _ (List.mem_append_left _ (List.mem_append_left _ (List.mem_append_right _ h)))
  have hi8 : ∀ w ∈ wsX80, w ∈ wsX8_claimOf := fun _ h => List.mem_cons_of_mem _ (List.mem_append_left _ (List.mem_append_left _ (List.mem_append_left _ (List.mem_append_right _ h))))
  unfold f_X8_claimOf at hf
  refine lv_aload_n hx hb dX8_claimOf_0 rfl (lv_at hl 0 rfl) ?_
  refine x_get (j := 1) (v := .ref (G.2.1 1)) hx hb hts hi8 hown hK hP zkL_0 rfl (by decide) (hts (.fieldLink RX8 20 "LeaseOffice" "office" "LLeaseOffice$Office;") (by decide +kernel)) rfl (by decide) dX8_claimOf_1 ?_
  refine lv_iload_n hx hb dX8_claimOf_4 rfl (lv_at hl 1 rfl) ?_
  obtain ⟨q1, hq1, hf⟩ := zb_e hf
  refine x_calli (x_runV (As := [.int x1]) (rest := []) ⟨hx, hb, hml, hown, hts⟩ (c_X2_isTool l G hG I J 1 x1 zkL_1 hq1) (cwV 1 hts gX8_claimOf_X2_isTool rfl rfl rfl (by decide +kernel) ⟨Nat.le_of_ble_eq_true rfl, Nat.le_of_ble_eq_true rfl⟩) hK hP zkL_1 (by decide) rfl rfl hl.1 rfl (Nat.le_of_ble_eq_true rfl) dX8_claimOf_5 ⟨Nat.zero_le _, Nat.zero_le _⟩) hS (fun H locs hP hS => ?_)
  refine lv_if_eq (tgt := 31) hx hb dX8_claimOf_8 (by decide) (fun c2 => ?_) (fun c2 => ?_)
  · have hf := zif_t c2 hf
    refine lv_iconst (v := (-1)) hx hb dX8_claimOf_31 (by decide) ?_
    obtain rfl := Option.some.inj hf
    exact x_iret hx hb hr hlocks hK hP hS dX8_claimOf_32
  · have hf := zif_f c2 hf
    refine lv_aload_n hx hb dX8_claimOf_11 rfl (lv_at hl 0 rfl) ?_
    refine x_get (j := 1) (v := .ref (G.2.1 1)) hx hb hts hi8 hown hK hP zkL_0 rfl (by decide) (hts (.fieldLink RX8 20 "LeaseOffice" "office" "LLeaseOffice$Office;") (by decide +kernel)) rfl (by decide) dX8_claimOf_12 ?_
    refine lv_iload_n hx hb dX8_claimOf_15 rfl (lv_at hl 1 rfl) ?_
    obtain ⟨q3, hq3, hf⟩ := zb_e hf
    refine x_callr (x_runV (As := [.int x1]) (rest := []) ⟨hx, hb, hml, hown, hts⟩ (c_X2_toolAt l G hG I J 1 x1 zkL_1 hq3) (cwV 1 hts gX8_claimOf_X2_toolAt rfl rfl rfl (by decide +kernel) ⟨Nat.le_of_ble_eq_true rfl, Nat.le_of_ble_eq_true rfl⟩) hK hP zkL_1 (by decide) rfl rfl hl.1 rfl (Nat.le_of_ble_eq_true rfl) dX8_claimOf_16 ⟨Nat.zero_le _, Nat.zero_le _⟩) hS (fun H locs hP hS => ?_)
    refine x_get (j := 9) (v := .ref (G.2.1 (q3 + 5))) hx hb hts hi7 hown hK hP (kd_X2_toolAt zkL_1 hq3) rfl (by decide) (hts (.fieldLink RX8 130 "LeaseOffice$Tool" "claims" "LLeaseOffice$Table;") (by decide +kernel)) rfl (by decide) dX8_claimOf_19 ?_
    refine lv_iload_n hx hb dX8_claimOf_22 rfl (lv_at hl 2 rfl) ?_
    refine lv_iload_n hx hb dX8_claimOf_23 rfl (lv_at hl 3 rfl) ?_
    refine lv_iconst (v := 3) hx hb dX8_claimOf_24 (by decide) ?_
    obtain ⟨q4, hq4, hf⟩ := zb_e hf
    refine x_calli (x_runS (As := [.ref (G.2.1 (q3 + 5)), .int x2, .int x3, .int 3]) (rest := []) ⟨hx, hb, hml, hown, hts⟩ (c_X8_entryOf l G hG I J (q3 + 5) x2 x3 3 (zk_7_9 (kd_X2_toolAt zkL_1 hq3)) hq4) (va_cwS 4 hts gX8_claimOf_X8_entryOf rfl rfl rfl (by decide +kernel) ⟨Nat.le_of_ble_eq_true rfl, Nat.le_of_ble_eq_true rfl⟩) hK hP rfl hl.1 rfl (Nat.le_of_ble_eq_true rfl) dX8_claimOf_25 ⟨Nat.zero_le _, Nat.zero_le _⟩) hS (fun H locs hP hS => ?_)
    refine lv_goto (tgt := 32) hx hb dX8_claimOf_28 (by decide) ?_
    obtain rfl := Option.some.inj hf
    exact x_iret hx hb hr hlocks hK hP hS dX8_claimOf_32
set_option maxRecDepth 100000 in
set_option maxHeartbeats 4000000 in
theorem c_X8_holdersInUse (l : Launch) (G : zGT) (hG : zOK G) (I J : zM) {r : Int32} (hf : f_X8_holdersInUse I = some r) : Met l yX8_holdersInUse wsX8_holdersInUse (zrm 1 21) (va_Pc [.ref (G.2.1 0)] (zS G I J)) (zQi G r I J) 0 0 (zA G) := by
  refine zMet (cc := cX8_holdersInUse) (n := 3) (ret := (some .int)) (by decide) rfl (Nat.le_of_ble_eq_true rfl) ?_
  intro p e s m args below meth c H locs ls F hK hP hS hl
  obtain ⟨hx, hb, hr, hml, hts, hown, hlocks⟩ := F
  have hown : s.vm.findClass RX8 = some m.cls := hown
  have hl : lv_has ls 3 [(0, .ref (G.2.1 0))] := hl
  have hi1 : ∀ w ∈ wsX10, w ∈ wsX8_holdersInUse := fun _ h => List.mem_cons_of_mem _ (List.mem_append_left _ (List.mem_append_right _ h))
  have L4 : ∀ (n : Nat) (y1 : Int32) (y2 : Int32) (H : Heap) (locs : List Loc) (ls : Array Slot), f_X8_holdersInUse_l4 I n y1 y2 = some r → va_P G.1 vwCl (zW G I J) H → va_S (zA G) s.heap H locs → lv_has ls 3 [(0, .ref (G.2.1 0)), (1, .int y1), (2, .int y2)] → W p l e (zrm 1 21) s m args below meth c H locs 0 0 (MQ below (zQi G r I J) args s 0 0 (zA G)) (F0 m 4 ls []) := by
    intro n
    induction n with
    | zero =>
      intro y1 y2 H locs ls hf
      rw [f_X8_holdersInUse_l4] at hf
      cases hf
    | succ n ih =>
      intro y1 y2 H locs ls hf hP hS hl
      rw [f_X8_holdersInUse_l4] at hf
      refine lv_iload_n hx hb dX8_holdersInUse_4 rfl (lv_at hl 2 rfl) ?_
      refine lv_bipush (v := 6) hx hb dX8_holdersInUse_5 (by decide) ?_
      refine lv_icmp_ge (tgt := 30) hx hb dX8_holdersInUse_7 (by decide) (fun c1 => ?_) (fun c1 => ?_)
      · have hf := zif_t c1 hf
        refine lv_iload_n hx hb dX8_holdersInUse_30 rfl (lv_at hl 1 rfl) ?_
        obtain rfl := Option.some.inj hf
        exact x_iret hx hb hr hlocks hK hP hS dX8_holdersInUse_31
      · have hf := zif_f c1 hf
        refine lv_aload_n hx hb dX8_holdersInUse_10 rfl (lv_at hl 0 rfl) ?_
        refine lv_iload_n hx hb dX8_holdersInUse_11 rfl (lv_at hl 2 rfl) ?_
        obtain ⟨q2, hq2, hf⟩ := zb_e hf
        refine x_callr (x_runV (As := [.int y2]) (rest := []) ⟨hx, hb, hml, hown, hts⟩ (c_X8_holderAt l G hG I J y2 hq2) (cwV 1 hts gX8_holdersInUse_X8_holderAt rfl rfl rfl (by decide +kernel) ⟨Nat.le_of_ble_eq_true rfl, Nat.le_of_ble_eq_true rfl⟩) hK hP zkL_0 (by decide) rfl rfl hl.1 rfl (Nat.le_of_ble_eq_true rfl) dX8_holdersInUse_12 ⟨Nat.zero_le _, Nat.zero_le _⟩) hS (fun H locs hP hS => ?_)
        refine x_get (j := 0) (v := .int (I q2 0)) hx hb hts hi1 hown hK hP (kd_X8_holderAt hq2) rfl (by decide) (hts (.fieldLink RX8 229 "LeaseOffice$Holder" "sort" "I") (by decide +kernel)) rfl (by decide) dX8_holdersInUse_15 ?_
        refine lv_if_eq (tgt := 24) hx hb dX8_holdersInUse_18 (by decide) (fun c3 => ?_) (fun c3 => ?_)
        · have hf := zif_t c3 hf
          refine lv_iinc (v := (y2 + 1)) (lv' := [(2, .int (y2 + 1)), (0, .ref (G.2.1 0)), (1, .int y1)]) hx hb dX8_holdersInUse_24 hl (k := 2) rfl rfl (by decide) rfl (fun ls hl => ?_)
          refine lv_goto (tgt := 4) hx hb dX8_holdersInUse_27 (by decide) ?_
          exact ih y1 (y2 + 1) H locs ls hf hP hS (lv_sub hl [1, 2, 0] rfl)
        · have hf := zif_f c3 hf
          refine lv_iinc (v := (y1 + 1)) (lv' := [(1, .int (y1 + 1)), (0, .ref (G.2.1 0)), (2, .int y2)]) hx hb dX8_holdersInUse_21 hl (k := 1) rfl rfl (by decide) rfl (fun ls hl => ?_)
          refine lv_iinc (v := (y2 + 1)) (lv' := [(2, .int (y2 + 1)), (1, .int (y1 + 1)), (0, .ref (G.2.1 0))]) hx hb dX8_holdersInUse_24 hl (k := 2) rfl rfl (by decide) rfl (fun ls hl => ?_)
          refine lv_goto (tgt := 4) hx hb dX8_holdersInUse_27 (by decide) ?_
          exact ih (y1 + 1) (y2 + 1) H locs ls hf hP hS (lv_sub hl [2, 1, 0] rfl)
  unfold f_X8_holdersInUse at hf
  refine lv_iconst (v := 0) hx hb dX8_holdersInUse_0 (by decide) ?_
  refine lv_istore_n (lv' := [(1, .int 0), (0, .ref (G.2.1 0))]) hx hb dX8_holdersInUse_1 rfl hl (by decide) rfl (fun ls hl => ?_)
  refine lv_iconst (v := 0) hx hb dX8_holdersInUse_2 (by decide) ?_
  refine lv_istore_n (lv' := [(2, .int 0), (1, .int 0), (0, .ref (G.2.1 0))]) hx hb dX8_holdersInUse_3 rfl hl (by decide) rfl (fun ls hl => ?_)
  exact L4 zFu 0 0 H locs ls hf hP hS (lv_sub hl [2, 1, 0] rfl)
set_option maxRecDepth 100000 in
set_option maxHeartbeats 4000000 in
theorem c_X8_count (l : Launch) (G : zGT) (hG : zOK G) (I J : zM) (x1 : Int32) {r : Int32} (hf : f_X8_count I x1 = some r) : Met l yX8_count wsX8_count (zrm 2 43) (va_Pc [.ref (G.2.1 0), .int x1] (zS G I J)) (zQi G r I J) 0 0 (zA G) := by
  refine zMet (cc := cX8_count) (n := 2) (ret := (some .int)) (by decide) rfl (Nat.le_of_ble_eq_true rfl) ?_
  intro p e s m args below meth c H locs ls F hK hP hS hl
  obtain ⟨hx, hb, hr, hml, hts, hown, hlocks⟩ := F
  have hown : s.vm.findClass RX8 = some m.cls := hown
  have hl : lv_has ls 2 [(0, .ref (G.2.1 0)), (1, .int x1)] := hl
  have hi2 : ∀ w ∈ wsX20, w ∈ wsX8_count := fun _ h => List.mem_cons_of_mem _ (List.mem_append_left _ (List.mem_append_left _ (List.mem_append_left _ (List.mem_append_left _ (List.mem_append_left _ (List.mem_append_right _ h))))))
  have hi8 : ∀ w ∈ wsX80, w ∈ wsX8_count := fun _ h => List.mem_cons_of_mem _ (List.mem_append_left _ (List.mem_append_left _ (List.mem_append_left _ (List.mem_append_left _ (List.mem_append_left _ (List.mem_append_left _ (List.mem_append_right _ h)))))))
  unfold f_X8_count at hf
  refine lv_iload_n hx hb dX8_count_0 rfl (lv_at hl 1 rfl) ?_
  rcases Classical.em (x1 = 0) with c6 | c6
  · have hf := zif_t c6 hf
    refine lv_tableIn (off := 51) (tgt := 52) hx hb dX8_count_1 (by rw [c6]; decide) (by rw [c6]; decide) (by rw [c6]; decide) (by decide) ?_
    refine lv_aload_n hx hb dX8_count_52 rfl (lv_at hl 0 rfl) ?_
    refine x_get (j := 1) (v := .ref (G.2.1 1)) hx hb hts hi8 hown hK hP zkL_0 rfl (by decide) (hts (.fieldLink RX8 20 "LeaseOffice" "office" "LLeaseOffice$Office;") (by decide +kernel)) rfl (by decide) dX8_count_53 ?_
    refine x_get (j := 5) (v := .int (I 1 5)) hx hb hts hi2 hown hK hP zkL_1 rfl (by decide) (hts (.fieldLink RX8 232 "LeaseOffice$Office" "personCount" "I") (by decide +kernel)) rfl (by decide) dX8_count_56 ?_
    obtain rfl := Option.some.inj hf
    exact x_iret hx hb hr hlocks hK hP hS dX8_count_59
  · have hf := zif_f c6 hf
    rcases Classical.em (x1 = 1) with c7 | c7
    · have hf := zif_t c7 hf
      refine lv_tableIn (off := 59) (tgt := 60) hx hb dX8_count_1 (by rw [c7]; decide) (by rw [c7]; decide) (by rw [c7]; decide) (by decide) ?_
      refine lv_aload_n hx hb dX8_count_60 rfl (lv_at hl 0 rfl) ?_
      refine x_get (j := 1) (v := .ref (G.2.1 1)) hx hb hts hi8 hown hK hP zkL_0 rfl (by decide) (hts (.fieldLink RX8 20 "LeaseOffice" "office" "LLeaseOffice$Office;") (by decide +kernel)) rfl (by decide) dX8_count_61 ?_
      refine x_get (j := 6) (v := .int (I 1 6)) hx hb hts hi2 hown hK hP zkL_1 rfl (by decide) (hts (.fieldLink RX8 288 "LeaseOffice$Office" "toolCount" "I") (by decide +kernel)) rfl (by decide) dX8_count_64 ?_
      obtain rfl := Option.some.inj hf
      exact x_iret hx hb hr hlocks hK hP hS dX8_count_67
    · have hf := zif_f c7 hf
      rcases Classical.em (x1 = 2) with c8 | c8
      · have hf := zif_t c8 hf
        refine lv_tableIn (off := 67) (tgt := 68) hx hb dX8_count_1 (by rw [c8]; decide) (by rw [c8]; decide) (by rw [c8]; decide) (by decide) ?_
        refine lv_aload_n hx hb dX8_count_68 rfl (lv_at hl 0 rfl) ?_
        refine x_get (j := 0) (v := .ref (G.2.1 328)) hx hb hts hi8 hown hK hP zkL_0 rfl (by decide) (hts (.fieldLink RX8 12 "LeaseOffice" "thought" "LLeaseOffice$Thought;") (by decide +kernel)) rfl (by decide) dX8_count_69 ?_
        obtain ⟨q1, hq1, hf⟩ := zb_e hf
        refine x_calli (x_runV (As := []) (rest := []) ⟨hx, hb, hml, hown, hts⟩ (c_X6_leasedCount l G hG I J hq1) (cwV 0 hts gX8_count_X6_leasedCount rfl rfl rfl (by decide +kernel) ⟨Nat.le_of_ble_eq_true rfl, Nat.le_of_ble_eq_true rfl⟩) hK hP zkL_328 (by decide) rfl rfl hl.1 rfl (Nat.le_of_ble_eq_true rfl) dX8_count_72 ⟨Nat.zero_le _, Nat.zero_le _⟩) hS (fun H locs hP hS => ?_)
        obtain rfl := Option.some.inj hf
        exact x_iret hx hb hr hlocks hK hP hS dX8_count_75
      · have hf := zif_f c8 hf
        rcases Classical.em (x1 = 3) with c9 | c9
        · have hf := zif_t c9 hf
          refine lv_tableIn (off := 75) (tgt := 76) hx hb dX8_count_1 (by rw [c9]; decide) (by rw [c9]; decide) (by rw [c9]; decide) (by decide) ?_
          refine lv_aload_n hx hb dX8_count_76 rfl (lv_at hl 0 rfl) ?_
          refine x_get (j := 0) (v := .ref (G.2.1 328)) hx hb hts hi8 hown hK hP zkL_0 rfl (by decide) (hts (.fieldLink RX8 12 "LeaseOffice" "thought" "LLeaseOffice$Thought;") (by decide +kernel)) rfl (by decide) dX8_count_77 ?_
          obtain ⟨q2, hq2, hf⟩ := zb_e hf
          refine x_calli (x_runV (As := []) (rest := []) ⟨hx, hb, hml, hown, hts⟩ (c_X6_claimCount l G hG I J hq2) (cwV 0 hts gX8_count_X6_claimCount rfl rfl rfl (by decide +kernel) ⟨Nat.le_of_ble_eq_true rfl, Nat.le_of_ble_eq_true rfl⟩) hK hP zkL_328 (by decide) rfl rfl hl.1 rfl (Nat.le_of_ble_eq_true rfl) dX8_count_80 ⟨Nat.zero_le _, Nat.zero_le _⟩) hS (fun H locs hP hS => ?_)
          obtain rfl := Option.some.inj hf
          exact x_iret hx hb hr hlocks hK hP hS dX8_count_83
        · have hf := zif_f c9 hf
          rcases Classical.em (x1 = 4) with c10 | c10
          · have hf := zif_t c10 hf
            refine lv_tableIn (off := 83) (tgt := 84) hx hb dX8_count_1 (by rw [c10]; decide) (by rw [c10]; decide) (by rw [c10]; decide) (by decide) ?_
            refine lv_aload_n hx hb dX8_count_84 rfl (lv_at hl 0 rfl) ?_
            refine x_get (j := 1) (v := .ref (G.2.1 1)) hx hb hts hi8 hown hK hP zkL_0 rfl (by decide) (hts (.fieldLink RX8 20 "LeaseOffice" "office" "LLeaseOffice$Office;") (by decide +kernel)) rfl (by decide) dX8_count_85 ?_
            refine x_get (j := 7) (v := .int (I 1 7)) hx hb hts hi2 hown hK hP zkL_1 rfl (by decide) (hts (.fieldLink RX8 195 "LeaseOffice$Office" "day" "I") (by decide +kernel)) rfl (by decide) dX8_count_88 ?_
            obtain rfl := Option.some.inj hf
            exact x_iret hx hb hr hlocks hK hP hS dX8_count_91
          · have hf := zif_f c10 hf
            rcases Classical.em (x1 = 5) with c11 | c11
            · have hf := zif_t c11 hf
              refine lv_tableIn (off := 91) (tgt := 92) hx hb dX8_count_1 (by rw [c11]; decide) (by rw [c11]; decide) (by rw [c11]; decide) (by decide) ?_
              refine lv_aload_n hx hb dX8_count_92 rfl (lv_at hl 0 rfl) ?_
              refine x_get (j := 1) (v := .ref (G.2.1 1)) hx hb hts hi8 hown hK hP zkL_0 rfl (by decide) (hts (.fieldLink RX8 20 "LeaseOffice" "office" "LLeaseOffice$Office;") (by decide +kernel)) rfl (by decide) dX8_count_93 ?_
              refine x_get (j := 8) (v := .int (I 1 8)) hx hb hts hi2 hown hK hP zkL_1 rfl (by decide) (hts (.fieldLink RX8 297 "LeaseOffice$Office" "till" "I") (by decide +kernel)) rfl (by decide) dX8_count_96 ?_
              obtain rfl := Option.some.inj hf
              exact x_iret hx hb hr hlocks hK hP hS dX8_count_99
            · have hf := zif_f c11 hf
              rcases Classical.em (x1 = 6) with c12 | c12
              · have hf := zif_t c12 hf
                refine lv_tableIn (off := 99) (tgt := 100) hx hb dX8_count_1 (by rw [c12]; decide) (by rw [c12]; decide) (by rw [c12]; decide) (by decide) ?_
                refine lv_aload_n hx hb dX8_count_100 rfl (lv_at hl 0 rfl) ?_
                refine x_get (j := 0) (v := .ref (G.2.1 328)) hx hb hts hi8 hown hK hP zkL_0 rfl (by decide) (hts (.fieldLink RX8 12 "LeaseOffice" "thought" "LLeaseOffice$Thought;") (by decide +kernel)) rfl (by decide) dX8_count_101 ?_
                obtain ⟨q3, hq3, hf⟩ := zb_e hf
                refine x_calli (x_runV (As := []) (rest := []) ⟨hx, hb, hml, hown, hts⟩ (c_X6_allDebts l G hG I J hq3) (cwV 0 hts gX8_count_X6_allDebts rfl rfl rfl (by decide +kernel) ⟨Nat.le_of_ble_eq_true rfl, Nat.le_of_ble_eq_true rfl⟩) hK hP zkL_328 (by decide) rfl rfl hl.1 rfl (Nat.le_of_ble_eq_true rfl) dX8_count_104 ⟨Nat.zero_le _, Nat.zero_le _⟩) hS (fun H locs hP hS => ?_)
                obtain rfl := Option.some.inj hf
                exact x_iret hx hb hr hlocks hK hP hS dX8_count_107
              · have hf := zif_f c12 hf
                rcases Classical.em (x1 = 7) with c13 | c13
                · have hf := zif_t c13 hf
                  refine lv_tableIn (off := 107) (tgt := 108) hx hb dX8_count_1 (by rw [c13]; decide) (by rw [c13]; decide) (by rw [c13]; decide) (by decide) ?_
                  refine lv_aload_n hx hb dX8_count_108 rfl (lv_at hl 0 rfl) ?_
                  refine x_get (j := 5) (v := .ref (G.2.1 332)) hx hb hts hi8 hown hK hP zkL_0 rfl (by decide) (hts (.fieldLink RX8 41 "LeaseOffice" "tape" "LLeaseOffice$Table;") (by decide +kernel)) rfl (by decide) dX8_count_109 ?_
                  obtain ⟨q4, hq4, hf⟩ := zb_e hf
                  refine x_calli (x_runV (As := []) (rest := []) ⟨hx, hb, hml, hown, hts⟩ (c_X4_size l G hG I J 332 zkL_332 hq4) (cwV 0 hts gX8_count_X4_size rfl rfl rfl (by decide +kernel) ⟨Nat.le_of_ble_eq_true rfl, Nat.le_of_ble_eq_true rfl⟩) hK hP zkL_332 (by decide) rfl rfl hl.1 rfl (Nat.le_of_ble_eq_true rfl) dX8_count_112 ⟨Nat.zero_le _, Nat.zero_le _⟩) hS (fun H locs hP hS => ?_)
                  obtain rfl := Option.some.inj hf
                  exact x_iret hx hb hr hlocks hK hP hS dX8_count_115
                · have hf := zif_f c13 hf
                  rcases Classical.em (x1 = 8) with c14 | c14
                  · have hf := zif_t c14 hf
                    refine lv_tableIn (off := 115) (tgt := 116) hx hb dX8_count_1 (by rw [c14]; decide) (by rw [c14]; decide) (by rw [c14]; decide) (by decide) ?_
                    refine lv_aload_n hx hb dX8_count_116 rfl (lv_at hl 0 rfl) ?_
                    obtain ⟨q5, hq5, hf⟩ := zb_e hf
                    refine x_calli (x_runV (As := []) (rest := []) ⟨hx, hb, hml, hown, hts⟩ (c_X8_holdersInUse l G hG I J hq5) (cwV 0 hts gX8_count_X8_holdersInUse rfl rfl rfl (by decide +kernel) ⟨Nat.le_of_ble_eq_true rfl, Nat.le_of_ble_eq_true rfl⟩) hK hP zkL_0 (by decide) rfl rfl hl.1 rfl (Nat.le_of_ble_eq_true rfl) dX8_count_117 ⟨Nat.zero_le _, Nat.zero_le _⟩) hS (fun H locs hP hS => ?_)
                    obtain rfl := Option.some.inj hf
                    exact x_iret hx hb hr hlocks hK hP hS dX8_count_120
                  · have hf := zif_f c14 hf
                    have hD : W p l e (zrm 2 43) s m args below meth c H locs 0 0 (MQ below (zQi G r I J) args s 0 0 (zA G)) (F0 m 121 ls []) := by
                      refine lv_iconst (v := (-1)) hx hb dX8_count_121 (by decide) ?_
                      obtain rfl := Option.some.inj hf
                      exact x_iret hx hb hr hlocks hK hP hS dX8_count_122
                    rcases z_sw x1 0 8 9 (by decide) with h | ⟨k, hk, e⟩
                    · exact lv_tableOut hx hb dX8_count_1 h (by decide) hD
                    · match k, hk, e with
                      | 0, _, e => exact absurd (e.trans (by decide)) c6
                      | 1, _, e => exact absurd (e.trans (by decide)) c7
                      | 2, _, e => exact absurd (e.trans (by decide)) c8
                      | 3, _, e => exact absurd (e.trans (by decide)) c9
                      | 4, _, e => exact absurd (e.trans (by decide)) c10
                      | 5, _, e => exact absurd (e.trans (by decide)) c11
                      | 6, _, e => exact absurd (e.trans (by decide)) c12
                      | 7, _, e => exact absurd (e.trans (by decide)) c13
                      | 8, _, e => exact absurd (e.trans (by decide)) c14
                      | _ + 9, hk, _ => exact absurd hk (by omega)
set_option maxRecDepth 100000 in
set_option maxHeartbeats 4000000 in
theorem c_X8_days (l : Launch) (G : zGT) (hG : zOK G) (I J : zM) (x1 : Int32) {r : Int32 × zM} (hf : f_X8_days I x1 = some r) : Met l yX8_days wsX8_days (zrm 1 21) (va_Pc [.ref (G.2.1 0), .int x1] (zS G I J)) (zQi G r.1 r.2 J) 0 0 (zA G) := by
  refine zMet (cc := cX8_days) (n := 2) (ret := (some .int)) (by decide) rfl (Nat.le_of_ble_eq_true rfl) ?_
  intro p e s m args below meth c H locs ls F hK hP hS hl
  obtain ⟨hx, hb, hr, hml, hts, hown, hlocks⟩ := F
  have hown : s.vm.findClass RX8 = some m.cls := hown
  have hl : lv_has ls 2 [(0, .ref (G.2.1 0)), (1, .int x1)] := hl
  have hi8 : ∀ w ∈ wsX80, w ∈ wsX8_days := fun _ h => List.mem_cons_of_mem _ (List.mem_append_left _ (List.mem_append_right _ h))
  unfold f_X8_days at hf
  refine lv_aload_n hx hb dX8_days_0 rfl (lv_at hl 0 rfl) ?_
  refine x_get (j := 1) (v := .ref (G.2.1 1)) hx hb hts hi8 hown hK hP zkL_0 rfl (by decide) (hts (.fieldLink RX8 20 "LeaseOffice" "office" "LLeaseOffice$Office;") (by decide +kernel)) rfl (by decide) dX8_days_1 ?_
  refine lv_iload_n hx hb dX8_days_4 rfl (lv_at hl 1 rfl) ?_
  obtain ⟨q1, hq1, hf⟩ := zb_e hf
  refine x_calli (x_runV (As := [.int x1]) (rest := []) ⟨hx, hb, hml, hown, hts⟩ (c_X2_passDays l G hG I J 1 x1 zkL_1 hq1) (cwV 1 hts gX8_days_X2_passDays rfl rfl rfl (by decide +kernel) ⟨Nat.le_of_ble_eq_true rfl, Nat.le_of_ble_eq_true rfl⟩) hK hP zkL_1 (by decide) rfl rfl hl.1 rfl (Nat.le_of_ble_eq_true rfl) dX8_days_5 ⟨Nat.zero_le _, Nat.zero_le _⟩) hS (fun H locs hP hS => ?_)
  obtain rfl := Option.some.inj hf
  exact x_iret hx hb hr hlocks hK hP hS dX8_days_8
set_option maxRecDepth 100000 in
set_option maxHeartbeats 4000000 in
theorem c_X8_doLine (l : Launch) (G : zGT) (hG : zOK G) (I J : zM) (x1 : Nat) (x2 : Int32) (hk1 : zK x1 = 4) {r : Int32 × zM} (hf : f_X8_doLine I x1 x2 = some r) : Met l yX8_doLine wsX8_doLine (zrm 5 120) (va_Pc [.ref (G.2.1 0), .ref (G.2.1 (x1)), .int x2] (zS G I J)) (zQi G r.1 r.2 J) 0 0 (zA G) := by
  refine zMet (cc := cX8_doLine) (n := 7) (ret := (some .int)) (by decide) rfl (Nat.le_of_ble_eq_true rfl) ?_
  intro p e s m args below meth c H locs ls F hK hP hS hl
  obtain ⟨hx, hb, hr, hml, hts, hown, hlocks⟩ := F
  have hown : s.vm.findClass RX8 = some m.cls := hown
  have hl : lv_has ls 7 [(0, .ref (G.2.1 0)), (1, .ref (G.2.1 (x1))), (2, .int x2)] := hl
  have hi8 : ∀ w ∈ wsX80, w ∈ wsX8_doLine := fun _ h => List.mem_cons_of_mem _ (List.mem_append_left _ (List.mem_append_left _ (List.mem_append_left _ (List.mem_append_left _ (List.mem_append_left _ (List.mem_append_right _ h))))))
  unfold f_X8_doLine at hf
  refine lv_aload_n hx hb dX8_doLine_0 rfl (lv_at hl 1 rfl) ?_
  refine lv_iload_n hx hb dX8_doLine_1 rfl (lv_at hl 2 rfl) ?_
  refine lv_iconst (v := 1) hx hb dX8_doLine_2 (by decide) ?_
  obtain ⟨q1, hq1, hf⟩ := zb_e hf
  refine x_calli (x_runV (As := [.int x2, .int 1]) (rest := []) ⟨hx, hb, hml, hown, hts⟩ (c_X4_cell l G hG I J x1 x2 1 hk1 hq1) (cwV 2 hts gX8_doLine_X4_cell rfl rfl rfl (by decide +kernel) ⟨Nat.le_of_ble_eq_true rfl, Nat.le_of_ble_eq_true rfl⟩) hK hP hk1 (by decide) rfl rfl hl.1 rfl (Nat.le_of_ble_eq_true rfl) dX8_doLine_3 ⟨Nat.zero_le _, Nat.zero_le _⟩) hS (fun H locs hP hS => ?_)
  refine lv_istore_n (lv' := [(3, .int q1), (0, .ref (G.2.1 0)), (1, .ref (G.2.1 (x1))), (2, .int x2)]) hx hb dX8_doLine_6 rfl hl (by decide) rfl (fun ls hl => ?_)
  refine lv_aload_n hx hb dX8_doLine_7 rfl (lv_at hl 2 rfl) ?_
  refine lv_iload_n hx hb dX8_doLine_8 rfl (lv_at hl 3 rfl) ?_
  refine lv_iconst (v := 2) hx hb dX8_doLine_9 (by decide) ?_
  obtain ⟨q2, hq2, hf⟩ := zb_e hf
  refine x_calli (x_runV (As := [.int x2, .int 2]) (rest := []) ⟨hx, hb, hml, hown, hts⟩ (c_X4_cell l G hG I J x1 x2 2 hk1 hq2) (cwV 2 hts gX8_doLine_X4_cell rfl rfl rfl (by decide +kernel) ⟨Nat.le_of_ble_eq_true rfl, Nat.le_of_ble_eq_true rfl⟩) hK hP hk1 (by decide) rfl rfl hl.1 rfl (Nat.le_of_ble_eq_true rfl) dX8_doLine_10 ⟨Nat.zero_le _, Nat.zero_le _⟩) hS (fun H locs hP hS => ?_)
  refine lv_istore (lv' := [(4, .int q2), (3, .int q1), (0, .ref (G.2.1 0)), (1, .ref (G.2.1 (x1))), (2, .int x2)]) hx hb dX8_doLine_13 hl (by decide) rfl (fun ls hl => ?_)
  refine lv_aload_n hx hb dX8_doLine_15 rfl (lv_at hl 3 rfl) ?_
  refine lv_iload_n hx hb dX8_doLine_16 rfl (lv_at hl 4 rfl) ?_
  refine lv_iconst (v := 3) hx hb dX8_doLine_17 (by decide) ?_
  obtain ⟨q3, hq3, hf⟩ := zb_e hf
  refine x_calli (x_runV (As := [.int x2, .int 3]) (rest := []) ⟨hx, hb, hml, hown, hts⟩ (c_X4_cell l G hG I J x1 x2 3 hk1 hq3) (cwV 2 hts gX8_doLine_X4_cell rfl rfl rfl (by decide +kernel) ⟨Nat.le_of_ble_eq_true rfl, Nat.le_of_ble_eq_true rfl⟩) hK hP hk1 (by decide) rfl rfl hl.1 rfl (Nat.le_of_ble_eq_true rfl) dX8_doLine_18 ⟨Nat.zero_le _, Nat.zero_le _⟩) hS (fun H locs hP hS => ?_)
  refine lv_istore (lv' := [(5, .int q3), (4, .int q2), (3, .int q1), (0, .ref (G.2.1 0)), (1, .ref (G.2.1 (x1))), (2, .int x2)]) hx hb dX8_doLine_21 hl (by decide) rfl (fun ls hl => ?_)
  refine lv_aload_n hx hb dX8_doLine_23 rfl (lv_at hl 4 rfl) ?_
  refine lv_iload_n hx hb dX8_doLine_24 rfl (lv_at hl 5 rfl) ?_
  refine lv_iconst (v := 4) hx hb dX8_doLine_25 (by decide) ?_
  obtain ⟨q4, hq4, hf⟩ := zb_e hf
  refine x_calli (x_runV (As := [.int x2, .int 4]) (rest := []) ⟨hx, hb, hml, hown, hts⟩ (c_X4_cell l G hG I J x1 x2 4 hk1 hq4) (cwV 2 hts gX8_doLine_X4_cell rfl rfl rfl (by decide +kernel) ⟨Nat.le_of_ble_eq_true rfl, Nat.le_of_ble_eq_true rfl⟩) hK hP hk1 (by decide) rfl rfl hl.1 rfl (Nat.le_of_ble_eq_true rfl) dX8_doLine_26 ⟨Nat.zero_le _, Nat.zero_le _⟩) hS (fun H locs hP hS => ?_)
  refine lv_istore (lv' := [(6, .int q4), (5, .int q3), (4, .int q2), (3, .int q1), (0, .ref (G.2.1 0)), (1, .ref (G.2.1 (x1))), (2, .int x2)]) hx hb dX8_doLine_29 hl (by decide) rfl (fun ls hl => ?_)
  refine lv_aload_n hx hb dX8_doLine_31 rfl (lv_at hl 5 rfl) ?_
  refine lv_iload_n hx hb dX8_doLine_32 rfl (lv_at hl 6 rfl) ?_
  refine lv_iconst (v := 0) hx hb dX8_doLine_33 (by decide) ?_
  obtain ⟨q5, hq5, hf⟩ := zb_e hf
  refine x_calli (x_runV (As := [.int x2, .int 0]) (rest := []) ⟨hx, hb, hml, hown, hts⟩ (c_X4_cell l G hG I J x1 x2 0 hk1 hq5) (cwV 2 hts gX8_doLine_X4_cell rfl rfl rfl (by decide +kernel) ⟨Nat.le_of_ble_eq_true rfl, Nat.le_of_ble_eq_true rfl⟩) hK hP hk1 (by decide) rfl rfl hl.1 rfl (Nat.le_of_ble_eq_true rfl) dX8_doLine_34 ⟨Nat.zero_le _, Nat.zero_le _⟩) hS (fun H locs hP hS => ?_)
  rcases Classical.em (q5 = 99) with c17 | c17
  · have hf := zif_t c17 hf
    refine lv_tableIn (off := 145) (tgt := 182) hx hb dX8_doLine_37 (by rw [c17]; decide) (by rw [c17]; decide) (by rw [c17]; decide) (by decide) ?_
    refine lv_aload_n hx hb dX8_doLine_182 rfl (lv_at hl 4 rfl) ?_
    refine x_get (j := 1) (v := .ref (G.2.1 1)) hx hb hts hi8 hown hK hP zkL_0 rfl (by decide) (hts (.fieldLink RX8 20 "LeaseOffice" "office" "LLeaseOffice$Office;") (by decide +kernel)) rfl (by decide) dX8_doLine_183 ?_
    refine lv_iload_n hx hb dX8_doLine_186 rfl (lv_at hl 3 rfl) ?_
    refine lv_iload hx hb dX8_doLine_187 (lv_at hl 2 rfl) ?_
    refine lv_iload hx hb dX8_doLine_189 (lv_at hl 1 rfl) ?_
    refine lv_iload hx hb dX8_doLine_191 (lv_at hl 0 rfl) ?_
    obtain ⟨q6, hq6, hf⟩ := zb_e hf
    refine x_calli (x_runV (As := [.int q1, .int q2, .int q3, .int q4]) (rest := []) ⟨hx, hb, hml, hown, hts⟩ (c_X2_enterClaim l G hG I J 1 q1 q2 q3 q4 zkL_1 hq6) (cwV 4 hts gX8_doLine_X2_enterClaim rfl rfl rfl (by decide +kernel) ⟨Nat.le_of_ble_eq_true rfl, Nat.le_of_ble_eq_true rfl⟩) hK hP zkL_1 (by decide) rfl rfl hl.1 rfl (Nat.le_of_ble_eq_true rfl) dX8_doLine_193 ⟨Nat.zero_le _, Nat.zero_le _⟩) hS (fun H locs hP hS => ?_)
    obtain rfl := Option.some.inj hf
    exact x_iret hx hb hr hlocks hK hP hS dX8_doLine_196
  · have hf := zif_f c17 hf
    rcases Classical.em (q5 = 100) with c18 | c18
    · have hf := zif_t c18 hf
      refine lv_tableIn (off := 211) (tgt := 248) hx hb dX8_doLine_37 (by rw [c18]; decide) (by rw [c18]; decide) (by rw [c18]; decide) (by decide) ?_
      refine lv_aload_n hx hb dX8_doLine_248 rfl (lv_at hl 4 rfl) ?_
      refine x_get (j := 1) (v := .ref (G.2.1 1)) hx hb hts hi8 hown hK hP zkL_0 rfl (by decide) (hts (.fieldLink RX8 20 "LeaseOffice" "office" "LLeaseOffice$Office;") (by decide +kernel)) rfl (by decide) dX8_doLine_249 ?_
      refine lv_iload_n hx hb dX8_doLine_252 rfl (lv_at hl 3 rfl) ?_
      obtain ⟨q7, hq7, hf⟩ := zb_e hf
      refine x_calli (x_runV (As := [.int q1]) (rest := []) ⟨hx, hb, hml, hown, hts⟩ (c_X2_passDays l G hG I J 1 q1 zkL_1 hq7) (cwV 1 hts gX8_doLine_X2_passDays rfl rfl rfl (by decide +kernel) ⟨Nat.le_of_ble_eq_true rfl, Nat.le_of_ble_eq_true rfl⟩) hK hP zkL_1 (by decide) rfl rfl hl.1 rfl (Nat.le_of_ble_eq_true rfl) dX8_doLine_253 ⟨Nat.zero_le _, Nat.zero_le _⟩) hS (fun H locs hP hS => ?_)
      obtain rfl := Option.some.inj hf
      exact x_iret hx hb hr hlocks hK hP hS dX8_doLine_256
    · have hf := zif_f c18 hf
      rcases Classical.em (q5 = 103) with c19 | c19
      · have hf := zif_t c19 hf
        refine lv_tableIn (off := 169) (tgt := 206) hx hb dX8_doLine_37 (by rw [c19]; decide) (by rw [c19]; decide) (by rw [c19]; decide) (by decide) ?_
        refine lv_aload_n hx hb dX8_doLine_206 rfl (lv_at hl 4 rfl) ?_
        refine x_get (j := 1) (v := .ref (G.2.1 1)) hx hb hts hi8 hown hK hP zkL_0 rfl (by decide) (hts (.fieldLink RX8 20 "LeaseOffice" "office" "LLeaseOffice$Office;") (by decide +kernel)) rfl (by decide) dX8_doLine_207 ?_
        refine lv_iload_n hx hb dX8_doLine_210 rfl (lv_at hl 3 rfl) ?_
        refine lv_iload hx hb dX8_doLine_211 (lv_at hl 2 rfl) ?_
        obtain ⟨q8, hq8, hf⟩ := zb_e hf
        refine x_calli (x_runV (As := [.int q1, .int q2]) (rest := []) ⟨hx, hb, hml, hown, hts⟩ (c_X2_passOn l G hG I J 1 q1 q2 zkL_1 hq8) (cwV 2 hts gX8_doLine_X2_passOn rfl rfl rfl (by decide +kernel) ⟨Nat.le_of_ble_eq_true rfl, Nat.le_of_ble_eq_true rfl⟩) hK hP zkL_1 (by decide) rfl rfl hl.1 rfl (Nat.le_of_ble_eq_true rfl) dX8_doLine_213 ⟨Nat.zero_le _, Nat.zero_le _⟩) hS (fun H locs hP hS => ?_)
        obtain rfl := Option.some.inj hf
        exact x_iret hx hb hr hlocks hK hP hS dX8_doLine_216
      · have hf := zif_f c19 hf
        rcases Classical.em (q5 = 107) with c20 | c20
        · have hf := zif_t c20 hf
          refine lv_tableIn (off := 202) (tgt := 239) hx hb dX8_doLine_37 (by rw [c20]; decide) (by rw [c20]; decide) (by rw [c20]; decide) (by decide) ?_
          refine lv_aload_n hx hb dX8_doLine_239 rfl (lv_at hl 4 rfl) ?_
          refine x_get (j := 1) (v := .ref (G.2.1 1)) hx hb hts hi8 hown hK hP zkL_0 rfl (by decide) (hts (.fieldLink RX8 20 "LeaseOffice" "office" "LLeaseOffice$Office;") (by decide +kernel)) rfl (by decide) dX8_doLine_240 ?_
          refine lv_iload_n hx hb dX8_doLine_243 rfl (lv_at hl 3 rfl) ?_
          obtain ⟨q9, hq9, hf⟩ := zb_e hf
          refine x_calli (x_runV (As := [.int q1]) (rest := []) ⟨hx, hb, hml, hown, hts⟩ (c_X2_lookAt l G hG I J 1 q1 zkL_1 hq9) (cwV 1 hts gX8_doLine_X2_lookAt rfl rfl rfl (by decide +kernel) ⟨Nat.le_of_ble_eq_true rfl, Nat.le_of_ble_eq_true rfl⟩) hK hP zkL_1 (by decide) rfl rfl hl.1 rfl (Nat.le_of_ble_eq_true rfl) dX8_doLine_244 ⟨Nat.zero_le _, Nat.zero_le _⟩) hS (fun H locs hP hS => ?_)
          obtain rfl := Option.some.inj hf
          exact x_iret hx hb hr hlocks hK hP hS dX8_doLine_247
        · have hf := zif_f c20 hf
          rcases Classical.em (q5 = 108) with c21 | c21
          · have hf := zif_t c21 hf
            refine lv_tableIn (off := 132) (tgt := 169) hx hb dX8_doLine_37 (by rw [c21]; decide) (by rw [c21]; decide) (by rw [c21]; decide) (by decide) ?_
            refine lv_aload_n hx hb dX8_doLine_169 rfl (lv_at hl 4 rfl) ?_
            refine x_get (j := 1) (v := .ref (G.2.1 1)) hx hb hts hi8 hown hK hP zkL_0 rfl (by decide) (hts (.fieldLink RX8 20 "LeaseOffice" "office" "LLeaseOffice$Office;") (by decide +kernel)) rfl (by decide) dX8_doLine_170 ?_
            refine lv_iload_n hx hb dX8_doLine_173 rfl (lv_at hl 3 rfl) ?_
            refine lv_iload hx hb dX8_doLine_174 (lv_at hl 2 rfl) ?_
            refine lv_iload hx hb dX8_doLine_176 (lv_at hl 1 rfl) ?_
            obtain ⟨q10, hq10, hf⟩ := zb_e hf
            refine x_calli (x_runV (As := [.int q1, .int q2, .int q3]) (rest := []) ⟨hx, hb, hml, hown, hts⟩ (c_X2_leaseTo l G hG I J 1 q1 q2 q3 zkL_1 hq10) (cwV 3 hts gX8_doLine_X2_leaseTo rfl rfl rfl (by decide +kernel) ⟨Nat.le_of_ble_eq_true rfl, Nat.le_of_ble_eq_true rfl⟩) hK hP zkL_1 (by decide) rfl rfl hl.1 rfl (Nat.le_of_ble_eq_true rfl) dX8_doLine_178 ⟨Nat.zero_le _, Nat.zero_le _⟩) hS (fun H locs hP hS => ?_)
            obtain rfl := Option.some.inj hf
            exact x_iret hx hb hr hlocks hK hP hS dX8_doLine_181
          · have hf := zif_f c21 hf
            rcases Classical.em (q5 = 112) with c22 | c22
            · have hf := zif_t c22 hf
              refine lv_tableIn (off := 99) (tgt := 136) hx hb dX8_doLine_37 (by rw [c22]; decide) (by rw [c22]; decide) (by rw [c22]; decide) (by decide) ?_
              refine lv_aload_n hx hb dX8_doLine_136 rfl (lv_at hl 4 rfl) ?_
              refine x_get (j := 1) (v := .ref (G.2.1 1)) hx hb hts hi8 hown hK hP zkL_0 rfl (by decide) (hts (.fieldLink RX8 20 "LeaseOffice" "office" "LLeaseOffice$Office;") (by decide +kernel)) rfl (by decide) dX8_doLine_137 ?_
              refine lv_iload_n hx hb dX8_doLine_140 rfl (lv_at hl 3 rfl) ?_
              refine lv_iload hx hb dX8_doLine_141 (lv_at hl 2 rfl) ?_
              obtain ⟨q11, hq11, hf⟩ := zb_e hf
              refine x_calli (x_runV (As := [.int q1, .int q2]) (rest := []) ⟨hx, hb, hml, hown, hts⟩ (c_X2_enterPerson l G hG I J 1 q1 q2 zkL_1 hq11) (cwV 2 hts gX8_doLine_X2_enterPerson rfl rfl rfl (by decide +kernel) ⟨Nat.le_of_ble_eq_true rfl, Nat.le_of_ble_eq_true rfl⟩) hK hP zkL_1 (by decide) rfl rfl hl.1 rfl (Nat.le_of_ble_eq_true rfl) dX8_doLine_143 ⟨Nat.zero_le _, Nat.zero_le _⟩) hS (fun H locs hP hS => ?_)
              obtain rfl := Option.some.inj hf
              exact x_iret hx hb hr hlocks hK hP hS dX8_doLine_146
            · have hf := zif_f c22 hf
              rcases Classical.em (q5 = 114) with c23 | c23
              · have hf := zif_t c23 hf
                refine lv_tableIn (off := 160) (tgt := 197) hx hb dX8_doLine_37 (by rw [c23]; decide) (by rw [c23]; decide) (by rw [c23]; decide) (by decide) ?_
                refine lv_aload_n hx hb dX8_doLine_197 rfl (lv_at hl 4 rfl) ?_
                refine x_get (j := 1) (v := .ref (G.2.1 1)) hx hb hts hi8 hown hK hP zkL_0 rfl (by decide) (hts (.fieldLink RX8 20 "LeaseOffice" "office" "LLeaseOffice$Office;") (by decide +kernel)) rfl (by decide) dX8_doLine_198 ?_
                refine lv_iload_n hx hb dX8_doLine_201 rfl (lv_at hl 3 rfl) ?_
                obtain ⟨q12, hq12, hf⟩ := zb_e hf
                refine x_calli (x_runV (As := [.int q1]) (rest := []) ⟨hx, hb, hml, hown, hts⟩ (c_X2_giveBack l G hG I J 1 q1 zkL_1 hq12) (cwV 1 hts gX8_doLine_X2_giveBack rfl rfl rfl (by decide +kernel) ⟨Nat.le_of_ble_eq_true rfl, Nat.le_of_ble_eq_true rfl⟩) hK hP zkL_1 (by decide) rfl rfl hl.1 rfl (Nat.le_of_ble_eq_true rfl) dX8_doLine_202 ⟨Nat.zero_le _, Nat.zero_le _⟩) hS (fun H locs hP hS => ?_)
                obtain rfl := Option.some.inj hf
                exact x_iret hx hb hr hlocks hK hP hS dX8_doLine_205
              · have hf := zif_f c23 hf
                rcases Classical.em (q5 = 115) with c24 | c24
                · have hf := zif_t c24 hf
                  refine lv_tableIn (off := 180) (tgt := 217) hx hb dX8_doLine_37 (by rw [c24]; decide) (by rw [c24]; decide) (by rw [c24]; decide) (by decide) ?_
                  refine lv_aload_n hx hb dX8_doLine_217 rfl (lv_at hl 4 rfl) ?_
                  refine x_get (j := 1) (v := .ref (G.2.1 1)) hx hb hts hi8 hown hK hP zkL_0 rfl (by decide) (hts (.fieldLink RX8 20 "LeaseOffice" "office" "LLeaseOffice$Office;") (by decide +kernel)) rfl (by decide) dX8_doLine_218 ?_
                  refine lv_iload_n hx hb dX8_doLine_221 rfl (lv_at hl 3 rfl) ?_
                  refine lv_iload hx hb dX8_doLine_222 (lv_at hl 2 rfl) ?_
                  obtain ⟨q13, hq13, hf⟩ := zb_e hf
                  refine x_calli (x_runV (As := [.int q1, .int q2]) (rest := []) ⟨hx, hb, hml, hown, hts⟩ (c_X2_exchange l G hG I J 1 q1 q2 zkL_1 hq13) (cwV 2 hts gX8_doLine_X2_exchange rfl rfl rfl (by decide +kernel) ⟨Nat.le_of_ble_eq_true rfl, Nat.le_of_ble_eq_true rfl⟩) hK hP zkL_1 (by decide) rfl rfl hl.1 rfl (Nat.le_of_ble_eq_true rfl) dX8_doLine_224 ⟨Nat.zero_le _, Nat.zero_le _⟩) hS (fun H locs hP hS => ?_)
                  obtain rfl := Option.some.inj hf
                  exact x_iret hx hb hr hlocks hK hP hS dX8_doLine_227
                · have hf := zif_f c24 hf
                  rcases Classical.em (q5 = 116) with c25 | c25
                  · have hf := zif_t c25 hf
                    refine lv_tableIn (off := 110) (tgt := 147) hx hb dX8_doLine_37 (by rw [c25]; decide) (by rw [c25]; decide) (by rw [c25]; decide) (by decide) ?_
                    refine lv_aload_n hx hb dX8_doLine_147 rfl (lv_at hl 4 rfl) ?_
                    refine x_get (j := 1) (v := .ref (G.2.1 1)) hx hb hts hi8 hown hK hP zkL_0 rfl (by decide) (hts (.fieldLink RX8 20 "LeaseOffice" "office" "LLeaseOffice$Office;") (by decide +kernel)) rfl (by decide) dX8_doLine_148 ?_
                    refine lv_iload_n hx hb dX8_doLine_151 rfl (lv_at hl 3 rfl) ?_
                    obtain ⟨q14, hq14, hf⟩ := zb_e hf
                    refine x_calli (x_runV (As := [.int q1]) (rest := []) ⟨hx, hb, hml, hown, hts⟩ (c_X2_enterTool l G hG I J 1 q1 zkL_1 hq14) (cwV 1 hts gX8_doLine_X2_enterTool rfl rfl rfl (by decide +kernel) ⟨Nat.le_of_ble_eq_true rfl, Nat.le_of_ble_eq_true rfl⟩) hK hP zkL_1 (by decide) rfl rfl hl.1 rfl (Nat.le_of_ble_eq_true rfl) dX8_doLine_152 ⟨Nat.zero_le _, Nat.zero_le _⟩) hS (fun H locs hP hS => ?_)
                    obtain rfl := Option.some.inj hf
                    exact x_iret hx hb hr hlocks hK hP hS dX8_doLine_155
                  · have hf := zif_f c25 hf
                    rcases Classical.em (q5 = 117) with c26 | c26
                    · have hf := zif_t c26 hf
                      refine lv_tableIn (off := 191) (tgt := 228) hx hb dX8_doLine_37 (by rw [c26]; decide) (by rw [c26]; decide) (by rw [c26]; decide) (by decide) ?_
                      refine lv_aload_n hx hb dX8_doLine_228 rfl (lv_at hl 4 rfl) ?_
                      refine x_get (j := 1) (v := .ref (G.2.1 1)) hx hb hts hi8 hown hK hP zkL_0 rfl (by decide) (hts (.fieldLink RX8 20 "LeaseOffice" "office" "LLeaseOffice$Office;") (by decide +kernel)) rfl (by decide) dX8_doLine_229 ?_
                      refine lv_iload_n hx hb dX8_doLine_232 rfl (lv_at hl 3 rfl) ?_
                      refine lv_iload hx hb dX8_doLine_233 (lv_at hl 2 rfl) ?_
                      obtain ⟨q15, hq15, hf⟩ := zb_e hf
                      refine x_calli (x_runV (As := [.int q1, .int q2]) (rest := []) ⟨hx, hb, hml, hown, hts⟩ (c_X2_wearDown l G hG I J 1 q1 q2 zkL_1 hq15) (cwV 2 hts gX8_doLine_X2_wearDown rfl rfl rfl (by decide +kernel) ⟨Nat.le_of_ble_eq_true rfl, Nat.le_of_ble_eq_true rfl⟩) hK hP zkL_1 (by decide) rfl rfl hl.1 rfl (Nat.le_of_ble_eq_true rfl) dX8_doLine_235 ⟨Nat.zero_le _, Nat.zero_le _⟩) hS (fun H locs hP hS => ?_)
                      obtain rfl := Option.some.inj hf
                      exact x_iret hx hb hr hlocks hK hP hS dX8_doLine_238
                    · have hf := zif_f c26 hf
                      rcases Classical.em (q5 = 119) with c27 | c27
                      · have hf := zif_t c27 hf
                        refine lv_tableIn (off := 119) (tgt := 156) hx hb dX8_doLine_37 (by rw [c27]; decide) (by rw [c27]; decide) (by rw [c27]; decide) (by decide) ?_
                        refine lv_aload_n hx hb dX8_doLine_156 rfl (lv_at hl 4 rfl) ?_
                        refine x_get (j := 1) (v := .ref (G.2.1 1)) hx hb hts hi8 hown hK hP zkL_0 rfl (by decide) (hts (.fieldLink RX8 20 "LeaseOffice" "office" "LLeaseOffice$Office;") (by decide +kernel)) rfl (by decide) dX8_doLine_157 ?_
                        refine lv_iload_n hx hb dX8_doLine_160 rfl (lv_at hl 3 rfl) ?_
                        refine lv_iload hx hb dX8_doLine_161 (lv_at hl 2 rfl) ?_
                        refine lv_iload hx hb dX8_doLine_163 (lv_at hl 1 rfl) ?_
                        obtain ⟨q16, hq16, hf⟩ := zb_e hf
                        refine x_calli (x_runV (As := [.int q1, .int q2, .int q3]) (rest := []) ⟨hx, hb, hml, hown, hts⟩ (c_X2_setWish l G hG I J 1 q1 q2 q3 zkL_1 hq16) (cwV 3 hts gX8_doLine_X2_setWish rfl rfl rfl (by decide +kernel) ⟨Nat.le_of_ble_eq_true rfl, Nat.le_of_ble_eq_true rfl⟩) hK hP zkL_1 (by decide) rfl rfl hl.1 rfl (Nat.le_of_ble_eq_true rfl) dX8_doLine_165 ⟨Nat.zero_le _, Nat.zero_le _⟩) hS (fun H locs hP hS => ?_)
                        obtain rfl := Option.some.inj hf
                        exact x_iret hx hb hr hlocks hK hP hS dX8_doLine_168
                      · have hf := zif_f c27 hf
                        have hD : W p l e (zrm 5 120) s m args below meth c H locs 0 0 (MQ below (zQi G r.1 r.2 J) args s 0 0 (zA G)) (F0 m 257 ls []) := by
                          refine lv_iconst (v := (-1)) hx hb dX8_doLine_257 (by decide) ?_
                          obtain rfl := Option.some.inj hf
                          exact x_iret hx hb hr hlocks hK hP hS dX8_doLine_258
                        rcases z_sw q5 99 119 21 (by decide) with h | ⟨k, hk, e⟩
                        · exact lv_tableOut hx hb dX8_doLine_37 h (by decide) hD
                        · match k, hk, e with
                          | 0, _, e => exact absurd (e.trans (by decide)) c17
                          | 1, _, e => exact absurd (e.trans (by decide)) c18
                          | 2, _, e => exact lv_tableIn (off := 220) (tgt := 257) hx hb dX8_doLine_37 (by rw [e]; decide) (by rw [e]; decide) (by rw [e]; decide) (by decide) hD
                          | 3, _, e => exact lv_tableIn (off := 220) (tgt := 257) hx hb dX8_doLine_37 (by rw [e]; decide) (by rw [e]; decide) (by rw [e]; decide) (by decide) hD
                          | 4, _, e => exact absurd (e.trans (by decide)) c19
                          | 5, _, e => exact lv_tableIn (off := 220) (tgt := 257) hx hb dX8_doLine_37 (by rw [e]; decide) (by rw [e]; decide) (by rw [e]; decide) (by decide) hD
                          | 6, _, e => exact lv_tableIn (off := 220) (tgt := 257) hx hb dX8_doLine_37 (by rw [e]; decide) (by rw [e]; decide) (by rw [e]; decide) (by decide) hD
                          | 7, _, e => exact lv_tableIn (off := 220) (tgt := 257) hx hb dX8_doLine_37 (by rw [e]; decide) (by rw [e]; decide) (by rw [e]; decide) (by decide) hD
                          | 8, _, e => exact absurd (e.trans (by decide)) c20
                          | 9, _, e => exact absurd (e.trans (by decide)) c21
                          | 10, _, e => exact lv_tableIn (off := 220) (tgt := 257) hx hb dX8_doLine_37 (by rw [e]; decide) (by rw [e]; decide) (by rw [e]; decide) (by decide) hD
                          | 11, _, e => exact lv_tableIn (off := 220) (tgt := 257) hx hb dX8_doLine_37 (by rw [e]; decide) (by rw [e]; decide) (by rw [e]; decide) (by decide) hD
                          | 12, _, e => exact lv_tableIn (off := 220) (tgt := 257) hx hb dX8_doLine_37 (by rw [e]; decide) (by rw [e]; decide) (by rw [e]; decide) (by decide) hD
                          | 13, _, e => exact absurd (e.trans (by decide)) c22
                          | 14, _, e => exact lv_tableIn (off := 220) (tgt := 257) hx hb dX8_doLine_37 (by rw [e]; decide) (by rw [e]; decide) (by rw [e]; decide) (by decide) hD
                          | 15, _, e => exact absurd (e.trans (by decide)) c23
                          | 16, _, e => exact absurd (e.trans (by decide)) c24
                          | 17, _, e => exact absurd (e.trans (by decide)) c25
                          | 18, _, e => exact absurd (e.trans (by decide)) c26
                          | 19, _, e => exact lv_tableIn (off := 220) (tgt := 257) hx hb dX8_doLine_37 (by rw [e]; decide) (by rw [e]; decide) (by rw [e]; decide) (by decide) hD
                          | 20, _, e => exact absurd (e.trans (by decide)) c27
                          | _ + 21, hk, _ => exact absurd hk (by omega)
set_option maxRecDepth 100000 in
set_option maxHeartbeats 4000000 in
theorem c_X8_feed (l : Launch) (G : zGT) (hG : zOK G) (I J : zM) (x1 : Int32) {r : Int32 × zM} (hf : f_X8_feed I x1 = some r) : Met l yX8_feed wsX8_feed (zrm 1 24) (va_Pc [.ref (G.2.1 0), .int x1] (zS G I J)) (zQi G r.1 r.2 J) 0 0 (zA G) := by
  refine zMet (cc := cX8_feed) (n := 2) (ret := (some .int)) (by decide) rfl (Nat.le_of_ble_eq_true rfl) ?_
  intro p e s m args below meth c H locs ls F hK hP hS hl
  obtain ⟨hx, hb, hr, hml, hts, hown, hlocks⟩ := F
  have hown : s.vm.findClass RX8 = some m.cls := hown
  have hl : lv_has ls 2 [(0, .ref (G.2.1 0)), (1, .int x1)] := hl
  have hi8 : ∀ w ∈ wsX80, w ∈ wsX8_feed := fun _ h => List.mem_cons_of_mem _ (List.mem_append_left _ (List.mem_append_right _ h))
  unfold f_X8_feed at hf
  refine lv_iload_n hx hb dX8_feed_0 rfl (lv_at hl 1 rfl) ?_
  refine lv_if_lt (tgt := 11) hx hb dX8_feed_1 (by decide) (fun c1 => ?_) (fun c1 => ?_)
  · have hf := zif_t c1 hf
    refine lv_iconst (v := (-1)) hx hb dX8_feed_11 (by decide) ?_
    obtain rfl := Option.some.inj hf
    exact x_iret hx hb hr hlocks hK hP hS dX8_feed_12
  · have hf := zif_f c1 hf
    refine lv_iload_n hx hb dX8_feed_4 rfl (lv_at hl 1 rfl) ?_
    refine lv_sipush (v := 255) hx hb dX8_feed_5 (by decide) ?_
    refine lv_icmp_le (tgt := 13) hx hb dX8_feed_8 (by decide) (fun c2 => ?_) (fun c2 => ?_)
    · have hf := zif_t c2 hf
      refine lv_aload_n hx hb dX8_feed_13 rfl (lv_at hl 0 rfl) ?_
      refine x_get (j := 5) (v := .ref (G.2.1 332)) hx hb hts hi8 hown hK hP zkL_0 rfl (by decide) (hts (.fieldLink RX8 41 "LeaseOffice" "tape" "LLeaseOffice$Table;") (by decide +kernel)) rfl (by decide) dX8_feed_14 ?_
      obtain ⟨q3, hq3, hf⟩ := zb_e hf
      refine x_calli (x_runV (As := []) (rest := []) ⟨hx, hb, hml, hown, hts⟩ (c_X4_size l G hG I J 332 zkL_332 hq3) (cwV 0 hts gX8_feed_X4_size rfl rfl rfl (by decide +kernel) ⟨Nat.le_of_ble_eq_true rfl, Nat.le_of_ble_eq_true rfl⟩) hK hP zkL_332 (by decide) rfl rfl hl.1 rfl (Nat.le_of_ble_eq_true rfl) dX8_feed_17 ⟨Nat.zero_le _, Nat.zero_le _⟩) hS (fun H locs hP hS => ?_)
      refine lv_bipush (v := 120) hx hb dX8_feed_20 (by decide) ?_
      refine lv_icmp_lt (tgt := 28) hx hb dX8_feed_22 (by decide) (fun c4 => ?_) (fun c4 => ?_)
      · have hf := zif_t c4 hf
        refine lv_aload_n hx hb dX8_feed_28 rfl (lv_at hl 0 rfl) ?_
        refine x_get (j := 5) (v := .ref (G.2.1 332)) hx hb hts hi8 hown hK hP zkL_0 rfl (by decide) (hts (.fieldLink RX8 41 "LeaseOffice" "tape" "LLeaseOffice$Table;") (by decide +kernel)) rfl (by decide) dX8_feed_29 ?_
        refine lv_aload_n hx hb dX8_feed_32 rfl (lv_at hl 0 rfl) ?_
        refine x_get (j := 5) (v := .ref (G.2.1 332)) hx hb hts hi8 hown hK hP zkL_0 rfl (by decide) (hts (.fieldLink RX8 41 "LeaseOffice" "tape" "LLeaseOffice$Table;") (by decide +kernel)) rfl (by decide) dX8_feed_33 ?_
        obtain ⟨q5, hq5, hf⟩ := zb_e hf
        refine x_calli (x_runV (As := []) (rest := [.ref (G.2.1 332)]) ⟨hx, hb, hml, hown, hts⟩ (c_X4_append l G hG I J 332 zkL_332 hq5) (cwV 0 hts gX8_feed_X4_append rfl rfl rfl (by decide +kernel) ⟨Nat.le_of_ble_eq_true rfl, Nat.le_of_ble_eq_true rfl⟩) hK hP zkL_332 (by decide) rfl rfl hl.1 rfl (Nat.le_of_ble_eq_true rfl) dX8_feed_36 ⟨Nat.zero_le _, Nat.zero_le _⟩) hS (fun H locs hP hS => ?_)
        refine lv_iconst (v := 0) hx hb dX8_feed_39 (by decide) ?_
        refine lv_iload_n hx hb dX8_feed_40 rfl (lv_at hl 1 rfl) ?_
        obtain ⟨q6, hq6, hf⟩ := zb_e hf
        refine x_callv (x_runV (As := [.int q5.1, .int 0, .int x1]) (rest := []) ⟨hx, hb, hml, hown, hts⟩ (c_X4_setCell l G hG q5.2 J 332 q5.1 0 x1 zkL_332 hq6) (cwV 3 hts gX8_feed_X4_setCell rfl rfl rfl (by decide +kernel) ⟨Nat.le_of_ble_eq_true rfl, Nat.le_of_ble_eq_true rfl⟩) hK hP zkL_332 (by decide) rfl rfl hl.1 rfl (Nat.le_of_ble_eq_true rfl) dX8_feed_41 ⟨Nat.zero_le _, Nat.zero_le _⟩) hS (fun H locs hP hS => ?_)
        refine lv_aload_n hx hb dX8_feed_44 rfl (lv_at hl 0 rfl) ?_
        refine x_get (j := 5) (v := .ref (G.2.1 332)) hx hb hts hi8 hown hK hP zkL_0 rfl (by decide) (hts (.fieldLink RX8 41 "LeaseOffice" "tape" "LLeaseOffice$Table;") (by decide +kernel)) rfl (by decide) dX8_feed_45 ?_
        obtain ⟨q7, hq7, hf⟩ := zb_e hf
        refine x_calli (x_runV (As := []) (rest := []) ⟨hx, hb, hml, hown, hts⟩ (c_X4_size l G hG q6 J 332 zkL_332 hq7) (cwV 0 hts gX8_feed_X4_size rfl rfl rfl (by decide +kernel) ⟨Nat.le_of_ble_eq_true rfl, Nat.le_of_ble_eq_true rfl⟩) hK hP zkL_332 (by decide) rfl rfl hl.1 rfl (Nat.le_of_ble_eq_true rfl) dX8_feed_48 ⟨Nat.zero_le _, Nat.zero_le _⟩) hS (fun H locs hP hS => ?_)
        obtain rfl := Option.some.inj hf
        exact x_iret hx hb hr hlocks hK hP hS dX8_feed_51
      · have hf := zif_f c4 hf
        refine lv_bipush (v := (-3)) hx hb dX8_feed_25 (by decide) ?_
        obtain rfl := Option.some.inj hf
        exact x_iret hx hb hr hlocks hK hP hS dX8_feed_27
    · have hf := zif_f c2 hf
      refine lv_iconst (v := (-1)) hx hb dX8_feed_11 (by decide) ?_
      obtain rfl := Option.some.inj hf
      exact x_iret hx hb hr hlocks hK hP hS dX8_feed_12
set_option maxRecDepth 100000 in
set_option maxHeartbeats 4000000 in
theorem c_X8_fund (l : Launch) (G : zGT) (hG : zOK G) (I J : zM) (x1 : Int32) (x2 : Int32) {r : Int32 × zM} (hf : f_X8_fund I x1 x2 = some r) : Met l yX8_fund wsX8_fund (zrm 2 46) (va_Pc [.ref (G.2.1 0), .int x1, .int x2] (zS G I J)) (zQi G r.1 r.2 J) 0 0 (zA G) := by
  refine zMet (cc := cX8_fund) (n := 3) (ret := (some .int)) (by decide) rfl (Nat.le_of_ble_eq_true rfl) ?_
  intro p e s m args below meth c H locs ls F hK hP hS hl
  obtain ⟨hx, hb, hr, hml, hts, hown, hlocks⟩ := F
  have hown : s.vm.findClass RX8 = some m.cls := hown
  have hl : lv_has ls 3 [(0, .ref (G.2.1 0)), (1, .int x1), (2, .int x2)] := hl
  have hi8 : ∀ w ∈ wsX80, w ∈ wsX8_fund := fun _ h => List.mem_cons_of_mem _ (List.mem_append_left _ (List.mem_append_left _ (List.mem_append_right _ h)))
  unfold f_X8_fund at hf
  refine lv_aload_n hx hb dX8_fund_0 rfl (lv_at hl 0 rfl) ?_
  refine x_get (j := 1) (v := .ref (G.2.1 1)) hx hb hts hi8 hown hK hP zkL_0 rfl (by decide) (hts (.fieldLink RX8 20 "LeaseOffice" "office" "LLeaseOffice$Office;") (by decide +kernel)) rfl (by decide) dX8_fund_1 ?_
  refine lv_iload_n hx hb dX8_fund_4 rfl (lv_at hl 1 rfl) ?_
  refine lv_iload_n hx hb dX8_fund_5 rfl (lv_at hl 2 rfl) ?_
  obtain ⟨q1, hq1, hf⟩ := zb_e hf
  refine x_calli (x_runV (As := [.int x1, .int x2]) (rest := []) ⟨hx, hb, hml, hown, hts⟩ (c_X2_bringCoins l G hG I J 1 x1 x2 zkL_1 hq1) (cwV 2 hts gX8_fund_X2_bringCoins rfl rfl rfl (by decide +kernel) ⟨Nat.le_of_ble_eq_true rfl, Nat.le_of_ble_eq_true rfl⟩) hK hP zkL_1 (by decide) rfl rfl hl.1 rfl (Nat.le_of_ble_eq_true rfl) dX8_fund_6 ⟨Nat.zero_le _, Nat.zero_le _⟩) hS (fun H locs hP hS => ?_)
  obtain rfl := Option.some.inj hf
  exact x_iret hx hb hr hlocks hK hP hS dX8_fund_9
set_option maxRecDepth 100000 in
set_option maxHeartbeats 4000000 in
theorem c_X8_isHolder (l : Launch) (G : zGT) (hG : zOK G) (I J : zM) (x0 : Int32) {r : Int32} (hf : f_X8_isHolder I x0 = some r) : Met l yX8_isHolder wsX8_isHolder (zrm 0 0) (va_Pc [.int x0] (zS G I J)) (zQi G r I J) 0 0 (zA G) := by
  refine zMet (cc := cX8_isHolder) (n := 1) (ret := (some .boolean)) (by decide) rfl (Nat.le_of_ble_eq_true rfl) ?_
  intro p e s m args below meth c H locs ls F hK hP hS hl
  obtain ⟨hx, hb, hr, hml, hts, hown, hlocks⟩ := F
  have hown : s.vm.findClass RX8 = some m.cls := hown
  have hl : lv_has ls 1 [(0, .int x0)] := hl
  unfold f_X8_isHolder at hf
  refine lv_iload_n hx hb dX8_isHolder_0 rfl (lv_at hl 0 rfl) ?_
  refine lv_if_lt (tgt := 14) hx hb dX8_isHolder_1 (by decide) (fun c1 => ?_) (fun c1 => ?_)
  · have hf := zif_t c1 hf
    refine lv_iconst (v := 0) hx hb dX8_isHolder_14 (by decide) ?_
    obtain rfl := Option.some.inj hf
    exact x_zret (v := 0) rfl hx hb hr hlocks hK hP hS dX8_isHolder_15
  · have hf := zif_f c1 hf
    refine lv_iload_n hx hb dX8_isHolder_4 rfl (lv_at hl 0 rfl) ?_
    refine lv_bipush (v := 6) hx hb dX8_isHolder_5 (by decide) ?_
    refine lv_icmp_ge (tgt := 14) hx hb dX8_isHolder_7 (by decide) (fun c2 => ?_) (fun c2 => ?_)
    · have hf := zif_t c2 hf
      refine lv_iconst (v := 0) hx hb dX8_isHolder_14 (by decide) ?_
      obtain rfl := Option.some.inj hf
      exact x_zret (v := 0) rfl hx hb hr hlocks hK hP hS dX8_isHolder_15
    · have hf := zif_f c2 hf
      refine lv_iconst (v := 1) hx hb dX8_isHolder_10 (by decide) ?_
      refine lv_goto (tgt := 15) hx hb dX8_isHolder_11 (by decide) ?_
      obtain rfl := Option.some.inj hf
      exact x_zret (v := 1) rfl hx hb hr hlocks hK hP hS dX8_isHolder_15
set_option maxRecDepth 100000 in
set_option maxHeartbeats 4000000 in
theorem c_X8_hold (l : Launch) (G : zGT) (hG : zOK G) (I J : zM) (x1 : Int32) (x2 : Int32) (x3 : Int32) {r : Int32 × zM} (hf : f_X8_hold I x1 x2 x3 = some r) : Met l yX8_hold wsX8_hold (zrm 1 22) (va_Pc [.ref (G.2.1 0), .int x1, .int x2, .int x3] (zS G I J)) (zQi G r.1 r.2 J) 0 0 (zA G) := by
  refine zMet (cc := cX8_hold) (n := 5) (ret := (some .int)) (by decide) rfl (Nat.le_of_ble_eq_true rfl) ?_
  intro p e s m args below meth c H locs ls F hK hP hS hl
  obtain ⟨hx, hb, hr, hml, hts, hown, hlocks⟩ := F
  have hown : s.vm.findClass RX8 = some m.cls := hown
  have hl : lv_has ls 5 [(0, .ref (G.2.1 0)), (1, .int x1), (2, .int x2), (3, .int x3)] := hl
  have hi8 : ∀ w ∈ wsX80, w ∈ wsX8_hold := fun _ h => List.mem_cons_of_mem _ (List.mem_append_left _ (List.mem_append_left _ (List.mem_append_right _ h)))
  have J41 : ∀ (M : zM) (s0 : Int32) (H : Heap) (locs : List Loc) (ls : Array Slot), f_X8_hold_j41 M x1 x2 x3 s0 = some r → va_P G.1 vwCl (zW G M J) H → va_S (zA G) s.heap H locs → lv_has ls 5 [(0, .ref (G.2.1 0)), (1, .int x1), (2, .int x2), (3, .int x3)] → W p l e (zrm 1 22) s m args below meth c H locs 0 0 (MQ below (zQi G r.1 r.2 J) args s 0 0 (zA G)) (F0 m 41 ls [.int s0]) := by
    intro M s0 H locs ls hf hP hS hl
    unfold f_X8_hold_j41 at hf
    refine lv_istore (lv' := [(4, .int s0), (0, .ref (G.2.1 0)), (1, .int x1), (2, .int x2), (3, .int x3)]) hx hb dX8_hold_41 hl (by decide) rfl (fun ls hl => ?_)
    refine lv_iload_n hx hb dX8_hold_43 rfl (lv_at hl 2 rfl) ?_
    obtain ⟨q2, hq2, hf⟩ := zb_e hf
    refine x_calli (x_runS (As := [.int x1]) (rest := []) ⟨hx, hb, hml, hown, hts⟩ (c_X8_isHolder l G hG M J x1 hq2) (va_cwS 1 hts gX8_hold_X8_isHolder rfl rfl rfl (by decide +kernel) ⟨Nat.le_of_ble_eq_true rfl, Nat.le_of_ble_eq_true rfl⟩) hK hP rfl hl.1 rfl (Nat.le_of_ble_eq_true rfl) dX8_hold_44 ⟨Nat.zero_le _, Nat.zero_le _⟩) hS (fun H locs hP hS => ?_)
    refine lv_if_eq (tgt := 55) hx hb dX8_hold_47 (by decide) (fun c3 => ?_) (fun c3 => ?_)
    · have hf := zif_t c3 hf
      refine lv_iconst (v := (-1)) hx hb dX8_hold_55 (by decide) ?_
      obtain rfl := Option.some.inj hf
      exact x_iret hx hb hr hlocks hK hP hS dX8_hold_56
    · have hf := zif_f c3 hf
      refine lv_iload hx hb dX8_hold_50 (lv_at hl 0 rfl) ?_
      refine lv_if_ne (tgt := 57) hx hb dX8_hold_52 (by decide) (fun c4 => ?_) (fun c4 => ?_)
      · have hf := zif_f c4 hf
        refine lv_aload_n hx hb dX8_hold_57 rfl (lv_at hl 1 rfl) ?_
        refine lv_iload_n hx hb dX8_hold_58 rfl (lv_at hl 2 rfl) ?_
        obtain ⟨q5, hq5, hf⟩ := zb_e hf
        refine x_callr (x_runV (As := [.int x1]) (rest := []) ⟨hx, hb, hml, hown, hts⟩ (c_X8_holderAt l G hG M J x1 hq5) (cwV 1 hts gX8_hold_X8_holderAt rfl rfl rfl (by decide +kernel) ⟨Nat.le_of_ble_eq_true rfl, Nat.le_of_ble_eq_true rfl⟩) hK hP zkL_0 (by decide) rfl rfl hl.1 rfl (Nat.le_of_ble_eq_true rfl) dX8_hold_59 ⟨Nat.zero_le _, Nat.zero_le _⟩) hS (fun H locs hP hS => ?_)
        refine lv_iload_n hx hb dX8_hold_62 rfl (lv_at hl 3 rfl) ?_
        refine lv_iload_n hx hb dX8_hold_63 rfl (lv_at hl 4 rfl) ?_
        obtain ⟨q6, hq6, hf⟩ := zb_e hf
        refine x_callv (x_runV (As := [.int x2, .int x3]) (rest := []) ⟨hx, hb, hml, hown, hts⟩ (c_X1_take l G hG M J q5 x2 x3 (kd_X8_holderAt hq5) hq6) (cwV 2 hts gX8_hold_X1_take rfl rfl rfl (by decide +kernel) ⟨Nat.le_of_ble_eq_true rfl, Nat.le_of_ble_eq_true rfl⟩) hK hP (kd_X8_holderAt hq5) (by decide) rfl rfl hl.1 rfl (Nat.le_of_ble_eq_true rfl) dX8_hold_64 ⟨Nat.zero_le _, Nat.zero_le _⟩) hS (fun H locs hP hS => ?_)
        refine lv_iconst (v := 1) hx hb dX8_hold_67 (by decide) ?_
        obtain rfl := Option.some.inj hf
        exact x_iret hx hb hr hlocks hK hP hS dX8_hold_68
      · have hf := zif_t c4 hf
        refine lv_iconst (v := (-1)) hx hb dX8_hold_55 (by decide) ?_
        obtain rfl := Option.some.inj hf
        exact x_iret hx hb hr hlocks hK hP hS dX8_hold_56
  have J36 : ∀ (M : zM) (H : Heap) (locs : List Loc) (ls : Array Slot), f_X8_hold_j36 M x1 x2 x3 = some r → va_P G.1 vwCl (zW G M J) H → va_S (zA G) s.heap H locs → lv_has ls 5 [(0, .ref (G.2.1 0)), (1, .int x1), (2, .int x2), (3, .int x3)] → W p l e (zrm 1 22) s m args below meth c H locs 0 0 (MQ below (zQi G r.1 r.2 J) args s 0 0 (zA G)) (F0 m 36 ls []) := by
    intro M H locs ls hf hP hS hl
    unfold f_X8_hold_j36 at hf
    refine lv_iconst (v := 1) hx hb dX8_hold_36 (by decide) ?_
    refine lv_goto (tgt := 41) hx hb dX8_hold_37 (by decide) ?_
    exact J41 M 1 H locs ls hf hP hS (lv_sub hl [0, 1, 2, 3] rfl)
  have J40 : ∀ (M : zM) (H : Heap) (locs : List Loc) (ls : Array Slot), f_X8_hold_j40 M x1 x2 x3 = some r → va_P G.1 vwCl (zW G M J) H → va_S (zA G) s.heap H locs → lv_has ls 5 [(0, .ref (G.2.1 0)), (1, .int x1), (2, .int x2), (3, .int x3)] → W p l e (zrm 1 22) s m args below meth c H locs 0 0 (MQ below (zQi G r.1 r.2 J) args s 0 0 (zA G)) (F0 m 40 ls []) := by
    intro M H locs ls hf hP hS hl
    unfold f_X8_hold_j40 at hf
    refine lv_iconst (v := 0) hx hb dX8_hold_40 (by decide) ?_
    exact J41 M 0 H locs ls hf hP hS (lv_sub hl [0, 1, 2, 3] rfl)
  have J20 : ∀ (M : zM) (H : Heap) (locs : List Loc) (ls : Array Slot), f_X8_hold_j20 M x1 x2 x3 = some r → va_P G.1 vwCl (zW G M J) H → va_S (zA G) s.heap H locs → lv_has ls 5 [(0, .ref (G.2.1 0)), (1, .int x1), (2, .int x2), (3, .int x3)] → W p l e (zrm 1 22) s m args below meth c H locs 0 0 (MQ below (zQi G r.1 r.2 J) args s 0 0 (zA G)) (F0 m 20 ls []) := by
    intro M H locs ls hf hP hS hl
    unfold f_X8_hold_j20 at hf
    refine lv_iload_n hx hb dX8_hold_20 rfl (lv_at hl 2 rfl) ?_
    refine lv_iconst (v := 2) hx hb dX8_hold_21 (by decide) ?_
    refine lv_icmp_ne (tgt := 40) hx hb dX8_hold_22 (by decide) (fun c8 => ?_) (fun c8 => ?_)
    · have hf := zif_f c8 hf
      exact J40 M H locs ls hf hP hS (lv_sub hl [0, 1, 2, 3] rfl)
    · have hf := zif_t c8 hf
      refine lv_aload_n hx hb dX8_hold_25 rfl (lv_at hl 0 rfl) ?_
      refine x_get (j := 1) (v := .ref (G.2.1 1)) hx hb hts hi8 hown hK hP zkL_0 rfl (by decide) (hts (.fieldLink RX8 20 "LeaseOffice" "office" "LLeaseOffice$Office;") (by decide +kernel)) rfl (by decide) dX8_hold_26 ?_
      refine lv_iload_n hx hb dX8_hold_29 rfl (lv_at hl 3 rfl) ?_
      obtain ⟨q9, hq9, hf⟩ := zb_e hf
      refine x_calli (x_runV (As := [.int x3]) (rest := []) ⟨hx, hb, hml, hown, hts⟩ (c_X2_isTool l G hG M J 1 x3 zkL_1 hq9) (cwV 1 hts gX8_hold_X2_isTool rfl rfl rfl (by decide +kernel) ⟨Nat.le_of_ble_eq_true rfl, Nat.le_of_ble_eq_true rfl⟩) hK hP zkL_1 (by decide) rfl rfl hl.1 rfl (Nat.le_of_ble_eq_true rfl) dX8_hold_30 ⟨Nat.zero_le _, Nat.zero_le _⟩) hS (fun H locs hP hS => ?_)
      refine lv_if_eq (tgt := 40) hx hb dX8_hold_33 (by decide) (fun c10 => ?_) (fun c10 => ?_)
      · have hf := zif_t c10 hf
        exact J40 M H locs ls hf hP hS (lv_sub hl [0, 1, 2, 3] rfl)
      · have hf := zif_f c10 hf
        exact J36 M H locs ls hf hP hS (lv_sub hl [0, 1, 2, 3] rfl)
  unfold f_X8_hold at hf
  refine lv_iload_n hx hb dX8_hold_0 rfl (lv_at hl 2 rfl) ?_
  refine lv_if_eq (tgt := 36) hx hb dX8_hold_1 (by decide) (fun c1 => ?_) (fun c1 => ?_)
  · have hf := zif_t c1 hf
    exact J36 I H locs ls hf hP hS (lv_sub hl [0, 1, 2, 3] rfl)
  · have hf := zif_f c1 hf
    refine lv_iload_n hx hb dX8_hold_4 rfl (lv_at hl 2 rfl) ?_
    refine lv_iconst (v := 1) hx hb dX8_hold_5 (by decide) ?_
    refine lv_icmp_ne (tgt := 20) hx hb dX8_hold_6 (by decide) (fun c7 => ?_) (fun c7 => ?_)
    · have hf := zif_f c7 hf
      exact J20 I H locs ls hf hP hS (lv_sub hl [0, 1, 2, 3] rfl)
    · have hf := zif_t c7 hf
      refine lv_aload_n hx hb dX8_hold_9 rfl (lv_at hl 0 rfl) ?_
      refine x_get (j := 1) (v := .ref (G.2.1 1)) hx hb hts hi8 hown hK hP zkL_0 rfl (by decide) (hts (.fieldLink RX8 20 "LeaseOffice" "office" "LLeaseOffice$Office;") (by decide +kernel)) rfl (by decide) dX8_hold_10 ?_
      refine lv_iload_n hx hb dX8_hold_13 rfl (lv_at hl 3 rfl) ?_
      obtain ⟨q11, hq11, hf⟩ := zb_e hf
      refine x_calli (x_runV (As := [.int x3]) (rest := []) ⟨hx, hb, hml, hown, hts⟩ (c_X2_isPerson l G hG I J 1 x3 zkL_1 hq11) (cwV 1 hts gX8_hold_X2_isPerson rfl rfl rfl (by decide +kernel) ⟨Nat.le_of_ble_eq_true rfl, Nat.le_of_ble_eq_true rfl⟩) hK hP zkL_1 (by decide) rfl rfl hl.1 rfl (Nat.le_of_ble_eq_true rfl) dX8_hold_14 ⟨Nat.zero_le _, Nat.zero_le _⟩) hS (fun H locs hP hS => ?_)
      refine lv_if_ne (tgt := 36) hx hb dX8_hold_17 (by decide) (fun c12 => ?_) (fun c12 => ?_)
      · have hf := zif_f c12 hf
        exact J36 I H locs ls hf hP hS (lv_sub hl [0, 1, 2, 3] rfl)
      · have hf := zif_t c12 hf
        exact J20 I H locs ls hf hP hS (lv_sub hl [0, 1, 2, 3] rfl)
set_option maxRecDepth 100000 in
set_option maxHeartbeats 4000000 in
theorem c_X8_image (l : Launch) (G : zGT) (hG : zOK G) (I J : zM) {r : Int32 × zM} (hf : f_X8_image I = some r) : Met l yX8_image wsX8_image (zrm 4 90) (va_Pc [.ref (G.2.1 0)] (zS G I J)) (zQi G r.1 r.2 J) 0 0 (zA G) := by
  refine zMet (cc := cX8_image) (n := 1) (ret := (some .int)) (by decide) rfl (Nat.le_of_ble_eq_true rfl) ?_
  intro p e s m args below meth c H locs ls F hK hP hS hl
  obtain ⟨hx, hb, hr, hml, hts, hown, hlocks⟩ := F
  have hown : s.vm.findClass RX8 = some m.cls := hown
  have hl : lv_has ls 1 [(0, .ref (G.2.1 0))] := hl
  have hi2 : ∀ w ∈ wsX20, w ∈ wsX8_image := fun _ h => List.mem_cons_of_mem _ (List.mem_append_left _ (List.mem_append_left _ (List.mem_append_left _ (List.mem_append_right _ h))))
  have hi8 : ∀ w ∈ wsX80, w ∈ wsX8_image := fun _ h => List.mem_cons_of_mem _ (List.mem_append_left _ (List.mem_append_left _ (List.mem_append_left _ (List.mem_append_left _ (List.mem_append_right _ h)))))
  unfold f_X8_image at hf
  refine lv_aload_n hx hb dX8_image_0 rfl (lv_at hl 0 rfl) ?_
  refine x_get (j := 2) (v := .ref (G.2.1 110)) hx hb hts hi8 hown hK hP zkL_0 rfl (by decide) (hts (.fieldLink RX8 24 "LeaseOffice" "imageKept" "LLeaseOffice$Office;") (by decide +kernel)) rfl (by decide) dX8_image_1 ?_
  refine lv_aload_n hx hb dX8_image_4 rfl (lv_at hl 0 rfl) ?_
  refine x_get (j := 1) (v := .ref (G.2.1 1)) hx hb hts hi8 hown hK hP zkL_0 rfl (by decide) (hts (.fieldLink RX8 20 "LeaseOffice" "office" "LLeaseOffice$Office;") (by decide +kernel)) rfl (by decide) dX8_image_5 ?_
  obtain ⟨q1, hq1, hf⟩ := zb_e hf
  refine x_callv (x_runV (As := [.ref (G.2.1 1)]) (rest := []) ⟨hx, hb, hml, hown, hts⟩ (c_X2_copyFrom l G hG I J 110 1 zkL_110 zkL_1 hq1) (cwV 1 hts gX8_image_X2_copyFrom rfl rfl rfl (by decide +kernel) ⟨Nat.le_of_ble_eq_true rfl, Nat.le_of_ble_eq_true rfl⟩) hK hP zkL_110 (by decide) rfl rfl hl.1 rfl (Nat.le_of_ble_eq_true rfl) dX8_image_8 ⟨Nat.zero_le _, Nat.zero_le _⟩) hS (fun H locs hP hS => ?_)
  refine lv_aload_n hx hb dX8_image_11 rfl (lv_at hl 0 rfl) ?_
  refine lv_iconst (v := 1) hx hb dX8_image_12 (by decide) ?_
  obtain ⟨M2, eM2, hf⟩ := zlet_e hf
  refine x_put (j := 8) (I2 := M2) (J2 := J) (ty0 := tyX8) (ty := .boolean) hx hb hts hi8 hown hG hK hP hS zkL_0 rfl tyX8_ok nmX8 (by decide) (hts (.fieldLink RX8 269 "LeaseOffice" "hasImage" "Z") (by decide +kernel)) rfl (by decide +kernel) rfl rfl (Nat.le_of_ble_eq_true rfl) (by rw [eM2]; exact zs_8_8 _) (by rw [eM2]; exact zo_C) (by decide) dX8_image_13 (fun H locs hP hS => ?_)
  refine lv_aload_n hx hb dX8_image_16 rfl (lv_at hl 0 rfl) ?_
  refine x_get (j := 1) (v := .ref (G.2.1 1)) hx hb hts hi8 hown hK hP zkL_0 rfl (by decide) (hts (.fieldLink RX8 20 "LeaseOffice" "office" "LLeaseOffice$Office;") (by decide +kernel)) rfl (by decide) dX8_image_17 ?_
  refine x_get (j := 7) (v := .int (M2 1 7)) hx hb hts hi2 hown hK hP zkL_1 rfl (by decide) (hts (.fieldLink RX8 195 "LeaseOffice$Office" "day" "I") (by decide +kernel)) rfl (by decide) dX8_image_20 ?_
  obtain rfl := Option.some.inj hf
  exact x_iret hx hb hr hlocks hK hP hS dX8_image_23
set_option maxRecDepth 100000 in
set_option maxHeartbeats 4000000 in
theorem c_X8_listedAt (l : Launch) (G : zGT) (hG : zOK G) (I J : zM) (x1 : Int32) (x2 : Int32) {r : Int32} (hf : f_X8_listedAt I x1 x2 = some r) : Met l yX8_listedAt wsX8_listedAt (zrm 4 86) (va_Pc [.ref (G.2.1 0), .int x1, .int x2] (zS G I J)) (zQi G r I J) 0 0 (zA G) := by
  refine zMet (cc := cX8_listedAt) (n := 3) (ret := (some .int)) (by decide) rfl (Nat.le_of_ble_eq_true rfl) ?_
  intro p e s m args below meth c H locs ls F hK hP hS hl
  obtain ⟨hx, hb, hr, hml, hts, hown, hlocks⟩ := F
  have hown : s.vm.findClass RX8 = some m.cls := hown
  have hl : lv_has ls 3 [(0, .ref (G.2.1 0)), (1, .int x1), (2, .int x2)] := hl
  have hi7 : ∀ w ∈ wsX70, w ∈ wsX8_listedAt := fun _ h => List.mem_cons_of_mem _ (List.mem_append_left _ (List.mem_append_left _ (List.mem_append_left _ (List.mem_append_right _ h))))
  have hi8 : ∀ w ∈ wsX80, w ∈ wsX8_listedAt := fun _ h => List.mem_cons_of_mem _ (List.mem_append_left _ (List.mem_append_left _ (List.mem_append_left _ (List.mem_append_left _ (List.mem_append_right _ h)))))
  unfold f_X8_listedAt at hf
  refine lv_iload_n hx hb dX8_listedAt_0 rfl (lv_at hl 1 rfl) ?_
  refine lv_iconst (v := (-1)) hx hb dX8_listedAt_1 (by decide) ?_
  refine lv_icmp_ne (tgt := 16) hx hb dX8_listedAt_2 (by decide) (fun c1 => ?_) (fun c1 => ?_)
  · have hf := zif_f c1 hf
    refine lv_aload_n hx hb dX8_listedAt_16 rfl (lv_at hl 0 rfl) ?_
    refine x_get (j := 1) (v := .ref (G.2.1 1)) hx hb hts hi8 hown hK hP zkL_0 rfl (by decide) (hts (.fieldLink RX8 20 "LeaseOffice" "office" "LLeaseOffice$Office;") (by decide +kernel)) rfl (by decide) dX8_listedAt_17 ?_
    refine lv_iload_n hx hb dX8_listedAt_20 rfl (lv_at hl 1 rfl) ?_
    obtain ⟨q2, hq2, hf⟩ := zb_e hf
    refine x_callr (x_runV (As := [.int x1]) (rest := []) ⟨hx, hb, hml, hown, hts⟩ (c_X2_toolAt l G hG I J 1 x1 zkL_1 hq2) (cwV 1 hts gX8_listedAt_X2_toolAt rfl rfl rfl (by decide +kernel) ⟨Nat.le_of_ble_eq_true rfl, Nat.le_of_ble_eq_true rfl⟩) hK hP zkL_1 (by decide) rfl rfl hl.1 rfl (Nat.le_of_ble_eq_true rfl) dX8_listedAt_21 ⟨Nat.zero_le _, Nat.zero_le _⟩) hS (fun H locs hP hS => ?_)
    refine x_get (j := 9) (v := .ref (G.2.1 (q2 + 5))) hx hb hts hi7 hown hK hP (kd_X2_toolAt zkL_1 hq2) rfl (by decide) (hts (.fieldLink RX8 130 "LeaseOffice$Tool" "claims" "LLeaseOffice$Table;") (by decide +kernel)) rfl (by decide) dX8_listedAt_24 ?_
    refine lv_iload_n hx hb dX8_listedAt_27 rfl (lv_at hl 2 rfl) ?_
    refine lv_iconst (v := 0) hx hb dX8_listedAt_28 (by decide) ?_
    obtain ⟨q3, hq3, hf⟩ := zb_e hf
    refine x_calli (x_runV (As := [.int x2, .int 0]) (rest := []) ⟨hx, hb, hml, hown, hts⟩ (c_X4_cell l G hG I J (q2 + 5) x2 0 (zk_7_9 (kd_X2_toolAt zkL_1 hq2)) hq3) (cwV 2 hts gX8_listedAt_X4_cell rfl rfl rfl (by decide +kernel) ⟨Nat.le_of_ble_eq_true rfl, Nat.le_of_ble_eq_true rfl⟩) hK hP (zk_7_9 (kd_X2_toolAt zkL_1 hq2)) (by decide) rfl rfl hl.1 rfl (Nat.le_of_ble_eq_true rfl) dX8_listedAt_29 ⟨Nat.zero_le _, Nat.zero_le _⟩) hS (fun H locs hP hS => ?_)
    obtain rfl := Option.some.inj hf
    exact x_iret hx hb hr hlocks hK hP hS dX8_listedAt_32
  · have hf := zif_t c1 hf
    refine lv_aload_n hx hb dX8_listedAt_5 rfl (lv_at hl 0 rfl) ?_
    refine x_get (j := 1) (v := .ref (G.2.1 1)) hx hb hts hi8 hown hK hP zkL_0 rfl (by decide) (hts (.fieldLink RX8 20 "LeaseOffice" "office" "LLeaseOffice$Office;") (by decide +kernel)) rfl (by decide) dX8_listedAt_6 ?_
    refine lv_iload_n hx hb dX8_listedAt_9 rfl (lv_at hl 2 rfl) ?_
    obtain ⟨q4, hq4, hf⟩ := zb_e hf
    refine x_calli (x_runV (As := [.int x2]) (rest := []) ⟨hx, hb, hml, hown, hts⟩ (c_X2_personAtRank l G hG I J 1 x2 zkL_1 hq4) (cwV 1 hts gX8_listedAt_X2_personAtRank rfl rfl rfl (by decide +kernel) ⟨Nat.le_of_ble_eq_true rfl, Nat.le_of_ble_eq_true rfl⟩) hK hP zkL_1 (by decide) rfl rfl hl.1 rfl (Nat.le_of_ble_eq_true rfl) dX8_listedAt_10 ⟨Nat.zero_le _, Nat.zero_le _⟩) hS (fun H locs hP hS => ?_)
    refine lv_goto (tgt := 32) hx hb dX8_listedAt_13 (by decide) ?_
    obtain rfl := Option.some.inj hf
    exact x_iret hx hb hr hlocks hK hP hS dX8_listedAt_32
set_option maxRecDepth 100000 in
set_option maxHeartbeats 4000000 in
theorem c_X8_judge (l : Launch) (G : zGT) (hG : zOK G) (I J : zM) (x1 : Int32) (x2 : Int32) {r : Int32} (hf : f_X8_judge I x1 x2 = some r) : Met l yX8_judge wsX8_judge (zrm 5 108) (va_Pc [.ref (G.2.1 0), .int x1, .int x2] (zS G I J)) (zQi G r I J) 0 0 (zA G) := by
  refine zMet (cc := cX8_judge) (n := 7) (ret := (some .int)) (by decide) rfl (Nat.le_of_ble_eq_true rfl) ?_
  intro p e s m args below meth c H locs ls F hK hP hS hl
  obtain ⟨hx, hb, hr, hml, hts, hown, hlocks⟩ := F
  have hown : s.vm.findClass RX8 = some m.cls := hown
  have hl : lv_has ls 7 [(0, .ref (G.2.1 0)), (1, .int x1), (2, .int x2)] := hl
  have hi1 : ∀ w ∈ wsX10, w ∈ wsX8_judge := fun _ h => List.mem_cons_of_mem _ (List.mem_append_left _ (List.mem_append_left _ (List.mem_append_left _ (List.mem_append_left _ (List.mem_append_right _ h)))))
  have hi2 : ∀ w ∈ wsX20, w ∈ wsX8_judge := fun _ h => List.mem_cons_of_mem _ (List.mem_append_left _ (List.mem_append_left _ (List.mem_append_left _ (List.mem_append_right _ h))))
  have hi7 : ∀ w ∈ wsX70, w ∈ wsX8_judge := fun _ h => List.mem_cons_of_mem _ (List.mem_append_left _ (List.mem_append_left _ (List.mem_append_right _ h)))
  have hi8 : ∀ w ∈ wsX80, w ∈ wsX8_judge := fun _ h => List.mem_cons_of_mem _ (List.mem_append_left _ (List.mem_append_left _ (List.mem_append_left _ (List.mem_append_left _ (List.mem_append_left _ (List.mem_append_right _ h))))))
  have L95 : ∀ (y3 : Nat) (y4 : Int32) (y5 : Int32) (hy3 : zK y3 = 1) (K : Option (Int32)) (hKK : ∀ (H : Heap) (locs : List Loc) (ls : Array Slot), K = some r → va_P G.1 vwCl (zW G I J) H → va_S (zA G) s.heap H locs → lv_has ls 7 [(4, .int y4), (5, .int y5)] → W p l e (zrm 5 108) s m args below meth c H locs 0 0 (MQ below (zQi G r I J) args s 0 0 (zA G)) (F0 m 138 ls [])) (n : Nat) (y6 : Int32) (H : Heap) (locs : List Loc) (ls : Array Slot), f_X8_judge_l95 I x2 y3 y4 y5 K n y6 = some r → va_P G.1 vwCl (zW G I J) H → va_S (zA G) s.heap H locs → lv_has ls 7 [(0, .ref (G.2.1 0)), (2, .int x2), (3, .ref (G.2.1 (y3))), (4, .int y4), (5, .int y5), (6, .int y6)] → W p l e (zrm 5 108) s m args below meth c H locs 0 0 (MQ below (zQi G r I J) args s 0 0 (zA G)) (F0 m 95 ls []) := by
    intro y3 y4 y5 hy3 K hKK n
    induction n with
    | zero =>
      intro y6 H locs ls hf
      rw [f_X8_judge_l95] at hf
      cases hf
    | succ n ih =>
      intro y6 H locs ls hf hP hS hl
      rw [f_X8_judge_l95] at hf
      refine lv_iload hx hb dX8_judge_95 (lv_at hl 5 rfl) ?_
      refine lv_iload hx hb dX8_judge_97 (lv_at hl 4 rfl) ?_
      refine lv_icmp_ge (tgt := 138) hx hb dX8_judge_99 (by decide) (fun c11 => ?_) (fun c11 => ?_)
      · have hf := zif_t c11 hf
        exact hKK H locs ls hf hP hS (lv_sub hl [3, 4] rfl)
      · have hf := zif_f c11 hf
        refine lv_iload hx hb dX8_judge_102 (lv_at hl 5 rfl) ?_
        refine lv_iload hx hb dX8_judge_104 (lv_at hl 3 rfl) ?_
        refine lv_icmp_ge (tgt := 129) hx hb dX8_judge_106 (by decide) (fun c12 => ?_) (fun c12 => ?_)
        · have hf := zif_t c12 hf
          refine lv_iload hx hb dX8_judge_129 (lv_at hl 5 rfl) ?_
          obtain rfl := Option.some.inj hf
          exact x_iret hx hb hr hlocks hK hP hS dX8_judge_131
        · have hf := zif_f c12 hf
          refine lv_aload_n hx hb dX8_judge_109 rfl (lv_at hl 2 rfl) ?_
          refine x_get (j := 2) (v := .ref (G.2.1 (y3 + 1))) hx hb hts hi1 hown hK hP hy3 rfl (by decide) (hts (.fieldLink RX8 235 "LeaseOffice$Holder" "items" "LLeaseOffice$Table;") (by decide +kernel)) rfl (by decide) dX8_judge_110 ?_
          refine lv_iload hx hb dX8_judge_113 (lv_at hl 5 rfl) ?_
          refine lv_iconst (v := 0) hx hb dX8_judge_115 (by decide) ?_
          obtain ⟨q13, hq13, hf⟩ := zb_e hf
          refine x_calli (x_runV (As := [.int y6, .int 0]) (rest := []) ⟨hx, hb, hml, hown, hts⟩ (c_X4_cell l G hG I J (y3 + 1) y6 0 (zk_1_2 hy3) hq13) (cwV 2 hts gX8_judge_X4_cell rfl rfl rfl (by decide +kernel) ⟨Nat.le_of_ble_eq_true rfl, Nat.le_of_ble_eq_true rfl⟩) hK hP (zk_1_2 hy3) (by decide) rfl rfl hl.1 rfl (Nat.le_of_ble_eq_true rfl) dX8_judge_116 ⟨Nat.zero_le _, Nat.zero_le _⟩) hS (fun H locs hP hS => ?_)
          refine lv_aload_n hx hb dX8_judge_119 rfl (lv_at hl 0 rfl) ?_
          refine lv_iload_n hx hb dX8_judge_120 rfl (lv_at hl 1 rfl) ?_
          refine lv_iload hx hb dX8_judge_121 (lv_at hl 5 rfl) ?_
          obtain ⟨q14, hq14, hf⟩ := zb_e hf
          refine x_calli (x_runV (As := [.int x2, .int y6]) (rest := [.int q13]) ⟨hx, hb, hml, hown, hts⟩ (c_X8_listedAt l G hG I J x2 y6 hq14) (cwV 2 hts gX8_judge_X8_listedAt rfl rfl rfl (by decide +kernel) ⟨Nat.le_of_ble_eq_true rfl, Nat.le_of_ble_eq_true rfl⟩) hK hP zkL_0 (by decide) rfl rfl hl.1 rfl (Nat.le_of_ble_eq_true rfl) dX8_judge_123 ⟨Nat.zero_le _, Nat.zero_le _⟩) hS (fun H locs hP hS => ?_)
          refine lv_icmp_eq (tgt := 132) hx hb dX8_judge_126 (by decide) (fun c15 => ?_) (fun c15 => ?_)
          · have hf := zif_t c15 hf
            refine lv_iinc (v := (y6 + 1)) (lv' := [(6, .int (y6 + 1)), (0, .ref (G.2.1 0)), (2, .int x2), (3, .ref (G.2.1 (y3))), (4, .int y4), (5, .int y5)]) hx hb dX8_judge_132 hl (k := 5) rfl rfl (by decide) rfl (fun ls hl => ?_)
            refine lv_goto (tgt := 95) hx hb dX8_judge_135 (by decide) ?_
            exact ih (y6 + 1) H locs ls hf hP hS (lv_sub hl [1, 2, 3, 4, 5, 0] rfl)
          · have hf := zif_f c15 hf
            refine lv_iload hx hb dX8_judge_129 (lv_at hl 5 rfl) ?_
            obtain rfl := Option.some.inj hf
            exact x_iret hx hb hr hlocks hK hP hS dX8_judge_131
  have J81 : ∀ (y3 : Nat) (hy3 : zK y3 = 1) (s0 : Int32) (H : Heap) (locs : List Loc) (ls : Array Slot), f_X8_judge_j81 I x2 y3 s0 = some r → va_P G.1 vwCl (zW G I J) H → va_S (zA G) s.heap H locs → lv_has ls 7 [(0, .ref (G.2.1 0)), (2, .int x2), (3, .ref (G.2.1 (y3)))] → W p l e (zrm 5 108) s m args below meth c H locs 0 0 (MQ below (zQi G r I J) args s 0 0 (zA G)) (F0 m 81 ls [.int s0]) := by
    intro y3 hy3 s0 H locs ls hf hP hS hl
    unfold f_X8_judge_j81 at hf
    refine lv_istore (lv' := [(4, .int s0), (0, .ref (G.2.1 0)), (2, .int x2), (3, .ref (G.2.1 (y3)))]) hx hb dX8_judge_81 hl (by decide) rfl (fun ls hl => ?_)
    refine lv_aload_n hx hb dX8_judge_83 rfl (lv_at hl 3 rfl) ?_
    refine x_get (j := 2) (v := .ref (G.2.1 (y3 + 1))) hx hb hts hi1 hown hK hP hy3 rfl (by decide) (hts (.fieldLink RX8 235 "LeaseOffice$Holder" "items" "LLeaseOffice$Table;") (by decide +kernel)) rfl (by decide) dX8_judge_84 ?_
    obtain ⟨q10, hq10, hf⟩ := zb_e hf
    refine x_calli (x_runV (As := []) (rest := []) ⟨hx, hb, hml, hown, hts⟩ (c_X4_size l G hG I J (y3 + 1) (zk_1_2 hy3) hq10) (cwV 0 hts gX8_judge_X4_size rfl rfl rfl (by decide +kernel) ⟨Nat.le_of_ble_eq_true rfl, Nat.le_of_ble_eq_true rfl⟩) hK hP (zk_1_2 hy3) (by decide) rfl rfl hl.1 rfl (Nat.le_of_ble_eq_true rfl) dX8_judge_87 ⟨Nat.zero_le _, Nat.zero_le _⟩) hS (fun H locs hP hS => ?_)
    refine lv_istore (lv' := [(5, .int q10), (4, .int s0), (0, .ref (G.2.1 0)), (2, .int x2), (3, .ref (G.2.1 (y3)))]) hx hb dX8_judge_90 hl (by decide) rfl (fun ls hl => ?_)
    refine lv_iconst (v := 0) hx hb dX8_judge_92 (by decide) ?_
    refine lv_istore (lv' := [(6, .int 0), (5, .int q10), (4, .int s0), (0, .ref (G.2.1 0)), (2, .int x2), (3, .ref (G.2.1 (y3)))]) hx hb dX8_judge_93 hl (by decide) rfl (fun ls hl => ?_)
    refine L95 y3 s0 q10 hy3 _ (fun H locs ls hf hP hS hl => ?_) zFu 0 H locs ls hf hP hS (lv_sub hl [3, 4, 5, 2, 1, 0] rfl)
    refine lv_iload hx hb dX8_judge_138 (lv_at hl 1 rfl) ?_
    refine lv_iload hx hb dX8_judge_140 (lv_at hl 0 rfl) ?_
    refine lv_icmp_ge (tgt := 150) hx hb dX8_judge_142 (by decide) (fun c16 => ?_) (fun c16 => ?_)
    · have hf := zif_t c16 hf
      refine lv_bipush (v := (-2)) hx hb dX8_judge_150 (by decide) ?_
      obtain rfl := Option.some.inj hf
      exact x_iret hx hb hr hlocks hK hP hS dX8_judge_152
    · have hf := zif_f c16 hf
      refine lv_iload hx hb dX8_judge_145 (lv_at hl 1 rfl) ?_
      refine lv_goto (tgt := 152) hx hb dX8_judge_147 (by decide) ?_
      obtain rfl := Option.some.inj hf
      exact x_iret hx hb hr hlocks hK hP hS dX8_judge_152
  have J25 : ∀ (H : Heap) (locs : List Loc) (ls : Array Slot), f_X8_judge_j25 I x1 x2 = some r → va_P G.1 vwCl (zW G I J) H → va_S (zA G) s.heap H locs → lv_has ls 7 [(0, .ref (G.2.1 0)), (1, .int x1), (2, .int x2)] → W p l e (zrm 5 108) s m args below meth c H locs 0 0 (MQ below (zQi G r I J) args s 0 0 (zA G)) (F0 m 25 ls []) := by
    intro H locs ls hf hP hS hl
    unfold f_X8_judge_j25 at hf
    refine lv_aload_n hx hb dX8_judge_25 rfl (lv_at hl 0 rfl) ?_
    refine lv_iload_n hx hb dX8_judge_26 rfl (lv_at hl 1 rfl) ?_
    obtain ⟨q4, hq4, hf⟩ := zb_e hf
    refine x_callr (x_runV (As := [.int x1]) (rest := []) ⟨hx, hb, hml, hown, hts⟩ (c_X8_holderAt l G hG I J x1 hq4) (cwV 1 hts gX8_judge_X8_holderAt rfl rfl rfl (by decide +kernel) ⟨Nat.le_of_ble_eq_true rfl, Nat.le_of_ble_eq_true rfl⟩) hK hP zkL_0 (by decide) rfl rfl hl.1 rfl (Nat.le_of_ble_eq_true rfl) dX8_judge_27 ⟨Nat.zero_le _, Nat.zero_le _⟩) hS (fun H locs hP hS => ?_)
    refine lv_astore_n (lv' := [(3, .ref (G.2.1 (q4))), (0, .ref (G.2.1 0)), (1, .int x1), (2, .int x2)]) hx hb dX8_judge_30 rfl hl (by decide) rfl (fun ls hl => ?_)
    refine lv_aload_n hx hb dX8_judge_31 rfl (lv_at hl 0 rfl) ?_
    refine x_get (j := 0) (v := .int (I q4 0)) hx hb hts hi1 hown hK hP (kd_X8_holderAt hq4) rfl (by decide) (hts (.fieldLink RX8 229 "LeaseOffice$Holder" "sort" "I") (by decide +kernel)) rfl (by decide) dX8_judge_32 ?_
    refine lv_if_ne (tgt := 41) hx hb dX8_judge_35 (by decide) (fun c5 => ?_) (fun c5 => ?_)
    · have hf := zif_f c5 hf
      refine lv_aload_n hx hb dX8_judge_41 rfl (lv_at hl 0 rfl) ?_
      refine x_get (j := 0) (v := .int (I q4 0)) hx hb hts hi1 hown hK hP (kd_X8_holderAt hq4) rfl (by decide) (hts (.fieldLink RX8 229 "LeaseOffice$Holder" "sort" "I") (by decide +kernel)) rfl (by decide) dX8_judge_42 ?_
      refine lv_iconst (v := 3) hx hb dX8_judge_45 (by decide) ?_
      refine lv_icmp_eq (tgt := 52) hx hb dX8_judge_46 (by decide) (fun c6 => ?_) (fun c6 => ?_)
      · have hf := zif_t c6 hf
        refine lv_iload_n hx hb dX8_judge_52 rfl (lv_at hl 3 rfl) ?_
        refine lv_iconst (v := (-1)) hx hb dX8_judge_53 (by decide) ?_
        refine lv_icmp_ne (tgt := 67) hx hb dX8_judge_54 (by decide) (fun c7 => ?_) (fun c7 => ?_)
        · have hf := zif_f c7 hf
          refine lv_aload_n hx hb dX8_judge_67 rfl (lv_at hl 1 rfl) ?_
          refine x_get (j := 1) (v := .ref (G.2.1 1)) hx hb hts hi8 hown hK hP zkL_0 rfl (by decide) (hts (.fieldLink RX8 20 "LeaseOffice" "office" "LLeaseOffice$Office;") (by decide +kernel)) rfl (by decide) dX8_judge_68 ?_
          refine lv_iload_n hx hb dX8_judge_71 rfl (lv_at hl 3 rfl) ?_
          obtain ⟨q8, hq8, hf⟩ := zb_e hf
          refine x_callr (x_runV (As := [.int x2]) (rest := []) ⟨hx, hb, hml, hown, hts⟩ (c_X2_toolAt l G hG I J 1 x2 zkL_1 hq8) (cwV 1 hts gX8_judge_X2_toolAt rfl rfl rfl (by decide +kernel) ⟨Nat.le_of_ble_eq_true rfl, Nat.le_of_ble_eq_true rfl⟩) hK hP zkL_1 (by decide) rfl rfl hl.1 rfl (Nat.le_of_ble_eq_true rfl) dX8_judge_72 ⟨Nat.zero_le _, Nat.zero_le _⟩) hS (fun H locs hP hS => ?_)
          refine x_get (j := 9) (v := .ref (G.2.1 (q8 + 5))) hx hb hts hi7 hown hK hP (kd_X2_toolAt zkL_1 hq8) rfl (by decide) (hts (.fieldLink RX8 130 "LeaseOffice$Tool" "claims" "LLeaseOffice$Table;") (by decide +kernel)) rfl (by decide) dX8_judge_75 ?_
          obtain ⟨q9, hq9, hf⟩ := zb_e hf
          refine x_calli (x_runV (As := []) (rest := []) ⟨hx, hb, hml, hown, hts⟩ (c_X4_size l G hG I J (q8 + 5) (zk_7_9 (kd_X2_toolAt zkL_1 hq8)) hq9) (cwV 0 hts gX8_judge_X4_size rfl rfl rfl (by decide +kernel) ⟨Nat.le_of_ble_eq_true rfl, Nat.le_of_ble_eq_true rfl⟩) hK hP (zk_7_9 (kd_X2_toolAt zkL_1 hq8)) (by decide) rfl rfl hl.1 rfl (Nat.le_of_ble_eq_true rfl) dX8_judge_78 ⟨Nat.zero_le _, Nat.zero_le _⟩) hS (fun H locs hP hS => ?_)
          exact J81 q4 (kd_X8_holderAt hq4) q9 H locs ls hf hP hS (lv_sub hl [1, 3, 0] rfl)
        · have hf := zif_t c7 hf
          refine lv_aload_n hx hb dX8_judge_57 rfl (lv_at hl 1 rfl) ?_
          refine x_get (j := 1) (v := .ref (G.2.1 1)) hx hb hts hi8 hown hK hP zkL_0 rfl (by decide) (hts (.fieldLink RX8 20 "LeaseOffice" "office" "LLeaseOffice$Office;") (by decide +kernel)) rfl (by decide) dX8_judge_58 ?_
          refine x_get (j := 5) (v := .int (I 1 5)) hx hb hts hi2 hown hK hP zkL_1 rfl (by decide) (hts (.fieldLink RX8 232 "LeaseOffice$Office" "personCount" "I") (by decide +kernel)) rfl (by decide) dX8_judge_61 ?_
          refine lv_goto (tgt := 81) hx hb dX8_judge_64 (by decide) ?_
          exact J81 q4 (kd_X8_holderAt hq4) (I 1 5) H locs ls hf hP hS (lv_sub hl [1, 3, 0] rfl)
      · have hf := zif_f c6 hf
        refine lv_bipush (v := (-12)) hx hb dX8_judge_49 (by decide) ?_
        obtain rfl := Option.some.inj hf
        exact x_iret hx hb hr hlocks hK hP hS dX8_judge_51
    · have hf := zif_t c5 hf
      refine lv_bipush (v := (-11)) hx hb dX8_judge_38 (by decide) ?_
      obtain rfl := Option.some.inj hf
      exact x_iret hx hb hr hlocks hK hP hS dX8_judge_40
  unfold f_X8_judge at hf
  refine lv_iload_n hx hb dX8_judge_0 rfl (lv_at hl 1 rfl) ?_
  obtain ⟨q1, hq1, hf⟩ := zb_e hf
  refine x_calli (x_runS (As := [.int x1]) (rest := []) ⟨hx, hb, hml, hown, hts⟩ (c_X8_isHolder l G hG I J x1 hq1) (va_cwS 1 hts gX8_judge_X8_isHolder rfl rfl rfl (by decide +kernel) ⟨Nat.le_of_ble_eq_true rfl, Nat.le_of_ble_eq_true rfl⟩) hK hP rfl hl.1 rfl (Nat.le_of_ble_eq_true rfl) dX8_judge_1 ⟨Nat.zero_le _, Nat.zero_le _⟩) hS (fun H locs hP hS => ?_)
  refine lv_if_eq (tgt := 23) hx hb dX8_judge_4 (by decide) (fun c2 => ?_) (fun c2 => ?_)
  · have hf := zif_t c2 hf
    refine lv_iconst (v := (-1)) hx hb dX8_judge_23 (by decide) ?_
    obtain rfl := Option.some.inj hf
    exact x_iret hx hb hr hlocks hK hP hS dX8_judge_24
  · have hf := zif_f c2 hf
    refine lv_iload_n hx hb dX8_judge_7 rfl (lv_at hl 2 rfl) ?_
    refine lv_iconst (v := (-1)) hx hb dX8_judge_8 (by decide) ?_
    refine lv_icmp_eq (tgt := 25) hx hb dX8_judge_9 (by decide) (fun c3 => ?_) (fun c3 => ?_)
    · have hf := zif_t c3 hf
      exact J25 H locs ls hf hP hS (lv_sub hl [0, 1, 2] rfl)
    · have hf := zif_f c3 hf
      refine lv_aload_n hx hb dX8_judge_12 rfl (lv_at hl 0 rfl) ?_
      refine x_get (j := 1) (v := .ref (G.2.1 1)) hx hb hts hi8 hown hK hP zkL_0 rfl (by decide) (hts (.fieldLink RX8 20 "LeaseOffice" "office" "LLeaseOffice$Office;") (by decide +kernel)) rfl (by decide) dX8_judge_13 ?_
      refine lv_iload_n hx hb dX8_judge_16 rfl (lv_at hl 2 rfl) ?_
      obtain ⟨q17, hq17, hf⟩ := zb_e hf
      refine x_calli (x_runV (As := [.int x2]) (rest := []) ⟨hx, hb, hml, hown, hts⟩ (c_X2_isTool l G hG I J 1 x2 zkL_1 hq17) (cwV 1 hts gX8_judge_X2_isTool rfl rfl rfl (by decide +kernel) ⟨Nat.le_of_ble_eq_true rfl, Nat.le_of_ble_eq_true rfl⟩) hK hP zkL_1 (by decide) rfl rfl hl.1 rfl (Nat.le_of_ble_eq_true rfl) dX8_judge_17 ⟨Nat.zero_le _, Nat.zero_le _⟩) hS (fun H locs hP hS => ?_)
      refine lv_if_ne (tgt := 25) hx hb dX8_judge_20 (by decide) (fun c18 => ?_) (fun c18 => ?_)
      · have hf := zif_f c18 hf
        exact J25 H locs ls hf hP hS (lv_sub hl [0, 1, 2] rfl)
      · have hf := zif_t c18 hf
        refine lv_iconst (v := (-1)) hx hb dX8_judge_23 (by decide) ?_
        obtain rfl := Option.some.inj hf
        exact x_iret hx hb hr hlocks hK hP hS dX8_judge_24
set_option maxRecDepth 100000 in
set_option maxHeartbeats 4000000 in
theorem c_X8_lease (l : Launch) (G : zGT) (hG : zOK G) (I J : zM) (x1 : Int32) (x2 : Int32) (x3 : Int32) {r : Int32 × zM} (hf : f_X8_lease I x1 x2 x3 = some r) : Met l yX8_lease wsX8_lease (zrm 4 94) (va_Pc [.ref (G.2.1 0), .int x1, .int x2, .int x3] (zS G I J)) (zQi G r.1 r.2 J) 0 0 (zA G) := by
  refine zMet (cc := cX8_lease) (n := 4) (ret := (some .int)) (by decide) rfl (Nat.le_of_ble_eq_true rfl) ?_
  intro p e s m args below meth c H locs ls F hK hP hS hl
  obtain ⟨hx, hb, hr, hml, hts, hown, hlocks⟩ := F
  have hown : s.vm.findClass RX8 = some m.cls := hown
  have hl : lv_has ls 4 [(0, .ref (G.2.1 0)), (1, .int x1), (2, .int x2), (3, .int x3)] := hl
  have hi8 : ∀ w ∈ wsX80, w ∈ wsX8_lease := fun _ h => List.mem_cons_of_mem _ (List.mem_append_left _ (List.mem_append_left _ (List.mem_append_left _ (List.mem_append_left _ (List.mem_append_right _ h)))))
  unfold f_X8_lease at hf
  refine lv_aload_n hx hb dX8_lease_0 rfl (lv_at hl 0 rfl) ?_
  refine x_get (j := 1) (v := .ref (G.2.1 1)) hx hb hts hi8 hown hK hP zkL_0 rfl (by decide) (hts (.fieldLink RX8 20 "LeaseOffice" "office" "LLeaseOffice$Office;") (by decide +kernel)) rfl (by decide) dX8_lease_1 ?_
  refine lv_iload_n hx hb dX8_lease_4 rfl (lv_at hl 1 rfl) ?_
  refine lv_iload_n hx hb dX8_lease_5 rfl (lv_at hl 2 rfl) ?_
  refine lv_iload_n hx hb dX8_lease_6 rfl (lv_at hl 3 rfl) ?_
  obtain ⟨q1, hq1, hf⟩ := zb_e hf
  refine x_calli (x_runV (As := [.int x1, .int x2, .int x3]) (rest := []) ⟨hx, hb, hml, hown, hts⟩ (c_X2_leaseTo l G hG I J 1 x1 x2 x3 zkL_1 hq1) (cwV 3 hts gX8_lease_X2_leaseTo rfl rfl rfl (by decide +kernel) ⟨Nat.le_of_ble_eq_true rfl, Nat.le_of_ble_eq_true rfl⟩) hK hP zkL_1 (by decide) rfl rfl hl.1 rfl (Nat.le_of_ble_eq_true rfl) dX8_lease_7 ⟨Nat.zero_le _, Nat.zero_le _⟩) hS (fun H locs hP hS => ?_)
  obtain rfl := Option.some.inj hf
  exact x_iret hx hb hr hlocks hK hP hS dX8_lease_10
set_option maxRecDepth 100000 in
set_option maxHeartbeats 4000000 in
theorem c_X8_link (l : Launch) (G : zGT) (hG : zOK G) (I J : zM) (x1 : Int32) (x2 : Int32) (x3 : Int32) {r : Int32} (hf : f_X8_link I x1 x2 x3 = some r) : Met l yX8_link wsX8_link (zrm 2 46) (va_Pc [.ref (G.2.1 0), .int x1, .int x2, .int x3] (zS G I J)) (zQi G r I J) 0 0 (zA G) := by
  refine zMet (cc := cX8_link) (n := 4) (ret := (some .int)) (by decide) rfl (Nat.le_of_ble_eq_true rfl) ?_
  intro p e s m args below meth c H locs ls F hK hP hS hl
  obtain ⟨hx, hb, hr, hml, hts, hown, hlocks⟩ := F
  have hown : s.vm.findClass RX8 = some m.cls := hown
  have hl : lv_has ls 4 [(0, .ref (G.2.1 0)), (1, .int x1), (2, .int x2), (3, .int x3)] := hl
  have hi7 : ∀ w ∈ wsX70, w ∈ wsX8_link := fun _ h => List.mem_cons_of_mem _ (List.mem_append_left _ (List.mem_append_left _ (List.mem_append_right _ h)))
  have hi8 : ∀ w ∈ wsX80, w ∈ wsX8_link := fun _ h => List.mem_cons_of_mem _ (List.mem_append_left _ (List.mem_append_left _ (List.mem_append_left _ (List.mem_append_right _ h))))
  unfold f_X8_link at hf
  refine lv_aload_n hx hb dX8_link_0 rfl (lv_at hl 0 rfl) ?_
  refine x_get (j := 1) (v := .ref (G.2.1 1)) hx hb hts hi8 hown hK hP zkL_0 rfl (by decide) (hts (.fieldLink RX8 20 "LeaseOffice" "office" "LLeaseOffice$Office;") (by decide +kernel)) rfl (by decide) dX8_link_1 ?_
  refine lv_iload_n hx hb dX8_link_4 rfl (lv_at hl 1 rfl) ?_
  obtain ⟨q1, hq1, hf⟩ := zb_e hf
  refine x_calli (x_runV (As := [.int x1]) (rest := []) ⟨hx, hb, hml, hown, hts⟩ (c_X2_isTool l G hG I J 1 x1 zkL_1 hq1) (cwV 1 hts gX8_link_X2_isTool rfl rfl rfl (by decide +kernel) ⟨Nat.le_of_ble_eq_true rfl, Nat.le_of_ble_eq_true rfl⟩) hK hP zkL_1 (by decide) rfl rfl hl.1 rfl (Nat.le_of_ble_eq_true rfl) dX8_link_5 ⟨Nat.zero_le _, Nat.zero_le _⟩) hS (fun H locs hP hS => ?_)
  refine lv_if_eq (tgt := 31) hx hb dX8_link_8 (by decide) (fun c2 => ?_) (fun c2 => ?_)
  · have hf := zif_t c2 hf
    refine lv_iconst (v := (-1)) hx hb dX8_link_31 (by decide) ?_
    obtain rfl := Option.some.inj hf
    exact x_iret hx hb hr hlocks hK hP hS dX8_link_32
  · have hf := zif_f c2 hf
    refine lv_aload_n hx hb dX8_link_11 rfl (lv_at hl 0 rfl) ?_
    refine x_get (j := 1) (v := .ref (G.2.1 1)) hx hb hts hi8 hown hK hP zkL_0 rfl (by decide) (hts (.fieldLink RX8 20 "LeaseOffice" "office" "LLeaseOffice$Office;") (by decide +kernel)) rfl (by decide) dX8_link_12 ?_
    refine lv_iload_n hx hb dX8_link_15 rfl (lv_at hl 1 rfl) ?_
    obtain ⟨q3, hq3, hf⟩ := zb_e hf
    refine x_callr (x_runV (As := [.int x1]) (rest := []) ⟨hx, hb, hml, hown, hts⟩ (c_X2_toolAt l G hG I J 1 x1 zkL_1 hq3) (cwV 1 hts gX8_link_X2_toolAt rfl rfl rfl (by decide +kernel) ⟨Nat.le_of_ble_eq_true rfl, Nat.le_of_ble_eq_true rfl⟩) hK hP zkL_1 (by decide) rfl rfl hl.1 rfl (Nat.le_of_ble_eq_true rfl) dX8_link_16 ⟨Nat.zero_le _, Nat.zero_le _⟩) hS (fun H locs hP hS => ?_)
    refine x_get (j := 7) (v := .ref (G.2.1 (q3 + 1))) hx hb hts hi7 hown hK hP (kd_X2_toolAt zkL_1 hq3) rfl (by decide) (hts (.fieldLink RX8 139 "LeaseOffice$Tool" "links" "LLeaseOffice$Table;") (by decide +kernel)) rfl (by decide) dX8_link_19 ?_
    refine lv_iload_n hx hb dX8_link_22 rfl (lv_at hl 2 rfl) ?_
    refine lv_iload_n hx hb dX8_link_23 rfl (lv_at hl 3 rfl) ?_
    refine lv_iconst (v := 2) hx hb dX8_link_24 (by decide) ?_
    obtain ⟨q4, hq4, hf⟩ := zb_e hf
    refine x_calli (x_runS (As := [.ref (G.2.1 (q3 + 1)), .int x2, .int x3, .int 2]) (rest := []) ⟨hx, hb, hml, hown, hts⟩ (c_X8_entryOf l G hG I J (q3 + 1) x2 x3 2 (zk_7_7 (kd_X2_toolAt zkL_1 hq3)) hq4) (va_cwS 4 hts gX8_link_X8_entryOf rfl rfl rfl (by decide +kernel) ⟨Nat.le_of_ble_eq_true rfl, Nat.le_of_ble_eq_true rfl⟩) hK hP rfl hl.1 rfl (Nat.le_of_ble_eq_true rfl) dX8_link_25 ⟨Nat.zero_le _, Nat.zero_le _⟩) hS (fun H locs hP hS => ?_)
    refine lv_goto (tgt := 32) hx hb dX8_link_28 (by decide) ?_
    obtain rfl := Option.some.inj hf
    exact x_iret hx hb hr hlocks hK hP hS dX8_link_32
set_option maxRecDepth 100000 in
set_option maxHeartbeats 4000000 in
theorem c_X8_look (l : Launch) (G : zGT) (hG : zOK G) (I J : zM) (x1 : Int32) {r : Int32 × zM} (hf : f_X8_look I x1 = some r) : Met l yX8_look wsX8_look (zrm 4 96) (va_Pc [.ref (G.2.1 0), .int x1] (zS G I J)) (zQi G r.1 r.2 J) 0 0 (zA G) := by
  refine zMet (cc := cX8_look) (n := 2) (ret := (some .int)) (by decide) rfl (Nat.le_of_ble_eq_true rfl) ?_
  intro p e s m args below meth c H locs ls F hK hP hS hl
  obtain ⟨hx, hb, hr, hml, hts, hown, hlocks⟩ := F
  have hown : s.vm.findClass RX8 = some m.cls := hown
  have hl : lv_has ls 2 [(0, .ref (G.2.1 0)), (1, .int x1)] := hl
  have hi8 : ∀ w ∈ wsX80, w ∈ wsX8_look := fun _ h => List.mem_cons_of_mem _ (List.mem_append_left _ (List.mem_append_left _ (List.mem_append_left _ (List.mem_append_left _ (List.mem_append_left _ (List.mem_append_right _ h))))))
  unfold f_X8_look at hf
  refine lv_aload_n hx hb dX8_look_0 rfl (lv_at hl 0 rfl) ?_
  refine x_get (j := 1) (v := .ref (G.2.1 1)) hx hb hts hi8 hown hK hP zkL_0 rfl (by decide) (hts (.fieldLink RX8 20 "LeaseOffice" "office" "LLeaseOffice$Office;") (by decide +kernel)) rfl (by decide) dX8_look_1 ?_
  refine lv_iload_n hx hb dX8_look_4 rfl (lv_at hl 1 rfl) ?_
  obtain ⟨q1, hq1, hf⟩ := zb_e hf
  refine x_calli (x_runV (As := [.int x1]) (rest := []) ⟨hx, hb, hml, hown, hts⟩ (c_X2_lookAt l G hG I J 1 x1 zkL_1 hq1) (cwV 1 hts gX8_look_X2_lookAt rfl rfl rfl (by decide +kernel) ⟨Nat.le_of_ble_eq_true rfl, Nat.le_of_ble_eq_true rfl⟩) hK hP zkL_1 (by decide) rfl rfl hl.1 rfl (Nat.le_of_ble_eq_true rfl) dX8_look_5 ⟨Nat.zero_le _, Nat.zero_le _⟩) hS (fun H locs hP hS => ?_)
  obtain rfl := Option.some.inj hf
  exact x_iret hx hb hr hlocks hK hP hS dX8_look_8
set_option maxRecDepth 100000 in
set_option maxHeartbeats 4000000 in
theorem c_X8_pass (l : Launch) (G : zGT) (hG : zOK G) (I J : zM) (x1 : Int32) (x2 : Int32) {r : Int32 × zM} (hf : f_X8_pass I x1 x2 = some r) : Met l yX8_pass wsX8_pass (zrm 4 93) (va_Pc [.ref (G.2.1 0), .int x1, .int x2] (zS G I J)) (zQi G r.1 r.2 J) 0 0 (zA G) := by
  refine zMet (cc := cX8_pass) (n := 3) (ret := (some .int)) (by decide) rfl (Nat.le_of_ble_eq_true rfl) ?_
  intro p e s m args below meth c H locs ls F hK hP hS hl
  obtain ⟨hx, hb, hr, hml, hts, hown, hlocks⟩ := F
  have hown : s.vm.findClass RX8 = some m.cls := hown
  have hl : lv_has ls 3 [(0, .ref (G.2.1 0)), (1, .int x1), (2, .int x2)] := hl
  have hi8 : ∀ w ∈ wsX80, w ∈ wsX8_pass := fun _ h => List.mem_cons_of_mem _ (List.mem_append_left _ (List.mem_append_left _ (List.mem_append_left _ (List.mem_append_left _ (List.mem_append_right _ h)))))
  unfold f_X8_pass at hf
  refine lv_aload_n hx hb dX8_pass_0 rfl (lv_at hl 0 rfl) ?_
  refine x_get (j := 1) (v := .ref (G.2.1 1)) hx hb hts hi8 hown hK hP zkL_0 rfl (by decide) (hts (.fieldLink RX8 20 "LeaseOffice" "office" "LLeaseOffice$Office;") (by decide +kernel)) rfl (by decide) dX8_pass_1 ?_
  refine lv_iload_n hx hb dX8_pass_4 rfl (lv_at hl 1 rfl) ?_
  refine lv_iload_n hx hb dX8_pass_5 rfl (lv_at hl 2 rfl) ?_
  obtain ⟨q1, hq1, hf⟩ := zb_e hf
  refine x_calli (x_runV (As := [.int x1, .int x2]) (rest := []) ⟨hx, hb, hml, hown, hts⟩ (c_X2_passOn l G hG I J 1 x1 x2 zkL_1 hq1) (cwV 2 hts gX8_pass_X2_passOn rfl rfl rfl (by decide +kernel) ⟨Nat.le_of_ble_eq_true rfl, Nat.le_of_ble_eq_true rfl⟩) hK hP zkL_1 (by decide) rfl rfl hl.1 rfl (Nat.le_of_ble_eq_true rfl) dX8_pass_6 ⟨Nat.zero_le _, Nat.zero_le _⟩) hS (fun H locs hP hS => ?_)
  obtain rfl := Option.some.inj hf
  exact x_iret hx hb hr hlocks hK hP hS dX8_pass_9
set_option maxRecDepth 100000 in
set_option maxHeartbeats 4000000 in
theorem c_X8_person (l : Launch) (G : zGT) (hG : zOK G) (I J : zM) (x1 : Int32) (x2 : Int32) {r : Int32 × zM} (hf : f_X8_person I x1 x2 = some r) : Met l yX8_person wsX8_person (zrm 2 46) (va_Pc [.ref (G.2.1 0), .int x1, .int x2] (zS G I J)) (zQi G r.1 r.2 J) 0 0 (zA G) := by
  refine zMet (cc := cX8_person) (n := 3) (ret := (some .int)) (by decide) rfl (Nat.le_of_ble_eq_true rfl) ?_
  intro p e s m args below meth c H locs ls F hK hP hS hl
  obtain ⟨hx, hb, hr, hml, hts, hown, hlocks⟩ := F
  have hown : s.vm.findClass RX8 = some m.cls := hown
  have hl : lv_has ls 3 [(0, .ref (G.2.1 0)), (1, .int x1), (2, .int x2)] := hl
  have hi8 : ∀ w ∈ wsX80, w ∈ wsX8_person := fun _ h => List.mem_cons_of_mem _ (List.mem_append_left _ (List.mem_append_left _ (List.mem_append_right _ h)))
  unfold f_X8_person at hf
  refine lv_aload_n hx hb dX8_person_0 rfl (lv_at hl 0 rfl) ?_
  refine x_get (j := 1) (v := .ref (G.2.1 1)) hx hb hts hi8 hown hK hP zkL_0 rfl (by decide) (hts (.fieldLink RX8 20 "LeaseOffice" "office" "LLeaseOffice$Office;") (by decide +kernel)) rfl (by decide) dX8_person_1 ?_
  refine lv_iload_n hx hb dX8_person_4 rfl (lv_at hl 1 rfl) ?_
  refine lv_iload_n hx hb dX8_person_5 rfl (lv_at hl 2 rfl) ?_
  obtain ⟨q1, hq1, hf⟩ := zb_e hf
  refine x_calli (x_runV (As := [.int x1, .int x2]) (rest := []) ⟨hx, hb, hml, hown, hts⟩ (c_X2_enterPerson l G hG I J 1 x1 x2 zkL_1 hq1) (cwV 2 hts gX8_person_X2_enterPerson rfl rfl rfl (by decide +kernel) ⟨Nat.le_of_ble_eq_true rfl, Nat.le_of_ble_eq_true rfl⟩) hK hP zkL_1 (by decide) rfl rfl hl.1 rfl (Nat.le_of_ble_eq_true rfl) dX8_person_6 ⟨Nat.zero_le _, Nat.zero_le _⟩) hS (fun H locs hP hS => ?_)
  obtain rfl := Option.some.inj hf
  exact x_iret hx hb hr hlocks hK hP hS dX8_person_9
set_option maxRecDepth 100000 in
set_option maxHeartbeats 4000000 in
theorem c_X8_personOf (l : Launch) (G : zGT) (hG : zOK G) (I J : zM) (x1 : Int32) (x2 : Int32) {r : Int32} (hf : f_X8_personOf I x1 x2 = some r) : Met l yX8_personOf wsX8_personOf (zrm 3 68) (va_Pc [.ref (G.2.1 0), .int x1, .int x2] (zS G I J)) (zQi G r I J) 0 0 (zA G) := by
  refine zMet (cc := cX8_personOf) (n := 4) (ret := (some .int)) (by decide) rfl (Nat.le_of_ble_eq_true rfl) ?_
  intro p e s m args below meth c H locs ls F hK hP hS hl
  obtain ⟨hx, hb, hr, hml, hts, hown, hlocks⟩ := F
  have hown : s.vm.findClass RX8 = some m.cls := hown
  have hl : lv_has ls 4 [(0, .ref (G.2.1 0)), (1, .int x1), (2, .int x2)] := hl
  have hi3 : ∀ w ∈ wsX30, w ∈ wsX8_personOf := fun _ h => List.mem_cons_of_mem _ (List.mem_append_left _ (List.mem_append_left _ (List.mem_append_left _ (List.mem_append_right _ h))))
  have hi8 : ∀ w ∈ wsX80, w ∈ wsX8_personOf := fun _ h => List.mem_cons_of_mem _ (List.mem_append_left _ (List.mem_append_left _ (List.mem_append_left _ (List.mem_append_left _ (List.mem_append_right _ h)))))
  unfold f_X8_personOf at hf
  refine lv_aload_n hx hb dX8_personOf_0 rfl (lv_at hl 0 rfl) ?_
  refine x_get (j := 1) (v := .ref (G.2.1 1)) hx hb hts hi8 hown hK hP zkL_0 rfl (by decide) (hts (.fieldLink RX8 20 "LeaseOffice" "office" "LLeaseOffice$Office;") (by decide +kernel)) rfl (by decide) dX8_personOf_1 ?_
  refine lv_iload_n hx hb dX8_personOf_4 rfl (lv_at hl 1 rfl) ?_
  obtain ⟨q1, hq1, hf⟩ := zb_e hf
  refine x_calli (x_runV (As := [.int x1]) (rest := []) ⟨hx, hb, hml, hown, hts⟩ (c_X2_isPerson l G hG I J 1 x1 zkL_1 hq1) (cwV 1 hts gX8_personOf_X2_isPerson rfl rfl rfl (by decide +kernel) ⟨Nat.le_of_ble_eq_true rfl, Nat.le_of_ble_eq_true rfl⟩) hK hP zkL_1 (by decide) rfl rfl hl.1 rfl (Nat.le_of_ble_eq_true rfl) dX8_personOf_5 ⟨Nat.zero_le _, Nat.zero_le _⟩) hS (fun H locs hP hS => ?_)
  refine lv_if_ne (tgt := 13) hx hb dX8_personOf_8 (by decide) (fun c2 => ?_) (fun c2 => ?_)
  · have hf := zif_f c2 hf
    refine lv_aload_n hx hb dX8_personOf_13 rfl (lv_at hl 0 rfl) ?_
    refine x_get (j := 1) (v := .ref (G.2.1 1)) hx hb hts hi8 hown hK hP zkL_0 rfl (by decide) (hts (.fieldLink RX8 20 "LeaseOffice" "office" "LLeaseOffice$Office;") (by decide +kernel)) rfl (by decide) dX8_personOf_14 ?_
    refine lv_iload_n hx hb dX8_personOf_17 rfl (lv_at hl 1 rfl) ?_
    obtain ⟨q3, hq3, hf⟩ := zb_e hf
    refine x_callr (x_runV (As := [.int x1]) (rest := []) ⟨hx, hb, hml, hown, hts⟩ (c_X2_personAt l G hG I J 1 x1 zkL_1 hq3) (cwV 1 hts gX8_personOf_X2_personAt rfl rfl rfl (by decide +kernel) ⟨Nat.le_of_ble_eq_true rfl, Nat.le_of_ble_eq_true rfl⟩) hK hP zkL_1 (by decide) rfl rfl hl.1 rfl (Nat.le_of_ble_eq_true rfl) dX8_personOf_18 ⟨Nat.zero_le _, Nat.zero_le _⟩) hS (fun H locs hP hS => ?_)
    refine lv_astore_n (lv' := [(3, .ref (G.2.1 (q3))), (0, .ref (G.2.1 0)), (1, .int x1), (2, .int x2)]) hx hb dX8_personOf_21 rfl hl (by decide) rfl (fun ls hl => ?_)
    refine lv_iload_n hx hb dX8_personOf_22 rfl (lv_at hl 3 rfl) ?_
    rcases Classical.em (x2 = 0) with c7 | c7
    · have hf := zif_t c7 hf
      refine lv_tableIn (off := 45) (tgt := 68) hx hb dX8_personOf_23 (by rw [c7]; decide) (by rw [c7]; decide) (by rw [c7]; decide) (by decide) ?_
      refine lv_aload_n hx hb dX8_personOf_68 rfl (lv_at hl 0 rfl) ?_
      refine x_get (j := 0) (v := .int (I q3 0)) hx hb hts hi3 hown hK hP (kd_X2_personAt zkL_1 hq3) rfl (by decide) (hts (.fieldLink RX8 76 "LeaseOffice$Person" "name" "I") (by decide +kernel)) rfl (by decide) dX8_personOf_69 ?_
      obtain rfl := Option.some.inj hf
      exact x_iret hx hb hr hlocks hK hP hS dX8_personOf_72
    · have hf := zif_f c7 hf
      rcases Classical.em (x2 = 1) with c8 | c8
      · have hf := zif_t c8 hf
        refine lv_tableIn (off := 50) (tgt := 73) hx hb dX8_personOf_23 (by rw [c8]; decide) (by rw [c8]; decide) (by rw [c8]; decide) (by decide) ?_
        refine lv_aload_n hx hb dX8_personOf_73 rfl (lv_at hl 0 rfl) ?_
        refine x_get (j := 1) (v := .int (I q3 1)) hx hb hts hi3 hown hK hP (kd_X2_personAt zkL_1 hq3) rfl (by decide) (hts (.fieldLink RX8 82 "LeaseOffice$Person" "purse" "I") (by decide +kernel)) rfl (by decide) dX8_personOf_74 ?_
        obtain rfl := Option.some.inj hf
        exact x_iret hx hb hr hlocks hK hP hS dX8_personOf_77
      · have hf := zif_f c8 hf
        rcases Classical.em (x2 = 2) with c9 | c9
        · have hf := zif_t c9 hf
          refine lv_tableIn (off := 55) (tgt := 78) hx hb dX8_personOf_23 (by rw [c9]; decide) (by rw [c9]; decide) (by rw [c9]; decide) (by decide) ?_
          refine lv_aload_n hx hb dX8_personOf_78 rfl (lv_at hl 0 rfl) ?_
          refine x_get (j := 2) (v := .int (I q3 2)) hx hb hts hi3 hown hK hP (kd_X2_personAt zkL_1 hq3) rfl (by decide) (hts (.fieldLink RX8 85 "LeaseOffice$Person" "trust" "I") (by decide +kernel)) rfl (by decide) dX8_personOf_79 ?_
          obtain rfl := Option.some.inj hf
          exact x_iret hx hb hr hlocks hK hP hS dX8_personOf_82
        · have hf := zif_f c9 hf
          rcases Classical.em (x2 = 3) with c10 | c10
          · have hf := zif_t c10 hf
            refine lv_tableIn (off := 60) (tgt := 83) hx hb dX8_personOf_23 (by rw [c10]; decide) (by rw [c10]; decide) (by rw [c10]; decide) (by decide) ?_
            refine lv_aload_n hx hb dX8_personOf_83 rfl (lv_at hl 0 rfl) ?_
            refine x_get (j := 3) (v := .int (I q3 3)) hx hb hts hi3 hown hK hP (kd_X2_personAt zkL_1 hq3) rfl (by decide) (hts (.fieldLink RX8 88 "LeaseOffice$Person" "late" "I") (by decide +kernel)) rfl (by decide) dX8_personOf_84 ?_
            obtain rfl := Option.some.inj hf
            exact x_iret hx hb hr hlocks hK hP hS dX8_personOf_87
          · have hf := zif_f c10 hf
            rcases Classical.em (x2 = 4) with c11 | c11
            · have hf := zif_t c11 hf
              refine lv_tableIn (off := 65) (tgt := 88) hx hb dX8_personOf_23 (by rw [c11]; decide) (by rw [c11]; decide) (by rw [c11]; decide) (by decide) ?_
              refine lv_aload_n hx hb dX8_personOf_88 rfl (lv_at hl 0 rfl) ?_
              refine x_get (j := 4) (v := .int (I q3 4)) hx hb hts hi3 hown hK hP (kd_X2_personAt zkL_1 hq3) rfl (by decide) (hts (.fieldLink RX8 91 "LeaseOffice$Person" "debt" "I") (by decide +kernel)) rfl (by decide) dX8_personOf_89 ?_
              obtain rfl := Option.some.inj hf
              exact x_iret hx hb hr hlocks hK hP hS dX8_personOf_92
            · have hf := zif_f c11 hf
              rcases Classical.em (x2 = 5) with c12 | c12
              · have hf := zif_t c12 hf
                refine lv_tableIn (off := 70) (tgt := 93) hx hb dX8_personOf_23 (by rw [c12]; decide) (by rw [c12]; decide) (by rw [c12]; decide) (by decide) ?_
                refine lv_aload_n hx hb dX8_personOf_93 rfl (lv_at hl 1 rfl) ?_
                refine x_get (j := 1) (v := .ref (G.2.1 1)) hx hb hts hi8 hown hK hP zkL_0 rfl (by decide) (hts (.fieldLink RX8 20 "LeaseOffice" "office" "LLeaseOffice$Office;") (by decide +kernel)) rfl (by decide) dX8_personOf_94 ?_
                refine lv_iload_n hx hb dX8_personOf_97 rfl (lv_at hl 2 rfl) ?_
                obtain ⟨q4, hq4, hf⟩ := zb_e hf
                refine x_calli (x_runV (As := [.int x1]) (rest := []) ⟨hx, hb, hml, hown, hts⟩ (c_X2_toolsWith l G hG I J 1 x1 zkL_1 hq4) (cwV 1 hts gX8_personOf_X2_toolsWith rfl rfl rfl (by decide +kernel) ⟨Nat.le_of_ble_eq_true rfl, Nat.le_of_ble_eq_true rfl⟩) hK hP zkL_1 (by decide) rfl rfl hl.1 rfl (Nat.le_of_ble_eq_true rfl) dX8_personOf_98 ⟨Nat.zero_le _, Nat.zero_le _⟩) hS (fun H locs hP hS => ?_)
                obtain rfl := Option.some.inj hf
                exact x_iret hx hb hr hlocks hK hP hS dX8_personOf_101
              · have hf := zif_f c12 hf
                rcases Classical.em (x2 = 6) with c13 | c13
                · have hf := zif_t c13 hf
                  refine lv_tableIn (off := 79) (tgt := 102) hx hb dX8_personOf_23 (by rw [c13]; decide) (by rw [c13]; decide) (by rw [c13]; decide) (by decide) ?_
                  refine lv_aload_n hx hb dX8_personOf_102 rfl (lv_at hl 1 rfl) ?_
                  refine x_get (j := 1) (v := .ref (G.2.1 1)) hx hb hts hi8 hown hK hP zkL_0 rfl (by decide) (hts (.fieldLink RX8 20 "LeaseOffice" "office" "LLeaseOffice$Office;") (by decide +kernel)) rfl (by decide) dX8_personOf_103 ?_
                  refine lv_iload_n hx hb dX8_personOf_106 rfl (lv_at hl 2 rfl) ?_
                  obtain ⟨q5, hq5, hf⟩ := zb_e hf
                  refine x_calli (x_runV (As := [.int x1]) (rest := []) ⟨hx, hb, hml, hown, hts⟩ (c_X2_placeInRank l G hG I J 1 x1 zkL_1 hq5) (cwV 1 hts gX8_personOf_X2_placeInRank rfl rfl rfl (by decide +kernel) ⟨Nat.le_of_ble_eq_true rfl, Nat.le_of_ble_eq_true rfl⟩) hK hP zkL_1 (by decide) rfl rfl hl.1 rfl (Nat.le_of_ble_eq_true rfl) dX8_personOf_107 ⟨Nat.zero_le _, Nat.zero_le _⟩) hS (fun H locs hP hS => ?_)
                  obtain rfl := Option.some.inj hf
                  exact x_iret hx hb hr hlocks hK hP hS dX8_personOf_110
                · have hf := zif_f c13 hf
                  rcases Classical.em (x2 = 7) with c14 | c14
                  · have hf := zif_t c14 hf
                    refine lv_tableIn (off := 88) (tgt := 111) hx hb dX8_personOf_23 (by rw [c14]; decide) (by rw [c14]; decide) (by rw [c14]; decide) (by decide) ?_
                    refine lv_aload_n hx hb dX8_personOf_111 rfl (lv_at hl 1 rfl) ?_
                    refine x_get (j := 1) (v := .ref (G.2.1 1)) hx hb hts hi8 hown hK hP zkL_0 rfl (by decide) (hts (.fieldLink RX8 20 "LeaseOffice" "office" "LLeaseOffice$Office;") (by decide +kernel)) rfl (by decide) dX8_personOf_112 ?_
                    refine lv_iload_n hx hb dX8_personOf_115 rfl (lv_at hl 2 rfl) ?_
                    obtain ⟨q6, hq6, hf⟩ := zb_e hf
                    refine x_calli (x_runV (As := [.int x1]) (rest := []) ⟨hx, hb, hml, hown, hts⟩ (c_X2_claimsOf l G hG I J 1 x1 zkL_1 hq6) (cwV 1 hts gX8_personOf_X2_claimsOf rfl rfl rfl (by decide +kernel) ⟨Nat.le_of_ble_eq_true rfl, Nat.le_of_ble_eq_true rfl⟩) hK hP zkL_1 (by decide) rfl rfl hl.1 rfl (Nat.le_of_ble_eq_true rfl) dX8_personOf_116 ⟨Nat.zero_le _, Nat.zero_le _⟩) hS (fun H locs hP hS => ?_)
                    obtain rfl := Option.some.inj hf
                    exact x_iret hx hb hr hlocks hK hP hS dX8_personOf_119
                  · have hf := zif_f c14 hf
                    have hD : W p l e (zrm 3 68) s m args below meth c H locs 0 0 (MQ below (zQi G r I J) args s 0 0 (zA G)) (F0 m 120 ls []) := by
                      refine lv_iconst (v := (-1)) hx hb dX8_personOf_120 (by decide) ?_
                      obtain rfl := Option.some.inj hf
                      exact x_iret hx hb hr hlocks hK hP hS dX8_personOf_121
                    rcases z_sw x2 0 7 8 (by decide) with h | ⟨k, hk, e⟩
                    · exact lv_tableOut hx hb dX8_personOf_23 h (by decide) hD
                    · match k, hk, e with
                      | 0, _, e => exact absurd (e.trans (by decide)) c7
                      | 1, _, e => exact absurd (e.trans (by decide)) c8
                      | 2, _, e => exact absurd (e.trans (by decide)) c9
                      | 3, _, e => exact absurd (e.trans (by decide)) c10
                      | 4, _, e => exact absurd (e.trans (by decide)) c11
                      | 5, _, e => exact absurd (e.trans (by decide)) c12
                      | 6, _, e => exact absurd (e.trans (by decide)) c13
                      | 7, _, e => exact absurd (e.trans (by decide)) c14
                      | _ + 8, hk, _ => exact absurd hk (by omega)
  · have hf := zif_t c2 hf
    refine lv_iconst (v := (-1)) hx hb dX8_personOf_11 (by decide) ?_
    obtain rfl := Option.some.inj hf
    exact x_iret hx hb hr hlocks hK hP hS dX8_personOf_12
set_option maxRecDepth 100000 in
set_option maxHeartbeats 4000000 in
theorem c_X8_put (l : Launch) (G : zGT) (hG : zOK G) (I J : zM) (x1 : Int32) (x2 : Int32) (x3 : Int32) {r : Int32 × zM} (hf : f_X8_put I x1 x2 x3 = some r) : Met l yX8_put wsX8_put (zrm 1 24) (va_Pc [.ref (G.2.1 0), .int x1, .int x2, .int x3] (zS G I J)) (zQi G r.1 r.2 J) 0 0 (zA G) := by
  refine zMet (cc := cX8_put) (n := 6) (ret := (some .int)) (by decide) rfl (Nat.le_of_ble_eq_true rfl) ?_
  intro p e s m args below meth c H locs ls F hK hP hS hl
  obtain ⟨hx, hb, hr, hml, hts, hown, hlocks⟩ := F
  have hown : s.vm.findClass RX8 = some m.cls := hown
  have hl : lv_has ls 6 [(0, .ref (G.2.1 0)), (1, .int x1), (2, .int x2), (3, .int x3)] := hl
  have hi1 : ∀ w ∈ wsX10, w ∈ wsX8_put := fun _ h => List.mem_cons_of_mem _ (List.mem_append_left _ (List.mem_append_left _ (List.mem_append_right _ h)))
  unfold f_X8_put at hf
  refine lv_aload_n hx hb dX8_put_0 rfl (lv_at hl 0 rfl) ?_
  refine lv_iload_n hx hb dX8_put_1 rfl (lv_at hl 1 rfl) ?_
  obtain ⟨q1, hq1, hf⟩ := zb_e hf
  refine x_callr (x_runV (As := [.int x1]) (rest := []) ⟨hx, hb, hml, hown, hts⟩ (c_X8_holderAt l G hG I J x1 hq1) (cwV 1 hts gX8_put_X8_holderAt rfl rfl rfl (by decide +kernel) ⟨Nat.le_of_ble_eq_true rfl, Nat.le_of_ble_eq_true rfl⟩) hK hP zkL_0 (by decide) rfl rfl hl.1 rfl (Nat.le_of_ble_eq_true rfl) dX8_put_2 ⟨Nat.zero_le _, Nat.zero_le _⟩) hS (fun H locs hP hS => ?_)
  refine lv_astore (lv' := [(4, .ref (G.2.1 (q1))), (0, .ref (G.2.1 0)), (1, .int x1), (2, .int x2), (3, .int x3)]) hx hb dX8_put_5 hl (by decide) rfl (fun ls hl => ?_)
  refine lv_aload hx hb dX8_put_7 (lv_at hl 0 rfl) ?_
  refine x_get (j := 0) (v := .int (I q1 0)) hx hb hts hi1 hown hK hP (kd_X8_holderAt hq1) rfl (by decide) (hts (.fieldLink RX8 229 "LeaseOffice$Holder" "sort" "I") (by decide +kernel)) rfl (by decide) dX8_put_9 ?_
  refine lv_iconst (v := 3) hx hb dX8_put_12 (by decide) ?_
  refine lv_icmp_ne (tgt := 32) hx hb dX8_put_13 (by decide) (fun c2 => ?_) (fun c2 => ?_)
  · have hf := zif_f c2 hf
    refine lv_ldcw (v := (-2000000000)) hx hb hown (hts (.constant RX8 284 (-2000000000)) (by decide +kernel)) dX8_put_32 ?_
    obtain rfl := Option.some.inj hf
    exact x_iret hx hb hr hlocks hK hP hS dX8_put_35
  · have hf := zif_t c2 hf
    refine lv_iload_n hx hb dX8_put_16 rfl (lv_at hl 3 rfl) ?_
    refine lv_if_lt (tgt := 32) hx hb dX8_put_17 (by decide) (fun c3 => ?_) (fun c3 => ?_)
    · have hf := zif_t c3 hf
      refine lv_ldcw (v := (-2000000000)) hx hb hown (hts (.constant RX8 284 (-2000000000)) (by decide +kernel)) dX8_put_32 ?_
      obtain rfl := Option.some.inj hf
      exact x_iret hx hb hr hlocks hK hP hS dX8_put_35
    · have hf := zif_f c3 hf
      refine lv_iload_n hx hb dX8_put_20 rfl (lv_at hl 3 rfl) ?_
      refine lv_aload hx hb dX8_put_21 (lv_at hl 0 rfl) ?_
      refine x_get (j := 2) (v := .ref (G.2.1 (q1 + 1))) hx hb hts hi1 hown hK hP (kd_X8_holderAt hq1) rfl (by decide) (hts (.fieldLink RX8 235 "LeaseOffice$Holder" "items" "LLeaseOffice$Table;") (by decide +kernel)) rfl (by decide) dX8_put_23 ?_
      obtain ⟨q4, hq4, hf⟩ := zb_e hf
      refine x_calli (x_runV (As := []) (rest := [.int x2]) ⟨hx, hb, hml, hown, hts⟩ (c_X4_size l G hG I J (q1 + 1) (zk_1_2 (kd_X8_holderAt hq1)) hq4) (cwV 0 hts gX8_put_X4_size rfl rfl rfl (by decide +kernel) ⟨Nat.le_of_ble_eq_true rfl, Nat.le_of_ble_eq_true rfl⟩) hK hP (zk_1_2 (kd_X8_holderAt hq1)) (by decide) rfl rfl hl.1 rfl (Nat.le_of_ble_eq_true rfl) dX8_put_26 ⟨Nat.zero_le _, Nat.zero_le _⟩) hS (fun H locs hP hS => ?_)
      refine lv_icmp_lt (tgt := 36) hx hb dX8_put_29 (by decide) (fun c5 => ?_) (fun c5 => ?_)
      · have hf := zif_t c5 hf
        refine lv_aload hx hb dX8_put_36 (lv_at hl 0 rfl) ?_
        refine x_get (j := 2) (v := .ref (G.2.1 (q1 + 1))) hx hb hts hi1 hown hK hP (kd_X8_holderAt hq1) rfl (by decide) (hts (.fieldLink RX8 235 "LeaseOffice$Holder" "items" "LLeaseOffice$Table;") (by decide +kernel)) rfl (by decide) dX8_put_38 ?_
        refine lv_iload_n hx hb dX8_put_41 rfl (lv_at hl 3 rfl) ?_
        refine lv_iconst (v := 0) hx hb dX8_put_42 (by decide) ?_
        obtain ⟨q6, hq6, hf⟩ := zb_e hf
        refine x_calli (x_runV (As := [.int x2, .int 0]) (rest := []) ⟨hx, hb, hml, hown, hts⟩ (c_X4_cell l G hG I J (q1 + 1) x2 0 (zk_1_2 (kd_X8_holderAt hq1)) hq6) (cwV 2 hts gX8_put_X4_cell rfl rfl rfl (by decide +kernel) ⟨Nat.le_of_ble_eq_true rfl, Nat.le_of_ble_eq_true rfl⟩) hK hP (zk_1_2 (kd_X8_holderAt hq1)) (by decide) rfl rfl hl.1 rfl (Nat.le_of_ble_eq_true rfl) dX8_put_43 ⟨Nat.zero_le _, Nat.zero_le _⟩) hS (fun H locs hP hS => ?_)
        refine lv_istore (lv' := [(5, .int q6), (4, .ref (G.2.1 (q1))), (0, .ref (G.2.1 0)), (1, .int x1), (2, .int x2), (3, .int x3)]) hx hb dX8_put_46 hl (by decide) rfl (fun ls hl => ?_)
        refine lv_aload hx hb dX8_put_48 (lv_at hl 1 rfl) ?_
        refine x_get (j := 2) (v := .ref (G.2.1 (q1 + 1))) hx hb hts hi1 hown hK hP (kd_X8_holderAt hq1) rfl (by decide) (hts (.fieldLink RX8 235 "LeaseOffice$Holder" "items" "LLeaseOffice$Table;") (by decide +kernel)) rfl (by decide) dX8_put_50 ?_
        refine lv_iload_n hx hb dX8_put_53 rfl (lv_at hl 4 rfl) ?_
        refine lv_iconst (v := 0) hx hb dX8_put_54 (by decide) ?_
        refine lv_iload_n hx hb dX8_put_55 rfl (lv_at hl 5 rfl) ?_
        obtain ⟨q7, hq7, hf⟩ := zb_e hf
        refine x_callv (x_runV (As := [.int x2, .int 0, .int x3]) (rest := []) ⟨hx, hb, hml, hown, hts⟩ (c_X4_setCell l G hG I J (q1 + 1) x2 0 x3 (zk_1_2 (kd_X8_holderAt hq1)) hq7) (cwV 3 hts gX8_put_X4_setCell rfl rfl rfl (by decide +kernel) ⟨Nat.le_of_ble_eq_true rfl, Nat.le_of_ble_eq_true rfl⟩) hK hP (zk_1_2 (kd_X8_holderAt hq1)) (by decide) rfl rfl hl.1 rfl (Nat.le_of_ble_eq_true rfl) dX8_put_56 ⟨Nat.zero_le _, Nat.zero_le _⟩) hS (fun H locs hP hS => ?_)
        refine lv_iload hx hb dX8_put_59 (lv_at hl 0 rfl) ?_
        obtain rfl := Option.some.inj hf
        exact x_iret hx hb hr hlocks hK hP hS dX8_put_61
      · have hf := zif_f c5 hf
        refine lv_ldcw (v := (-2000000000)) hx hb hown (hts (.constant RX8 284 (-2000000000)) (by decide +kernel)) dX8_put_32 ?_
        obtain rfl := Option.some.inj hf
        exact x_iret hx hb hr hlocks hK hP hS dX8_put_35
set_option maxRecDepth 100000 in
set_option maxHeartbeats 4000000 in
theorem c_X8_ranked (l : Launch) (G : zGT) (hG : zOK G) (I J : zM) (x1 : Int32) {r : Int32} (hf : f_X8_ranked I x1 = some r) : Met l yX8_ranked wsX8_ranked (zrm 4 86) (va_Pc [.ref (G.2.1 0), .int x1] (zS G I J)) (zQi G r I J) 0 0 (zA G) := by
  refine zMet (cc := cX8_ranked) (n := 2) (ret := (some .int)) (by decide) rfl (Nat.le_of_ble_eq_true rfl) ?_
  intro p e s m args below meth c H locs ls F hK hP hS hl
  obtain ⟨hx, hb, hr, hml, hts, hown, hlocks⟩ := F
  have hown : s.vm.findClass RX8 = some m.cls := hown
  have hl : lv_has ls 2 [(0, .ref (G.2.1 0)), (1, .int x1)] := hl
  have hi8 : ∀ w ∈ wsX80, w ∈ wsX8_ranked := fun _ h => List.mem_cons_of_mem _ (List.mem_append_left _ (List.mem_append_left _ (List.mem_append_right _ h)))
  unfold f_X8_ranked at hf
  refine lv_iload_n hx hb dX8_ranked_0 rfl (lv_at hl 1 rfl) ?_
  refine lv_if_ge (tgt := 8) hx hb dX8_ranked_1 (by decide) (fun c1 => ?_) (fun c1 => ?_)
  · have hf := zif_t c1 hf
    refine lv_aload_n hx hb dX8_ranked_8 rfl (lv_at hl 0 rfl) ?_
    refine x_get (j := 1) (v := .ref (G.2.1 1)) hx hb hts hi8 hown hK hP zkL_0 rfl (by decide) (hts (.fieldLink RX8 20 "LeaseOffice" "office" "LLeaseOffice$Office;") (by decide +kernel)) rfl (by decide) dX8_ranked_9 ?_
    refine lv_iload_n hx hb dX8_ranked_12 rfl (lv_at hl 1 rfl) ?_
    obtain ⟨q2, hq2, hf⟩ := zb_e hf
    refine x_calli (x_runV (As := [.int x1]) (rest := []) ⟨hx, hb, hml, hown, hts⟩ (c_X2_personAtRank l G hG I J 1 x1 zkL_1 hq2) (cwV 1 hts gX8_ranked_X2_personAtRank rfl rfl rfl (by decide +kernel) ⟨Nat.le_of_ble_eq_true rfl, Nat.le_of_ble_eq_true rfl⟩) hK hP zkL_1 (by decide) rfl rfl hl.1 rfl (Nat.le_of_ble_eq_true rfl) dX8_ranked_13 ⟨Nat.zero_le _, Nat.zero_le _⟩) hS (fun H locs hP hS => ?_)
    obtain rfl := Option.some.inj hf
    exact x_iret hx hb hr hlocks hK hP hS dX8_ranked_16
  · have hf := zif_f c1 hf
    refine lv_iconst (v := (-1)) hx hb dX8_ranked_4 (by decide) ?_
    refine lv_goto (tgt := 16) hx hb dX8_ranked_5 (by decide) ?_
    obtain rfl := Option.some.inj hf
    exact x_iret hx hb hr hlocks hK hP hS dX8_ranked_16
set_option maxRecDepth 100000 in
set_option maxHeartbeats 4000000 in
theorem c_X8_returned (l : Launch) (G : zGT) (hG : zOK G) (I J : zM) (x1 : Int32) {r : Int32 × zM} (hf : f_X8_returned I x1 = some r) : Met l yX8_returned wsX8_returned (zrm 5 120) (va_Pc [.ref (G.2.1 0), .int x1] (zS G I J)) (zQi G r.1 r.2 J) 0 0 (zA G) := by
  refine zMet (cc := cX8_returned) (n := 2) (ret := (some .int)) (by decide) rfl (Nat.le_of_ble_eq_true rfl) ?_
  intro p e s m args below meth c H locs ls F hK hP hS hl
  obtain ⟨hx, hb, hr, hml, hts, hown, hlocks⟩ := F
  have hown : s.vm.findClass RX8 = some m.cls := hown
  have hl : lv_has ls 2 [(0, .ref (G.2.1 0)), (1, .int x1)] := hl
  have hi8 : ∀ w ∈ wsX80, w ∈ wsX8_returned := fun _ h => List.mem_cons_of_mem _ (List.mem_append_left _ (List.mem_append_left _ (List.mem_append_left _ (List.mem_append_left _ (List.mem_append_left _ (List.mem_append_right _ h))))))
  unfold f_X8_returned at hf
  refine lv_aload_n hx hb dX8_returned_0 rfl (lv_at hl 0 rfl) ?_
  refine x_get (j := 1) (v := .ref (G.2.1 1)) hx hb hts hi8 hown hK hP zkL_0 rfl (by decide) (hts (.fieldLink RX8 20 "LeaseOffice" "office" "LLeaseOffice$Office;") (by decide +kernel)) rfl (by decide) dX8_returned_1 ?_
  refine lv_iload_n hx hb dX8_returned_4 rfl (lv_at hl 1 rfl) ?_
  obtain ⟨q1, hq1, hf⟩ := zb_e hf
  refine x_calli (x_runV (As := [.int x1]) (rest := []) ⟨hx, hb, hml, hown, hts⟩ (c_X2_giveBack l G hG I J 1 x1 zkL_1 hq1) (cwV 1 hts gX8_returned_X2_giveBack rfl rfl rfl (by decide +kernel) ⟨Nat.le_of_ble_eq_true rfl, Nat.le_of_ble_eq_true rfl⟩) hK hP zkL_1 (by decide) rfl rfl hl.1 rfl (Nat.le_of_ble_eq_true rfl) dX8_returned_5 ⟨Nat.zero_le _, Nat.zero_le _⟩) hS (fun H locs hP hS => ?_)
  obtain rfl := Option.some.inj hf
  exact x_iret hx hb hr hlocks hK hP hS dX8_returned_8
set_option maxRecDepth 100000 in
set_option maxHeartbeats 4000000 in
theorem c_X8_row (l : Launch) (G : zGT) (hG : zOK G) (I J : zM) (x1 : Int32) (x2 : Int32) {r : Int32 × zM} (hf : f_X8_row I x1 x2 = some r) : Met l yX8_row wsX8_row (zrm 2 44) (va_Pc [.ref (G.2.1 0), .int x1, .int x2] (zS G I J)) (zQi G r.1 r.2 J) 0 0 (zA G) := by
  refine zMet (cc := cX8_row) (n := 3) (ret := (some .int)) (by decide) rfl (Nat.le_of_ble_eq_true rfl) ?_
  intro p e s m args below meth c H locs ls F hK hP hS hl
  obtain ⟨hx, hb, hr, hml, hts, hown, hlocks⟩ := F
  have hown : s.vm.findClass RX8 = some m.cls := hown
  have hl : lv_has ls 3 [(0, .ref (G.2.1 0)), (1, .int x1), (2, .int x2)] := hl
  unfold f_X8_row at hf
  refine lv_iload_n hx hb dX8_row_0 rfl (lv_at hl 1 rfl) ?_
  obtain ⟨q1, hq1, hf⟩ := zb_e hf
  refine x_calli (x_runS (As := [.int x1]) (rest := []) ⟨hx, hb, hml, hown, hts⟩ (c_X8_isHolder l G hG I J x1 hq1) (va_cwS 1 hts gX8_row_X8_isHolder rfl rfl rfl (by decide +kernel) ⟨Nat.le_of_ble_eq_true rfl, Nat.le_of_ble_eq_true rfl⟩) hK hP rfl hl.1 rfl (Nat.le_of_ble_eq_true rfl) dX8_row_1 ⟨Nat.zero_le _, Nat.zero_le _⟩) hS (fun H locs hP hS => ?_)
  refine lv_if_eq (tgt := 13) hx hb dX8_row_4 (by decide) (fun c2 => ?_) (fun c2 => ?_)
  · have hf := zif_t c2 hf
    refine lv_iconst (v := (-1)) hx hb dX8_row_13 (by decide) ?_
    obtain rfl := Option.some.inj hf
    exact x_iret hx hb hr hlocks hK hP hS dX8_row_14
  · have hf := zif_f c2 hf
    refine lv_iload_n hx hb dX8_row_7 rfl (lv_at hl 2 rfl) ?_
    refine lv_bipush (v := 60) hx hb dX8_row_8 (by decide) ?_
    refine lv_icmp_le (tgt := 15) hx hb dX8_row_10 (by decide) (fun c3 => ?_) (fun c3 => ?_)
    · have hf := zif_t c3 hf
      refine lv_iload_n hx hb dX8_row_15 rfl (lv_at hl 2 rfl) ?_
      refine lv_if_ge (tgt := 22) hx hb dX8_row_16 (by decide) (fun c4 => ?_) (fun c4 => ?_)
      · have hf := zif_t c4 hf
        refine lv_aload_n hx hb dX8_row_22 rfl (lv_at hl 0 rfl) ?_
        refine lv_iload_n hx hb dX8_row_23 rfl (lv_at hl 1 rfl) ?_
        obtain ⟨q5, hq5, hf⟩ := zb_e hf
        refine x_callr (x_runV (As := [.int x1]) (rest := []) ⟨hx, hb, hml, hown, hts⟩ (c_X8_holderAt l G hG I J x1 hq5) (cwV 1 hts gX8_row_X8_holderAt rfl rfl rfl (by decide +kernel) ⟨Nat.le_of_ble_eq_true rfl, Nat.le_of_ble_eq_true rfl⟩) hK hP zkL_0 (by decide) rfl rfl hl.1 rfl (Nat.le_of_ble_eq_true rfl) dX8_row_24 ⟨Nat.zero_le _, Nat.zero_le _⟩) hS (fun H locs hP hS => ?_)
        refine lv_iload_n hx hb dX8_row_27 rfl (lv_at hl 2 rfl) ?_
        obtain ⟨q6, hq6, hf⟩ := zb_e hf
        refine x_callv (x_runV (As := [.int x2]) (rest := []) ⟨hx, hb, hml, hown, hts⟩ (c_X1_takeRow l G hG I J q5 x2 (kd_X8_holderAt hq5) hq6) (cwV 1 hts gX8_row_X1_takeRow rfl rfl rfl (by decide +kernel) ⟨Nat.le_of_ble_eq_true rfl, Nat.le_of_ble_eq_true rfl⟩) hK hP (kd_X8_holderAt hq5) (by decide) rfl rfl hl.1 rfl (Nat.le_of_ble_eq_true rfl) dX8_row_28 ⟨Nat.zero_le _, Nat.zero_le _⟩) hS (fun H locs hP hS => ?_)
        refine lv_iconst (v := 1) hx hb dX8_row_31 (by decide) ?_
        obtain rfl := Option.some.inj hf
        exact x_iret hx hb hr hlocks hK hP hS dX8_row_32
      · have hf := zif_f c4 hf
        refine lv_bipush (v := (-14)) hx hb dX8_row_19 (by decide) ?_
        obtain rfl := Option.some.inj hf
        exact x_iret hx hb hr hlocks hK hP hS dX8_row_21
    · have hf := zif_f c3 hf
      refine lv_iconst (v := (-1)) hx hb dX8_row_13 (by decide) ?_
      obtain rfl := Option.some.inj hf
      exact x_iret hx hb hr hlocks hK hP hS dX8_row_14
set_option maxRecDepth 100000 in
set_option maxHeartbeats 4000000 in
theorem c_X8_script (l : Launch) (G : zGT) (hG : zOK G) (I J : zM) {r : Int32 × zM} (hf : f_X8_script I = some r) : Met l yX8_script wsX8_script (zrm 6 146) (va_Pc [.ref (G.2.1 0)] (zS G I J)) (zQi G r.1 r.2 J) 0 0 (zA G) := by
  refine zMet (cc := cX8_script) (n := 3) (ret := (some .int)) (by decide) rfl (Nat.le_of_ble_eq_true rfl) ?_
  intro p e s m args below meth c H locs ls F hK hP hS hl
  obtain ⟨hx, hb, hr, hml, hts, hown, hlocks⟩ := F
  have hown : s.vm.findClass RX8 = some m.cls := hown
  have hl : lv_has ls 3 [(0, .ref (G.2.1 0))] := hl
  have hi5 : ∀ w ∈ wsX50, w ∈ wsX8_script := fun _ h => List.mem_cons_of_mem _ (List.mem_append_left _ (List.mem_append_left _ (List.mem_append_left _ (List.mem_append_left _ (List.mem_append_left _ (List.mem_append_right _ h))))))
  have hi8 : ∀ w ∈ wsX80, w ∈ wsX8_script := fun _ h => List.mem_cons_of_mem _ (List.mem_append_left _ (List.mem_append_left _ (List.mem_append_left _ (List.mem_append_left _ (List.mem_append_left _ (List.mem_append_left _ (List.mem_append_right _ h)))))))
  have L44 : ∀ (K : zM → Option (Int32 × zM)) (hKK : ∀ (M2 : zM) (H : Heap) (locs : List Loc) (ls : Array Slot), K M2 = some r → va_P G.1 vwCl (zW G M2 J) H → va_S (zA G) s.heap H locs → lv_has ls 3 [(0, .ref (G.2.1 0))] → W p l e (zrm 6 146) s m args below meth c H locs 0 0 (MQ below (zQi G r.1 r.2 J) args s 0 0 (zA G)) (F0 m 96 ls [])) (n : Nat) (M : zM) (y2 : Int32) (H : Heap) (locs : List Loc) (ls : Array Slot), f_X8_script_l44 K n M y2 = some r → va_P G.1 vwCl (zW G M J) H → va_S (zA G) s.heap H locs → lv_has ls 3 [(0, .ref (G.2.1 0)), (2, .int y2)] → W p l e (zrm 6 146) s m args below meth c H locs 0 0 (MQ below (zQi G r.1 r.2 J) args s 0 0 (zA G)) (F0 m 44 ls []) := by
    intro K hKK n
    induction n with
    | zero =>
      intro M y2 H locs ls hf
      rw [f_X8_script_l44] at hf
      cases hf
    | succ n ih =>
      intro M y2 H locs ls hf hP hS hl
      rw [f_X8_script_l44] at hf
      refine lv_iload_n hx hb dX8_script_44 rfl (lv_at hl 1 rfl) ?_
      refine lv_aload_n hx hb dX8_script_45 rfl (lv_at hl 0 rfl) ?_
      refine x_get (j := 4) (v := .ref (G.2.1 334)) hx hb hts hi8 hown hK hP zkL_0 rfl (by decide) (hts (.fieldLink RX8 33 "LeaseOffice" "reader" "LLeaseOffice$TextReader;") (by decide +kernel)) rfl (by decide) dX8_script_46 ?_
      refine x_get (j := 1) (v := .ref (G.2.1 335)) hx hb hts hi5 hown hK hP zkL_334 rfl (by decide) (hts (.fieldLink RX8 262 "LeaseOffice$TextReader" "lines" "LLeaseOffice$Table;") (by decide +kernel)) rfl (by decide) dX8_script_49 ?_
      obtain ⟨q5, hq5, hf⟩ := zb_e hf
      refine x_calli (x_runV (As := []) (rest := [.int y2]) ⟨hx, hb, hml, hown, hts⟩ (c_X4_size l G hG M J 335 zkL_335 hq5) (cwV 0 hts gX8_script_X4_size rfl rfl rfl (by decide +kernel) ⟨Nat.le_of_ble_eq_true rfl, Nat.le_of_ble_eq_true rfl⟩) hK hP zkL_335 (by decide) rfl rfl hl.1 rfl (Nat.le_of_ble_eq_true rfl) dX8_script_52 ⟨Nat.zero_le _, Nat.zero_le _⟩) hS (fun H locs hP hS => ?_)
      refine lv_icmp_ge (tgt := 96) hx hb dX8_script_55 (by decide) (fun c6 => ?_) (fun c6 => ?_)
      · have hf := zif_t c6 hf
        exact hKK M H locs ls hf hP hS (lv_sub hl [0] rfl)
      · have hf := zif_f c6 hf
        refine lv_aload_n hx hb dX8_script_58 rfl (lv_at hl 0 rfl) ?_
        refine lv_aload_n hx hb dX8_script_59 rfl (lv_at hl 0 rfl) ?_
        refine x_get (j := 4) (v := .ref (G.2.1 334)) hx hb hts hi8 hown hK hP zkL_0 rfl (by decide) (hts (.fieldLink RX8 33 "LeaseOffice" "reader" "LLeaseOffice$TextReader;") (by decide +kernel)) rfl (by decide) dX8_script_60 ?_
        refine x_get (j := 1) (v := .ref (G.2.1 335)) hx hb hts hi5 hown hK hP zkL_334 rfl (by decide) (hts (.fieldLink RX8 262 "LeaseOffice$TextReader" "lines" "LLeaseOffice$Table;") (by decide +kernel)) rfl (by decide) dX8_script_63 ?_
        refine lv_iload_n hx hb dX8_script_66 rfl (lv_at hl 1 rfl) ?_
        obtain ⟨q7, hq7, hf⟩ := zb_e hf
        refine x_calli (x_runV (As := [.ref (G.2.1 335), .int y2]) (rest := []) ⟨hx, hb, hml, hown, hts⟩ (c_X8_doLine l G hG M J 335 y2 zkL_335 hq7) (cwV 2 hts gX8_script_X8_doLine rfl rfl rfl (by decide +kernel) ⟨Nat.le_of_ble_eq_true rfl, Nat.le_of_ble_eq_true rfl⟩) hK hP zkL_0 (by decide) rfl rfl hl.1 rfl (Nat.le_of_ble_eq_true rfl) dX8_script_67 ⟨Nat.zero_le _, Nat.zero_le _⟩) hS (fun H locs hP hS => ?_)
        refine lv_if_ge (tgt := 90) hx hb dX8_script_70 (by decide) (fun c8 => ?_) (fun c8 => ?_)
        · have hf := zif_t c8 hf
          refine lv_iinc (v := (y2 + 1)) (lv' := [(2, .int (y2 + 1)), (0, .ref (G.2.1 0))]) hx hb dX8_script_90 hl (k := 1) rfl rfl (by decide) rfl (fun ls hl => ?_)
          refine lv_goto (tgt := 44) hx hb dX8_script_93 (by decide) ?_
          exact ih q7.2 (y2 + 1) H locs ls hf hP hS (lv_sub hl [1, 0] rfl)
        · have hf := zif_f c8 hf
          refine lv_aload_n hx hb dX8_script_73 rfl (lv_at hl 0 rfl) ?_
          refine x_get (j := 1) (v := .ref (G.2.1 1)) hx hb hts hi8 hown hK hP zkL_0 rfl (by decide) (hts (.fieldLink RX8 20 "LeaseOffice" "office" "LLeaseOffice$Office;") (by decide +kernel)) rfl (by decide) dX8_script_74 ?_
          refine lv_aload_n hx hb dX8_script_77 rfl (lv_at hl 0 rfl) ?_
          refine x_get (j := 3) (v := .ref (G.2.1 219)) hx hb hts hi8 hown hK hP zkL_0 rfl (by decide) (hts (.fieldLink RX8 27 "LeaseOffice" "aheadOfText" "LLeaseOffice$Office;") (by decide +kernel)) rfl (by decide) dX8_script_78 ?_
          obtain ⟨q9, hq9, hf⟩ := zb_e hf
          refine x_callv (x_runV (As := [.ref (G.2.1 219)]) (rest := []) ⟨hx, hb, hml, hown, hts⟩ (c_X2_copyFrom l G hG q7.2 J 1 219 zkL_1 zkL_219 hq9) (cwV 1 hts gX8_script_X2_copyFrom rfl rfl rfl (by decide +kernel) ⟨Nat.le_of_ble_eq_true rfl, Nat.le_of_ble_eq_true rfl⟩) hK hP zkL_1 (by decide) rfl rfl hl.1 rfl (Nat.le_of_ble_eq_true rfl) dX8_script_81 ⟨Nat.zero_le _, Nat.zero_le _⟩) hS (fun H locs hP hS => ?_)
          refine lv_sipush (v := (-2000)) hx hb dX8_script_84 (by decide) ?_
          refine lv_iload_n hx hb dX8_script_87 rfl (lv_at hl 1 rfl) ?_
          refine lv_isub hx hb dX8_script_88 ?_
          obtain rfl := Option.some.inj hf
          exact x_iret hx hb hr hlocks hK hP hS dX8_script_89
  unfold f_X8_script at hf
  refine lv_aload_n hx hb dX8_script_0 rfl (lv_at hl 0 rfl) ?_
  refine x_get (j := 4) (v := .ref (G.2.1 334)) hx hb hts hi8 hown hK hP zkL_0 rfl (by decide) (hts (.fieldLink RX8 33 "LeaseOffice" "reader" "LLeaseOffice$TextReader;") (by decide +kernel)) rfl (by decide) dX8_script_1 ?_
  obtain ⟨q1, hq1, hf⟩ := zb_e hf
  refine x_calli (x_runV (As := []) (rest := []) ⟨hx, hb, hml, hown, hts⟩ (c_X5_readText l G hG I J hq1) (cwV 0 hts gX8_script_X5_readText rfl rfl rfl (by decide +kernel) ⟨Nat.le_of_ble_eq_true rfl, Nat.le_of_ble_eq_true rfl⟩) hK hP zkL_334 (by decide) rfl rfl hl.1 rfl (Nat.le_of_ble_eq_true rfl) dX8_script_4 ⟨Nat.zero_le _, Nat.zero_le _⟩) hS (fun H locs hP hS => ?_)
  refine lv_istore_n (lv' := [(1, .int q1.1), (0, .ref (G.2.1 0))]) hx hb dX8_script_7 rfl hl (by decide) rfl (fun ls hl => ?_)
  refine lv_aload_n hx hb dX8_script_8 rfl (lv_at hl 1 rfl) ?_
  refine x_get (j := 5) (v := .ref (G.2.1 332)) hx hb hts hi8 hown hK hP zkL_0 rfl (by decide) (hts (.fieldLink RX8 41 "LeaseOffice" "tape" "LLeaseOffice$Table;") (by decide +kernel)) rfl (by decide) dX8_script_9 ?_
  obtain ⟨q2, hq2, hf⟩ := zb_e hf
  refine x_callv (x_runV (As := []) (rest := []) ⟨hx, hb, hml, hown, hts⟩ (c_X4_clear l G hG q1.2 J 332 zkL_332 hq2) (cwV 0 hts gX8_script_X4_clear rfl rfl rfl (by decide +kernel) ⟨Nat.le_of_ble_eq_true rfl, Nat.le_of_ble_eq_true rfl⟩) hK hP zkL_332 (by decide) rfl rfl hl.1 rfl (Nat.le_of_ble_eq_true rfl) dX8_script_12 ⟨Nat.zero_le _, Nat.zero_le _⟩) hS (fun H locs hP hS => ?_)
  refine lv_iload_n hx hb dX8_script_15 rfl (lv_at hl 0 rfl) ?_
  refine lv_if_ne (tgt := 31) hx hb dX8_script_16 (by decide) (fun c3 => ?_) (fun c3 => ?_)
  · have hf := zif_f c3 hf
    refine lv_aload_n hx hb dX8_script_31 rfl (lv_at hl 1 rfl) ?_
    refine x_get (j := 3) (v := .ref (G.2.1 219)) hx hb hts hi8 hown hK hP zkL_0 rfl (by decide) (hts (.fieldLink RX8 27 "LeaseOffice" "aheadOfText" "LLeaseOffice$Office;") (by decide +kernel)) rfl (by decide) dX8_script_32 ?_
    refine lv_aload_n hx hb dX8_script_35 rfl (lv_at hl 1 rfl) ?_
    refine x_get (j := 1) (v := .ref (G.2.1 1)) hx hb hts hi8 hown hK hP zkL_0 rfl (by decide) (hts (.fieldLink RX8 20 "LeaseOffice" "office" "LLeaseOffice$Office;") (by decide +kernel)) rfl (by decide) dX8_script_36 ?_
    obtain ⟨q4, hq4, hf⟩ := zb_e hf
    refine x_callv (x_runV (As := [.ref (G.2.1 1)]) (rest := []) ⟨hx, hb, hml, hown, hts⟩ (c_X2_copyFrom l G hG q2 J 219 1 zkL_219 zkL_1 hq4) (cwV 1 hts gX8_script_X2_copyFrom rfl rfl rfl (by decide +kernel) ⟨Nat.le_of_ble_eq_true rfl, Nat.le_of_ble_eq_true rfl⟩) hK hP zkL_219 (by decide) rfl rfl hl.1 rfl (Nat.le_of_ble_eq_true rfl) dX8_script_39 ⟨Nat.zero_le _, Nat.zero_le _⟩) hS (fun H locs hP hS => ?_)
    refine lv_iconst (v := 0) hx hb dX8_script_42 (by decide) ?_
    refine lv_istore_n (lv' := [(2, .int 0), (1, .int q1.1), (0, .ref (G.2.1 0))]) hx hb dX8_script_43 rfl hl (by decide) rfl (fun ls hl => ?_)
    refine L44 _ (fun M10 H locs ls hf hP hS hl => ?_) zFu q4 0 H locs ls hf hP hS (lv_sub hl [2, 0] rfl)
    refine lv_aload_n hx hb dX8_script_96 rfl (lv_at hl 0 rfl) ?_
    refine x_get (j := 4) (v := .ref (G.2.1 334)) hx hb hts hi8 hown hK hP zkL_0 rfl (by decide) (hts (.fieldLink RX8 33 "LeaseOffice" "reader" "LLeaseOffice$TextReader;") (by decide +kernel)) rfl (by decide) dX8_script_97 ?_
    refine x_get (j := 1) (v := .ref (G.2.1 335)) hx hb hts hi5 hown hK hP zkL_334 rfl (by decide) (hts (.fieldLink RX8 262 "LeaseOffice$TextReader" "lines" "LLeaseOffice$Table;") (by decide +kernel)) rfl (by decide) dX8_script_100 ?_
    obtain ⟨q11, hq11, hf⟩ := zb_e hf
    refine x_calli (x_runV (As := []) (rest := []) ⟨hx, hb, hml, hown, hts⟩ (c_X4_size l G hG M10 J 335 zkL_335 hq11) (cwV 0 hts gX8_script_X4_size rfl rfl rfl (by decide +kernel) ⟨Nat.le_of_ble_eq_true rfl, Nat.le_of_ble_eq_true rfl⟩) hK hP zkL_335 (by decide) rfl rfl hl.1 rfl (Nat.le_of_ble_eq_true rfl) dX8_script_103 ⟨Nat.zero_le _, Nat.zero_le _⟩) hS (fun H locs hP hS => ?_)
    obtain rfl := Option.some.inj hf
    exact x_iret hx hb hr hlocks hK hP hS dX8_script_106
  · have hf := zif_t c3 hf
    refine lv_sipush (v := (-1000)) hx hb dX8_script_19 (by decide) ?_
    refine lv_aload_n hx hb dX8_script_22 rfl (lv_at hl 1 rfl) ?_
    refine x_get (j := 4) (v := .ref (G.2.1 334)) hx hb hts hi8 hown hK hP zkL_0 rfl (by decide) (hts (.fieldLink RX8 33 "LeaseOffice" "reader" "LLeaseOffice$TextReader;") (by decide +kernel)) rfl (by decide) dX8_script_23 ?_
    refine x_get (j := 2) (v := .int (q2 334 2)) hx hb hts hi5 hown hK hP zkL_334 rfl (by decide) (hts (.fieldLink RX8 255 "LeaseOffice$TextReader" "place" "I") (by decide +kernel)) rfl (by decide) dX8_script_26 ?_
    refine lv_isub hx hb dX8_script_29 ?_
    obtain rfl := Option.some.inj hf
    exact x_iret hx hb hr hlocks hK hP hS dX8_script_30
set_option maxRecDepth 100000 in
set_option maxHeartbeats 4000000 in
theorem c_X8_seen (l : Launch) (G : zGT) (hG : zOK G) (I J : zM) (x1 : Int32) (x2 : Int32) (x3 : Int32) {r : Int32} (hf : f_X8_seen I x1 x2 x3 = some r) : Met l yX8_seen wsX8_seen (zrm 2 46) (va_Pc [.ref (G.2.1 0), .int x1, .int x2, .int x3] (zS G I J)) (zQi G r I J) 0 0 (zA G) := by
  refine zMet (cc := cX8_seen) (n := 4) (ret := (some .int)) (by decide) rfl (Nat.le_of_ble_eq_true rfl) ?_
  intro p e s m args below meth c H locs ls F hK hP hS hl
  obtain ⟨hx, hb, hr, hml, hts, hown, hlocks⟩ := F
  have hown : s.vm.findClass RX8 = some m.cls := hown
  have hl : lv_has ls 4 [(0, .ref (G.2.1 0)), (1, .int x1), (2, .int x2), (3, .int x3)] := hl
  have hi7 : ∀ w ∈ wsX70, w ∈ wsX8_seen := fun _ h => List.mem_cons_of_mem _ (List.mem_append_left _ (List.mem_append_left _ (List.mem_append_right _ h)))
  have hi8 : ∀ w ∈ wsX80, w ∈ wsX8_seen := fun _ h => List.mem_cons_of_mem _ (List.mem_append_left _ (List.mem_append_left _ (List.mem_append_left _ (List.mem_append_right _ h))))
  unfold f_X8_seen at hf
  refine lv_aload_n hx hb dX8_seen_0 rfl (lv_at hl 0 rfl) ?_
  refine x_get (j := 1) (v := .ref (G.2.1 1)) hx hb hts hi8 hown hK hP zkL_0 rfl (by decide) (hts (.fieldLink RX8 20 "LeaseOffice" "office" "LLeaseOffice$Office;") (by decide +kernel)) rfl (by decide) dX8_seen_1 ?_
  refine lv_iload_n hx hb dX8_seen_4 rfl (lv_at hl 1 rfl) ?_
  obtain ⟨q1, hq1, hf⟩ := zb_e hf
  refine x_calli (x_runV (As := [.int x1]) (rest := []) ⟨hx, hb, hml, hown, hts⟩ (c_X2_isTool l G hG I J 1 x1 zkL_1 hq1) (cwV 1 hts gX8_seen_X2_isTool rfl rfl rfl (by decide +kernel) ⟨Nat.le_of_ble_eq_true rfl, Nat.le_of_ble_eq_true rfl⟩) hK hP zkL_1 (by decide) rfl rfl hl.1 rfl (Nat.le_of_ble_eq_true rfl) dX8_seen_5 ⟨Nat.zero_le _, Nat.zero_le _⟩) hS (fun H locs hP hS => ?_)
  refine lv_if_eq (tgt := 31) hx hb dX8_seen_8 (by decide) (fun c2 => ?_) (fun c2 => ?_)
  · have hf := zif_t c2 hf
    refine lv_iconst (v := (-1)) hx hb dX8_seen_31 (by decide) ?_
    obtain rfl := Option.some.inj hf
    exact x_iret hx hb hr hlocks hK hP hS dX8_seen_32
  · have hf := zif_f c2 hf
    refine lv_aload_n hx hb dX8_seen_11 rfl (lv_at hl 0 rfl) ?_
    refine x_get (j := 1) (v := .ref (G.2.1 1)) hx hb hts hi8 hown hK hP zkL_0 rfl (by decide) (hts (.fieldLink RX8 20 "LeaseOffice" "office" "LLeaseOffice$Office;") (by decide +kernel)) rfl (by decide) dX8_seen_12 ?_
    refine lv_iload_n hx hb dX8_seen_15 rfl (lv_at hl 1 rfl) ?_
    obtain ⟨q3, hq3, hf⟩ := zb_e hf
    refine x_callr (x_runV (As := [.int x1]) (rest := []) ⟨hx, hb, hml, hown, hts⟩ (c_X2_toolAt l G hG I J 1 x1 zkL_1 hq3) (cwV 1 hts gX8_seen_X2_toolAt rfl rfl rfl (by decide +kernel) ⟨Nat.le_of_ble_eq_true rfl, Nat.le_of_ble_eq_true rfl⟩) hK hP zkL_1 (by decide) rfl rfl hl.1 rfl (Nat.le_of_ble_eq_true rfl) dX8_seen_16 ⟨Nat.zero_le _, Nat.zero_le _⟩) hS (fun H locs hP hS => ?_)
    refine x_get (j := 8) (v := .ref (G.2.1 (q3 + 3))) hx hb hts hi7 hown hK hP (kd_X2_toolAt zkL_1 hq3) rfl (by decide) (hts (.fieldLink RX8 142 "LeaseOffice$Tool" "looks" "LLeaseOffice$Table;") (by decide +kernel)) rfl (by decide) dX8_seen_19 ?_
    refine lv_iload_n hx hb dX8_seen_22 rfl (lv_at hl 2 rfl) ?_
    refine lv_iload_n hx hb dX8_seen_23 rfl (lv_at hl 3 rfl) ?_
    refine lv_iconst (v := 1) hx hb dX8_seen_24 (by decide) ?_
    obtain ⟨q4, hq4, hf⟩ := zb_e hf
    refine x_calli (x_runS (As := [.ref (G.2.1 (q3 + 3)), .int x2, .int x3, .int 1]) (rest := []) ⟨hx, hb, hml, hown, hts⟩ (c_X8_entryOf l G hG I J (q3 + 3) x2 x3 1 (zk_7_8 (kd_X2_toolAt zkL_1 hq3)) hq4) (va_cwS 4 hts gX8_seen_X8_entryOf rfl rfl rfl (by decide +kernel) ⟨Nat.le_of_ble_eq_true rfl, Nat.le_of_ble_eq_true rfl⟩) hK hP rfl hl.1 rfl (Nat.le_of_ble_eq_true rfl) dX8_seen_25 ⟨Nat.zero_le _, Nat.zero_le _⟩) hS (fun H locs hP hS => ?_)
    refine lv_goto (tgt := 32) hx hb dX8_seen_28 (by decide) ?_
    obtain rfl := Option.some.inj hf
    exact x_iret hx hb hr hlocks hK hP hS dX8_seen_32
set_option maxRecDepth 100000 in
set_option maxHeartbeats 4000000 in
theorem c_X8_share (l : Launch) (G : zGT) (hG : zOK G) (I J : zM) (x1 : Int32) (x2 : Int32) {r : Int32 × zM} (hf : f_X8_share I x1 x2 = some r) : Met l yX8_share wsX8_share (zrm 4 93) (va_Pc [.ref (G.2.1 0), .int x1, .int x2] (zS G I J)) (zQi G r.1 r.2 J) 0 0 (zA G) := by
  refine zMet (cc := cX8_share) (n := 3) (ret := (some .int)) (by decide) rfl (Nat.le_of_ble_eq_true rfl) ?_
  intro p e s m args below meth c H locs ls F hK hP hS hl
  obtain ⟨hx, hb, hr, hml, hts, hown, hlocks⟩ := F
  have hown : s.vm.findClass RX8 = some m.cls := hown
  have hl : lv_has ls 3 [(0, .ref (G.2.1 0)), (1, .int x1), (2, .int x2)] := hl
  have hi8 : ∀ w ∈ wsX80, w ∈ wsX8_share := fun _ h => List.mem_cons_of_mem _ (List.mem_append_left _ (List.mem_append_left _ (List.mem_append_left _ (List.mem_append_left _ (List.mem_append_left _ (List.mem_append_right _ h))))))
  unfold f_X8_share at hf
  refine lv_aload_n hx hb dX8_share_0 rfl (lv_at hl 0 rfl) ?_
  refine x_get (j := 1) (v := .ref (G.2.1 1)) hx hb hts hi8 hown hK hP zkL_0 rfl (by decide) (hts (.fieldLink RX8 20 "LeaseOffice" "office" "LLeaseOffice$Office;") (by decide +kernel)) rfl (by decide) dX8_share_1 ?_
  refine lv_iload_n hx hb dX8_share_4 rfl (lv_at hl 1 rfl) ?_
  obtain ⟨q1, hq1, hf⟩ := zb_e hf
  refine x_calli (x_runV (As := [.int x1]) (rest := []) ⟨hx, hb, hml, hown, hts⟩ (c_X2_isTool l G hG I J 1 x1 zkL_1 hq1) (cwV 1 hts gX8_share_X2_isTool rfl rfl rfl (by decide +kernel) ⟨Nat.le_of_ble_eq_true rfl, Nat.le_of_ble_eq_true rfl⟩) hK hP zkL_1 (by decide) rfl rfl hl.1 rfl (Nat.le_of_ble_eq_true rfl) dX8_share_5 ⟨Nat.zero_le _, Nat.zero_le _⟩) hS (fun H locs hP hS => ?_)
  refine lv_if_eq (tgt := 22) hx hb dX8_share_8 (by decide) (fun c2 => ?_) (fun c2 => ?_)
  · have hf := zif_t c2 hf
    refine lv_iconst (v := (-1)) hx hb dX8_share_22 (by decide) ?_
    obtain rfl := Option.some.inj hf
    exact x_iret hx hb hr hlocks hK hP hS dX8_share_23
  · have hf := zif_f c2 hf
    refine lv_aload_n hx hb dX8_share_11 rfl (lv_at hl 0 rfl) ?_
    refine x_get (j := 1) (v := .ref (G.2.1 1)) hx hb hts hi8 hown hK hP zkL_0 rfl (by decide) (hts (.fieldLink RX8 20 "LeaseOffice" "office" "LLeaseOffice$Office;") (by decide +kernel)) rfl (by decide) dX8_share_12 ?_
    refine lv_iload_n hx hb dX8_share_15 rfl (lv_at hl 2 rfl) ?_
    obtain ⟨q3, hq3, hf⟩ := zb_e hf
    refine x_calli (x_runV (As := [.int x2]) (rest := []) ⟨hx, hb, hml, hown, hts⟩ (c_X2_isPerson l G hG I J 1 x2 zkL_1 hq3) (cwV 1 hts gX8_share_X2_isPerson rfl rfl rfl (by decide +kernel) ⟨Nat.le_of_ble_eq_true rfl, Nat.le_of_ble_eq_true rfl⟩) hK hP zkL_1 (by decide) rfl rfl hl.1 rfl (Nat.le_of_ble_eq_true rfl) dX8_share_16 ⟨Nat.zero_le _, Nat.zero_le _⟩) hS (fun H locs hP hS => ?_)
    refine lv_if_ne (tgt := 24) hx hb dX8_share_19 (by decide) (fun c4 => ?_) (fun c4 => ?_)
    · have hf := zif_f c4 hf
      refine lv_aload_n hx hb dX8_share_24 rfl (lv_at hl 0 rfl) ?_
      refine x_get (j := 0) (v := .ref (G.2.1 328)) hx hb hts hi8 hown hK hP zkL_0 rfl (by decide) (hts (.fieldLink RX8 12 "LeaseOffice" "thought" "LLeaseOffice$Thought;") (by decide +kernel)) rfl (by decide) dX8_share_25 ?_
      refine lv_iload_n hx hb dX8_share_28 rfl (lv_at hl 1 rfl) ?_
      refine lv_iload_n hx hb dX8_share_29 rfl (lv_at hl 2 rfl) ?_
      obtain ⟨q5, hq5, hf⟩ := zb_e hf
      refine x_calli (x_runV (As := [.int x1, .int x2]) (rest := []) ⟨hx, hb, hml, hown, hts⟩ (c_X6_shareOf l G hG I J x1 x2 hq5) (cwV 2 hts gX8_share_X6_shareOf rfl rfl rfl (by decide +kernel) ⟨Nat.le_of_ble_eq_true rfl, Nat.le_of_ble_eq_true rfl⟩) hK hP zkL_328 (by decide) rfl rfl hl.1 rfl (Nat.le_of_ble_eq_true rfl) dX8_share_30 ⟨Nat.zero_le _, Nat.zero_le _⟩) hS (fun H locs hP hS => ?_)
      obtain rfl := Option.some.inj hf
      exact x_iret hx hb hr hlocks hK hP hS dX8_share_33
    · have hf := zif_t c4 hf
      refine lv_iconst (v := (-1)) hx hb dX8_share_22 (by decide) ?_
      obtain rfl := Option.some.inj hf
      exact x_iret hx hb hr hlocks hK hP hS dX8_share_23
set_option maxRecDepth 100000 in
set_option maxHeartbeats 4000000 in
theorem c_X8_swap (l : Launch) (G : zGT) (hG : zOK G) (I J : zM) (x1 : Int32) (x2 : Int32) {r : Int32 × zM} (hf : f_X8_swap I x1 x2 = some r) : Met l yX8_swap wsX8_swap (zrm 4 94) (va_Pc [.ref (G.2.1 0), .int x1, .int x2] (zS G I J)) (zQi G r.1 r.2 J) 0 0 (zA G) := by
  refine zMet (cc := cX8_swap) (n := 3) (ret := (some .int)) (by decide) rfl (Nat.le_of_ble_eq_true rfl) ?_
  intro p e s m args below meth c H locs ls F hK hP hS hl
  obtain ⟨hx, hb, hr, hml, hts, hown, hlocks⟩ := F
  have hown : s.vm.findClass RX8 = some m.cls := hown
  have hl : lv_has ls 3 [(0, .ref (G.2.1 0)), (1, .int x1), (2, .int x2)] := hl
  have hi8 : ∀ w ∈ wsX80, w ∈ wsX8_swap := fun _ h => List.mem_cons_of_mem _ (List.mem_append_left _ (List.mem_append_left _ (List.mem_append_left _ (List.mem_append_left _ (List.mem_append_right _ h)))))
  unfold f_X8_swap at hf
  refine lv_aload_n hx hb dX8_swap_0 rfl (lv_at hl 0 rfl) ?_
  refine x_get (j := 1) (v := .ref (G.2.1 1)) hx hb hts hi8 hown hK hP zkL_0 rfl (by decide) (hts (.fieldLink RX8 20 "LeaseOffice" "office" "LLeaseOffice$Office;") (by decide +kernel)) rfl (by decide) dX8_swap_1 ?_
  refine lv_iload_n hx hb dX8_swap_4 rfl (lv_at hl 1 rfl) ?_
  refine lv_iload_n hx hb dX8_swap_5 rfl (lv_at hl 2 rfl) ?_
  obtain ⟨q1, hq1, hf⟩ := zb_e hf
  refine x_calli (x_runV (As := [.int x1, .int x2]) (rest := []) ⟨hx, hb, hml, hown, hts⟩ (c_X2_exchange l G hG I J 1 x1 x2 zkL_1 hq1) (cwV 2 hts gX8_swap_X2_exchange rfl rfl rfl (by decide +kernel) ⟨Nat.le_of_ble_eq_true rfl, Nat.le_of_ble_eq_true rfl⟩) hK hP zkL_1 (by decide) rfl rfl hl.1 rfl (Nat.le_of_ble_eq_true rfl) dX8_swap_6 ⟨Nat.zero_le _, Nat.zero_le _⟩) hS (fun H locs hP hS => ?_)
  obtain rfl := Option.some.inj hf
  exact x_iret hx hb hr hlocks hK hP hS dX8_swap_9
