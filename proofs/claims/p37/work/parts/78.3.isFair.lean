set_option maxRecDepth 100000 in
set_option maxHeartbeats 8000000 in
theorem c_L_isFair (l : Launch) (G : zGT) (hG : zOK G) (I J : zM) (x1 : Int32) {r : Int32} (hf : f_L_isFair I x1 = some r) : Met l yL_isFair wsL_isFair (zrm 6 135) (va_Pc [.ref (G.2.1 0), .int x1] (zS G I J)) (zQi G r I J) 0 0 (zA G) := by
  refine zMet (cc := cL_isFair) (n := 9) (ret := (some .boolean)) (by decide) rfl (Nat.le_of_ble_eq_true rfl) ?_
  intro p e s m args below meth c H locs ls F hK hP hS hl
  obtain ⟨hx, hb, hr, hml, hts, hown, hlocks⟩ := F
  have hown : s.vm.findClass RL = some m.cls := hown
  have hl : lv_has ls 9 [(0, .ref (G.2.1 0)), (1, .int x1)] := hl
  have L14 : ∀ (K : Int32 → Int32 → Int32 → Option (Int32)) (hKK : ∀ (z2 : Int32) (z3 : Int32) (z4 : Int32) (H : Heap) (locs : List Loc) (ls : Array Slot), K z2 z3 z4 = some r → va_P G.1 vwCl (zW G I J) H → va_S (zA G) s.heap H locs → lv_has ls 9 [(0, .ref (G.2.1 0)), (1, .int x1), (2, .int z2), (3, .int z3), (4, .int z4)] → W p l e (zrm 6 135) s m args below meth c H locs 0 0 (MQ below (zQi G r I J) args s 0 0 (zA G)) (F0 m 123 ls [])) (n : Nat) (y2 : Int32) (y3 : Int32) (y4 : Int32) (y5 : Int32) (H : Heap) (locs : List Loc) (ls : Array Slot), f_L_isFair_l14 I x1 K n y2 y3 y4 y5 = some r → va_P G.1 vwCl (zW G I J) H → va_S (zA G) s.heap H locs → lv_has ls 9 [(0, .ref (G.2.1 0)), (1, .int x1), (2, .int y2), (3, .int y3), (4, .int y4), (5, .int y5)] → W p l e (zrm 6 135) s m args below meth c H locs 0 0 (MQ below (zQi G r I J) args s 0 0 (zA G)) (F0 m 14 ls []) := by
    intro K hKK n
    induction n with
    | zero =>
      intro y2 y3 y4 y5 H locs ls hf
      rw [f_L_isFair_l14] at hf
      cases hf
    | succ n ih =>
      intro y2 y3 y4 y5 H locs ls hf hP hS hl
      rw [f_L_isFair_l14] at hf
      refine lv_iload hx hb dL_isFair_14 (lv_at hl 5 rfl) ?_
      refine lv_aload_n hx hb dL_isFair_16 rfl (lv_at hl 0 rfl) ?_
      refine lv_iconst (v := 0) hx hb dL_isFair_17 (by decide) ?_
      obtain ⟨q2, hq2, hf⟩ := zb_e hf
      refine x_calli (x_runV (As := [.int 0]) (rest := [.int y5]) ⟨hx, hb, hml, hown, hts⟩ (c_X8_count l G hG I J 0 hq2) (cwV 1 hts gL_isFair_X8_count rfl rfl rfl (by decide +kernel) ⟨Nat.le_of_ble_eq_true rfl, Nat.le_of_ble_eq_true rfl⟩) hK hP zkL_0 (by decide) rfl rfl hl.1 rfl (Nat.le_of_ble_eq_true rfl) dL_isFair_18 ⟨Nat.zero_le _, Nat.zero_le _⟩) hS (fun H locs hP hS => ?_)
      refine lv_icmp_ge (tgt := 123) hx hb dL_isFair_21 (by decide) (fun c3 => ?_) (fun c3 => ?_)
      · have hf := zif_t c3 hf
        exact hKK y2 y3 y4 H locs ls hf hP hS (lv_sub hl [0, 1, 2, 3, 4] rfl)
      · have hf := zif_f c3 hf
        refine lv_iload_n hx hb dL_isFair_24 rfl (lv_at hl 3 rfl) ?_
        refine lv_aload_n hx hb dL_isFair_25 rfl (lv_at hl 0 rfl) ?_
        refine lv_iload hx hb dL_isFair_26 (lv_at hl 5 rfl) ?_
        refine lv_iconst (v := 1) hx hb dL_isFair_28 (by decide) ?_
        obtain ⟨q4, hq4, hf⟩ := zb_e hf
        refine x_calli (x_runV (As := [.int y5, .int 1]) (rest := [.int y3]) ⟨hx, hb, hml, hown, hts⟩ (c_X8_personOf l G hG I J y5 1 hq4) (cwV 2 hts gL_isFair_X8_personOf rfl rfl rfl (by decide +kernel) ⟨Nat.le_of_ble_eq_true rfl, Nat.le_of_ble_eq_true rfl⟩) hK hP zkL_0 (by decide) rfl rfl hl.1 rfl (Nat.le_of_ble_eq_true rfl) dL_isFair_29 ⟨Nat.zero_le _, Nat.zero_le _⟩) hS (fun H locs hP hS => ?_)
        refine lv_iadd hx hb dL_isFair_32 ?_
        obtain ⟨w5, ew5, hf⟩ := zlet_e hf
        refine z_topi ew5 ?_
        refine lv_istore_n (lv' := [(3, .int w5), (0, .ref (G.2.1 0)), (1, .int x1), (2, .int y2), (4, .int y4), (5, .int y5)]) hx hb dL_isFair_33 rfl hl (by decide) rfl (fun ls hl => ?_)
        refine lv_iload hx hb dL_isFair_34 (lv_at hl 4 rfl) ?_
        refine lv_aload_n hx hb dL_isFair_36 rfl (lv_at hl 1 rfl) ?_
        refine lv_iload hx hb dL_isFair_37 (lv_at hl 5 rfl) ?_
        refine lv_iconst (v := 4) hx hb dL_isFair_39 (by decide) ?_
        obtain ⟨q6, hq6, hf⟩ := zb_e hf
        refine x_calli (x_runV (As := [.int y5, .int 4]) (rest := [.int y4]) ⟨hx, hb, hml, hown, hts⟩ (c_X8_personOf l G hG I J y5 4 hq6) (cwV 2 hts gL_isFair_X8_personOf rfl rfl rfl (by decide +kernel) ⟨Nat.le_of_ble_eq_true rfl, Nat.le_of_ble_eq_true rfl⟩) hK hP zkL_0 (by decide) rfl rfl hl.1 rfl (Nat.le_of_ble_eq_true rfl) dL_isFair_40 ⟨Nat.zero_le _, Nat.zero_le _⟩) hS (fun H locs hP hS => ?_)
        refine lv_iadd hx hb dL_isFair_43 ?_
        obtain ⟨w7, ew7, hf⟩ := zlet_e hf
        refine z_topi ew7 ?_
        refine lv_istore (lv' := [(4, .int w7), (3, .int w5), (0, .ref (G.2.1 0)), (1, .int x1), (2, .int y2), (5, .int y5)]) hx hb dL_isFair_44 hl (by decide) rfl (fun ls hl => ?_)
        refine lv_iload_n hx hb dL_isFair_46 rfl (lv_at hl 4 rfl) ?_
        refine lv_aload_n hx hb dL_isFair_47 rfl (lv_at hl 2 rfl) ?_
        refine lv_iload hx hb dL_isFair_48 (lv_at hl 5 rfl) ?_
        refine lv_iconst (v := 5) hx hb dL_isFair_50 (by decide) ?_
        obtain ⟨q8, hq8, hf⟩ := zb_e hf
        refine x_calli (x_runV (As := [.int y5, .int 5]) (rest := [.int y2]) ⟨hx, hb, hml, hown, hts⟩ (c_X8_personOf l G hG I J y5 5 hq8) (cwV 2 hts gL_isFair_X8_personOf rfl rfl rfl (by decide +kernel) ⟨Nat.le_of_ble_eq_true rfl, Nat.le_of_ble_eq_true rfl⟩) hK hP zkL_0 (by decide) rfl rfl hl.1 rfl (Nat.le_of_ble_eq_true rfl) dL_isFair_51 ⟨Nat.zero_le _, Nat.zero_le _⟩) hS (fun H locs hP hS => ?_)
        refine lv_iadd hx hb dL_isFair_54 ?_
        obtain ⟨w9, ew9, hf⟩ := zlet_e hf
        refine z_topi ew9 ?_
        refine lv_istore_n (lv' := [(2, .int w9), (4, .int w7), (3, .int w5), (0, .ref (G.2.1 0)), (1, .int x1), (5, .int y5)]) hx hb dL_isFair_55 rfl hl (by decide) rfl (fun ls hl => ?_)
        refine lv_aload_n hx hb dL_isFair_56 rfl (lv_at hl 3 rfl) ?_
        refine lv_iload hx hb dL_isFair_57 (lv_at hl 5 rfl) ?_
        refine lv_iconst (v := 1) hx hb dL_isFair_59 (by decide) ?_
        obtain ⟨q10, hq10, hf⟩ := zb_e hf
        refine x_calli (x_runV (As := [.int y5, .int 1]) (rest := []) ⟨hx, hb, hml, hown, hts⟩ (c_X8_personOf l G hG I J y5 1 hq10) (cwV 2 hts gL_isFair_X8_personOf rfl rfl rfl (by decide +kernel) ⟨Nat.le_of_ble_eq_true rfl, Nat.le_of_ble_eq_true rfl⟩) hK hP zkL_0 (by decide) rfl rfl hl.1 rfl (Nat.le_of_ble_eq_true rfl) dL_isFair_60 ⟨Nat.zero_le _, Nat.zero_le _⟩) hS (fun H locs hP hS => ?_)
        refine lv_if_lt (tgt := 115) hx hb dL_isFair_63 (by decide) (fun c11 => ?_) (fun c11 => ?_)
        · have hf := zif_t c11 hf
          refine lv_iconst (v := 0) hx hb dL_isFair_115 (by decide) ?_
          obtain rfl := Option.some.inj hf
          exact x_zret (v := 0) rfl hx hb hr hlocks hK hP hS dL_isFair_116
        · have hf := zif_f c11 hf
          refine lv_aload_n hx hb dL_isFair_66 rfl (lv_at hl 3 rfl) ?_
          refine lv_iload hx hb dL_isFair_67 (lv_at hl 5 rfl) ?_
          refine lv_iconst (v := 2) hx hb dL_isFair_69 (by decide) ?_
          obtain ⟨q12, hq12, hf⟩ := zb_e hf
          refine x_calli (x_runV (As := [.int y5, .int 2]) (rest := []) ⟨hx, hb, hml, hown, hts⟩ (c_X8_personOf l G hG I J y5 2 hq12) (cwV 2 hts gL_isFair_X8_personOf rfl rfl rfl (by decide +kernel) ⟨Nat.le_of_ble_eq_true rfl, Nat.le_of_ble_eq_true rfl⟩) hK hP zkL_0 (by decide) rfl rfl hl.1 rfl (Nat.le_of_ble_eq_true rfl) dL_isFair_70 ⟨Nat.zero_le _, Nat.zero_le _⟩) hS (fun H locs hP hS => ?_)
          refine lv_if_lt (tgt := 115) hx hb dL_isFair_73 (by decide) (fun c13 => ?_) (fun c13 => ?_)
          · have hf := zif_t c13 hf
            refine lv_iconst (v := 0) hx hb dL_isFair_115 (by decide) ?_
            obtain rfl := Option.some.inj hf
            exact x_zret (v := 0) rfl hx hb hr hlocks hK hP hS dL_isFair_116
          · have hf := zif_f c13 hf
            refine lv_aload_n hx hb dL_isFair_76 rfl (lv_at hl 3 rfl) ?_
            refine lv_iload hx hb dL_isFair_77 (lv_at hl 5 rfl) ?_
            refine lv_iconst (v := 2) hx hb dL_isFair_79 (by decide) ?_
            obtain ⟨q14, hq14, hf⟩ := zb_e hf
            refine x_calli (x_runV (As := [.int y5, .int 2]) (rest := []) ⟨hx, hb, hml, hown, hts⟩ (c_X8_personOf l G hG I J y5 2 hq14) (cwV 2 hts gL_isFair_X8_personOf rfl rfl rfl (by decide +kernel) ⟨Nat.le_of_ble_eq_true rfl, Nat.le_of_ble_eq_true rfl⟩) hK hP zkL_0 (by decide) rfl rfl hl.1 rfl (Nat.le_of_ble_eq_true rfl) dL_isFair_80 ⟨Nat.zero_le _, Nat.zero_le _⟩) hS (fun H locs hP hS => ?_)
            refine lv_bipush (v := 99) hx hb dL_isFair_83 (by decide) ?_
            refine lv_icmp_gt (tgt := 115) hx hb dL_isFair_85 (by decide) (fun c15 => ?_) (fun c15 => ?_)
            · have hf := zif_t c15 hf
              refine lv_iconst (v := 0) hx hb dL_isFair_115 (by decide) ?_
              obtain rfl := Option.some.inj hf
              exact x_zret (v := 0) rfl hx hb hr hlocks hK hP hS dL_isFair_116
            · have hf := zif_f c15 hf
              refine lv_aload_n hx hb dL_isFair_88 rfl (lv_at hl 3 rfl) ?_
              refine lv_iload hx hb dL_isFair_89 (lv_at hl 5 rfl) ?_
              refine lv_iconst (v := 4) hx hb dL_isFair_91 (by decide) ?_
              obtain ⟨q16, hq16, hf⟩ := zb_e hf
              refine x_calli (x_runV (As := [.int y5, .int 4]) (rest := []) ⟨hx, hb, hml, hown, hts⟩ (c_X8_personOf l G hG I J y5 4 hq16) (cwV 2 hts gL_isFair_X8_personOf rfl rfl rfl (by decide +kernel) ⟨Nat.le_of_ble_eq_true rfl, Nat.le_of_ble_eq_true rfl⟩) hK hP zkL_0 (by decide) rfl rfl hl.1 rfl (Nat.le_of_ble_eq_true rfl) dL_isFair_92 ⟨Nat.zero_le _, Nat.zero_le _⟩) hS (fun H locs hP hS => ?_)
              refine lv_if_lt (tgt := 115) hx hb dL_isFair_95 (by decide) (fun c17 => ?_) (fun c17 => ?_)
              · have hf := zif_t c17 hf
                refine lv_iconst (v := 0) hx hb dL_isFair_115 (by decide) ?_
                obtain rfl := Option.some.inj hf
                exact x_zret (v := 0) rfl hx hb hr hlocks hK hP hS dL_isFair_116
              · have hf := zif_f c17 hf
                refine lv_aload_n hx hb dL_isFair_98 rfl (lv_at hl 3 rfl) ?_
                refine lv_aload_n hx hb dL_isFair_99 rfl (lv_at hl 3 rfl) ?_
                refine lv_iload hx hb dL_isFair_100 (lv_at hl 5 rfl) ?_
                refine lv_bipush (v := 6) hx hb dL_isFair_102 (by decide) ?_
                obtain ⟨q18, hq18, hf⟩ := zb_e hf
                refine x_calli (x_runV (As := [.int y5, .int 6]) (rest := [.ref (G.2.1 0)]) ⟨hx, hb, hml, hown, hts⟩ (c_X8_personOf l G hG I J y5 6 hq18) (cwV 2 hts gL_isFair_X8_personOf rfl rfl rfl (by decide +kernel) ⟨Nat.le_of_ble_eq_true rfl, Nat.le_of_ble_eq_true rfl⟩) hK hP zkL_0 (by decide) rfl rfl hl.1 rfl (Nat.le_of_ble_eq_true rfl) dL_isFair_104 ⟨Nat.zero_le _, Nat.zero_le _⟩) hS (fun H locs hP hS => ?_)
                obtain ⟨q19, hq19, hf⟩ := zb_e hf
                refine x_calli (x_runV (As := [.int q18]) (rest := []) ⟨hx, hb, hml, hown, hts⟩ (c_X8_ranked l G hG I J q18 hq19) (cwV 1 hts gL_isFair_X8_ranked rfl rfl rfl (by decide +kernel) ⟨Nat.le_of_ble_eq_true rfl, Nat.le_of_ble_eq_true rfl⟩) hK hP zkL_0 (by decide) rfl rfl hl.1 rfl (Nat.le_of_ble_eq_true rfl) dL_isFair_107 ⟨Nat.zero_le _, Nat.zero_le _⟩) hS (fun H locs hP hS => ?_)
                refine lv_iload hx hb dL_isFair_110 (lv_at hl 5 rfl) ?_
                refine lv_icmp_eq (tgt := 117) hx hb dL_isFair_112 (by decide) (fun c20 => ?_) (fun c20 => ?_)
                · have hf := zif_t c20 hf
                  refine lv_iinc (v := (y5 + 1)) (lv' := [(5, .int (y5 + 1)), (2, .int w9), (4, .int w7), (3, .int w5), (0, .ref (G.2.1 0)), (1, .int x1)]) hx hb dL_isFair_117 hl (k := 5) rfl rfl (by decide) rfl (fun ls hl => ?_)
                  refine lv_goto (tgt := 14) hx hb dL_isFair_120 (by decide) ?_
                  exact ih w9 w5 w7 (y5 + 1) H locs ls hf hP hS (lv_sub hl [4, 5, 1, 3, 2, 0] rfl)
                · have hf := zif_f c20 hf
                  refine lv_iconst (v := 0) hx hb dL_isFair_115 (by decide) ?_
                  obtain rfl := Option.some.inj hf
                  exact x_zret (v := 0) rfl hx hb hr hlocks hK hP hS dL_isFair_116
  have L326 : ∀ (y2 : Int32) (y3 : Int32) (y4 : Int32) (y5 : Int32) (y7 : Int32) (K : Option (Int32)) (hKK : ∀ (H : Heap) (locs : List Loc) (ls : Array Slot), K = some r → va_P G.1 vwCl (zW G I J) H → va_S (zA G) s.heap H locs → lv_has ls 9 [(0, .ref (G.2.1 0)), (1, .int x1), (2, .int y2), (3, .int y3), (4, .int y4), (5, .int y5)] → W p l e (zrm 6 135) s m args below meth c H locs 0 0 (MQ below (zQi G r I J) args s 0 0 (zA G)) (F0 m 378 ls [])) (n : Nat) (y8 : Int32) (H : Heap) (locs : List Loc) (ls : Array Slot), f_L_isFair_l326 I x1 y2 y3 y4 y5 y7 K n y8 = some r → va_P G.1 vwCl (zW G I J) H → va_S (zA G) s.heap H locs → lv_has ls 9 [(0, .ref (G.2.1 0)), (1, .int x1), (2, .int y2), (3, .int y3), (4, .int y4), (5, .int y5), (7, .int y7), (8, .int y8)] → W p l e (zrm 6 135) s m args below meth c H locs 0 0 (MQ below (zQi G r I J) args s 0 0 (zA G)) (F0 m 326 ls []) := by
    intro y2 y3 y4 y5 y7 K hKK n
    induction n with
    | zero =>
      intro y8 H locs ls hf
      rw [f_L_isFair_l326] at hf
      cases hf
    | succ n ih =>
      intro y8 H locs ls hf hP hS hl
      rw [f_L_isFair_l326] at hf
      refine lv_iload hx hb dL_isFair_326 (lv_at hl 7 rfl) ?_
      refine lv_iload hx hb dL_isFair_328 (lv_at hl 6 rfl) ?_
      refine lv_icmp_ge (tgt := 378) hx hb dL_isFair_330 (by decide) (fun c47 => ?_) (fun c47 => ?_)
      · have hf := zif_t c47 hf
        exact hKK H locs ls hf hP hS (lv_sub hl [0, 1, 2, 3, 4, 5] rfl)
      · have hf := zif_f c47 hf
        refine lv_aload_n hx hb dL_isFair_333 rfl (lv_at hl 0 rfl) ?_
        refine lv_iload hx hb dL_isFair_334 (lv_at hl 5 rfl) ?_
        refine lv_iload hx hb dL_isFair_336 (lv_at hl 7 rfl) ?_
        refine lv_iconst (v := 1) hx hb dL_isFair_338 (by decide) ?_
        refine lv_isub hx hb dL_isFair_339 ?_
        refine lv_iconst (v := 2) hx hb dL_isFair_340 (by decide) ?_
        obtain ⟨q48, hq48, hf⟩ := zb_e hf
        refine x_calli (x_runV (As := [.int y5, .int (y8 - 1), .int 2]) (rest := []) ⟨hx, hb, hml, hown, hts⟩ (c_X8_link l G hG I J y5 (y8 - 1) 2 hq48) (cwV 3 hts gL_isFair_X8_link rfl rfl rfl (by decide +kernel) ⟨Nat.le_of_ble_eq_true rfl, Nat.le_of_ble_eq_true rfl⟩) hK hP zkL_0 (by decide) rfl rfl hl.1 rfl (Nat.le_of_ble_eq_true rfl) dL_isFair_341 ⟨Nat.zero_le _, Nat.zero_le _⟩) hS (fun H locs hP hS => ?_)
        refine lv_if_lt (tgt := 370) hx hb dL_isFair_344 (by decide) (fun c49 => ?_) (fun c49 => ?_)
        · have hf := zif_t c49 hf
          refine lv_iconst (v := 0) hx hb dL_isFair_370 (by decide) ?_
          obtain rfl := Option.some.inj hf
          exact x_zret (v := 0) rfl hx hb hr hlocks hK hP hS dL_isFair_371
        · have hf := zif_f c49 hf
          refine lv_aload_n hx hb dL_isFair_347 rfl (lv_at hl 0 rfl) ?_
          refine lv_iload hx hb dL_isFair_348 (lv_at hl 5 rfl) ?_
          refine lv_iload hx hb dL_isFair_350 (lv_at hl 7 rfl) ?_
          refine lv_iconst (v := 1) hx hb dL_isFair_352 (by decide) ?_
          refine lv_isub hx hb dL_isFair_353 ?_
          refine lv_iconst (v := 2) hx hb dL_isFair_354 (by decide) ?_
          obtain ⟨q50, hq50, hf⟩ := zb_e hf
          refine x_calli (x_runV (As := [.int y5, .int (y8 - 1), .int 2]) (rest := []) ⟨hx, hb, hml, hown, hts⟩ (c_X8_link l G hG I J y5 (y8 - 1) 2 hq50) (cwV 3 hts gL_isFair_X8_link rfl rfl rfl (by decide +kernel) ⟨Nat.le_of_ble_eq_true rfl, Nat.le_of_ble_eq_true rfl⟩) hK hP zkL_0 (by decide) rfl rfl hl.1 rfl (Nat.le_of_ble_eq_true rfl) dL_isFair_355 ⟨Nat.zero_le _, Nat.zero_le _⟩) hS (fun H locs hP hS => ?_)
          refine lv_aload_n hx hb dL_isFair_358 rfl (lv_at hl 0 rfl) ?_
          refine lv_iload hx hb dL_isFair_359 (lv_at hl 5 rfl) ?_
          refine lv_iload hx hb dL_isFair_361 (lv_at hl 7 rfl) ?_
          refine lv_iconst (v := 1) hx hb dL_isFair_363 (by decide) ?_
          obtain ⟨q51, hq51, hf⟩ := zb_e hf
          refine x_calli (x_runV (As := [.int y5, .int y8, .int 1]) (rest := [.int q50]) ⟨hx, hb, hml, hown, hts⟩ (c_X8_link l G hG I J y5 y8 1 hq51) (cwV 3 hts gL_isFair_X8_link rfl rfl rfl (by decide +kernel) ⟨Nat.le_of_ble_eq_true rfl, Nat.le_of_ble_eq_true rfl⟩) hK hP zkL_0 (by decide) rfl rfl hl.1 rfl (Nat.le_of_ble_eq_true rfl) dL_isFair_364 ⟨Nat.zero_le _, Nat.zero_le _⟩) hS (fun H locs hP hS => ?_)
          refine lv_icmp_le (tgt := 372) hx hb dL_isFair_367 (by decide) (fun c52 => ?_) (fun c52 => ?_)
          · have hf := zif_t c52 hf
            refine lv_iinc (v := (y8 + 1)) (lv' := [(8, .int (y8 + 1)), (0, .ref (G.2.1 0)), (1, .int x1), (2, .int y2), (3, .int y3), (4, .int y4), (5, .int y5), (7, .int y7)]) hx hb dL_isFair_372 hl (k := 7) rfl rfl (by decide) rfl (fun ls hl => ?_)
            refine lv_goto (tgt := 326) hx hb dL_isFair_375 (by decide) ?_
            exact ih (y8 + 1) H locs ls hf hP hS (lv_sub hl [1, 2, 3, 4, 5, 6, 7, 0] rfl)
          · have hf := zif_f c52 hf
            refine lv_iconst (v := 0) hx hb dL_isFair_370 (by decide) ?_
            obtain rfl := Option.some.inj hf
            exact x_zret (v := 0) rfl hx hb hr hlocks hK hP hS dL_isFair_371
  have L126 : ∀ (y2 : Int32) (y4 : Int32) (K : Int32 → Option (Int32)) (hKK : ∀ (z3 : Int32) (H : Heap) (locs : List Loc) (ls : Array Slot), K z3 = some r → va_P G.1 vwCl (zW G I J) H → va_S (zA G) s.heap H locs → lv_has ls 9 [(0, .ref (G.2.1 0)), (1, .int x1), (2, .int y2), (3, .int z3), (4, .int y4)] → W p l e (zrm 6 135) s m args below meth c H locs 0 0 (MQ below (zQi G r I J) args s 0 0 (zA G)) (F0 m 384 ls [])) (n : Nat) (y3 : Int32) (y5 : Int32) (H : Heap) (locs : List Loc) (ls : Array Slot), f_L_isFair_l126 I x1 y2 y4 K n y3 y5 = some r → va_P G.1 vwCl (zW G I J) H → va_S (zA G) s.heap H locs → lv_has ls 9 [(0, .ref (G.2.1 0)), (1, .int x1), (2, .int y2), (3, .int y3), (4, .int y4), (5, .int y5)] → W p l e (zrm 6 135) s m args below meth c H locs 0 0 (MQ below (zQi G r I J) args s 0 0 (zA G)) (F0 m 126 ls []) := by
    intro y2 y4 K hKK n
    induction n with
    | zero =>
      intro y3 y5 H locs ls hf
      rw [f_L_isFair_l126] at hf
      cases hf
    | succ n ih =>
      intro y3 y5 H locs ls hf hP hS hl
      rw [f_L_isFair_l126] at hf
      refine lv_iload hx hb dL_isFair_126 (lv_at hl 5 rfl) ?_
      refine lv_aload_n hx hb dL_isFair_128 rfl (lv_at hl 0 rfl) ?_
      refine lv_iconst (v := 1) hx hb dL_isFair_129 (by decide) ?_
      obtain ⟨q24, hq24, hf⟩ := zb_e hf
      refine x_calli (x_runV (As := [.int 1]) (rest := [.int y5]) ⟨hx, hb, hml, hown, hts⟩ (c_X8_count l G hG I J 1 hq24) (cwV 1 hts gL_isFair_X8_count rfl rfl rfl (by decide +kernel) ⟨Nat.le_of_ble_eq_true rfl, Nat.le_of_ble_eq_true rfl⟩) hK hP zkL_0 (by decide) rfl rfl hl.1 rfl (Nat.le_of_ble_eq_true rfl) dL_isFair_130 ⟨Nat.zero_le _, Nat.zero_le _⟩) hS (fun H locs hP hS => ?_)
      refine lv_icmp_ge (tgt := 384) hx hb dL_isFair_133 (by decide) (fun c25 => ?_) (fun c25 => ?_)
      · have hf := zif_t c25 hf
        exact hKK y3 H locs ls hf hP hS (lv_sub hl [0, 1, 2, 3, 4] rfl)
      · have hf := zif_f c25 hf
        refine lv_aload_n hx hb dL_isFair_136 rfl (lv_at hl 0 rfl) ?_
        refine lv_iload hx hb dL_isFair_137 (lv_at hl 5 rfl) ?_
        refine lv_iconst (v := 2) hx hb dL_isFair_139 (by decide) ?_
        obtain ⟨q26, hq26, hf⟩ := zb_e hf
        refine x_calli (x_runV (As := [.int y5, .int 2]) (rest := []) ⟨hx, hb, hml, hown, hts⟩ (c_X8_toolOf l G hG I J y5 2 hq26) (cwV 2 hts gL_isFair_X8_toolOf rfl rfl rfl (by decide +kernel) ⟨Nat.le_of_ble_eq_true rfl, Nat.le_of_ble_eq_true rfl⟩) hK hP zkL_0 (by decide) rfl rfl hl.1 rfl (Nat.le_of_ble_eq_true rfl) dL_isFair_140 ⟨Nat.zero_le _, Nat.zero_le _⟩) hS (fun H locs hP hS => ?_)
        refine lv_istore (lv' := [(6, .int q26), (0, .ref (G.2.1 0)), (1, .int x1), (2, .int y2), (3, .int y3), (4, .int y4), (5, .int y5)]) hx hb dL_isFair_143 hl (by decide) rfl (fun ls hl => ?_)
        refine lv_aload_n hx hb dL_isFair_145 rfl (lv_at hl 1 rfl) ?_
        refine lv_iload hx hb dL_isFair_146 (lv_at hl 6 rfl) ?_
        refine lv_bipush (v := 7) hx hb dL_isFair_148 (by decide) ?_
        obtain ⟨q27, hq27, hf⟩ := zb_e hf
        refine x_calli (x_runV (As := [.int y5, .int 7]) (rest := []) ⟨hx, hb, hml, hown, hts⟩ (c_X8_toolOf l G hG I J y5 7 hq27) (cwV 2 hts gL_isFair_X8_toolOf rfl rfl rfl (by decide +kernel) ⟨Nat.le_of_ble_eq_true rfl, Nat.le_of_ble_eq_true rfl⟩) hK hP zkL_0 (by decide) rfl rfl hl.1 rfl (Nat.le_of_ble_eq_true rfl) dL_isFair_150 ⟨Nat.zero_le _, Nat.zero_le _⟩) hS (fun H locs hP hS => ?_)
        refine lv_istore (lv' := [(7, .int q27), (6, .int q26), (0, .ref (G.2.1 0)), (1, .int x1), (2, .int y2), (3, .int y3), (4, .int y4), (5, .int y5)]) hx hb dL_isFair_153 hl (by decide) rfl (fun ls hl => ?_)
        refine lv_iload_n hx hb dL_isFair_155 rfl (lv_at hl 5 rfl) ?_
        refine lv_aload_n hx hb dL_isFair_156 rfl (lv_at hl 2 rfl) ?_
        refine lv_iload hx hb dL_isFair_157 (lv_at hl 7 rfl) ?_
        refine lv_iconst (v := 5) hx hb dL_isFair_159 (by decide) ?_
        obtain ⟨q28, hq28, hf⟩ := zb_e hf
        refine x_calli (x_runV (As := [.int y5, .int 5]) (rest := [.int y3]) ⟨hx, hb, hml, hown, hts⟩ (c_X8_toolOf l G hG I J y5 5 hq28) (cwV 2 hts gL_isFair_X8_toolOf rfl rfl rfl (by decide +kernel) ⟨Nat.le_of_ble_eq_true rfl, Nat.le_of_ble_eq_true rfl⟩) hK hP zkL_0 (by decide) rfl rfl hl.1 rfl (Nat.le_of_ble_eq_true rfl) dL_isFair_160 ⟨Nat.zero_le _, Nat.zero_le _⟩) hS (fun H locs hP hS => ?_)
        refine lv_iadd hx hb dL_isFair_163 ?_
        obtain ⟨w29, ew29, hf⟩ := zlet_e hf
        refine z_topi ew29 ?_
        refine lv_istore_n (lv' := [(3, .int w29), (7, .int q27), (6, .int q26), (0, .ref (G.2.1 0)), (1, .int x1), (2, .int y2), (4, .int y4), (5, .int y5)]) hx hb dL_isFair_164 rfl hl (by decide) rfl (fun ls hl => ?_)
        refine lv_aload_n hx hb dL_isFair_165 rfl (lv_at hl 3 rfl) ?_
        refine lv_iload hx hb dL_isFair_166 (lv_at hl 7 rfl) ?_
        refine lv_iconst (v := 1) hx hb dL_isFair_168 (by decide) ?_
        obtain ⟨q30, hq30, hf⟩ := zb_e hf
        refine x_calli (x_runV (As := [.int y5, .int 1]) (rest := []) ⟨hx, hb, hml, hown, hts⟩ (c_X8_toolOf l G hG I J y5 1 hq30) (cwV 2 hts gL_isFair_X8_toolOf rfl rfl rfl (by decide +kernel) ⟨Nat.le_of_ble_eq_true rfl, Nat.le_of_ble_eq_true rfl⟩) hK hP zkL_0 (by decide) rfl rfl hl.1 rfl (Nat.le_of_ble_eq_true rfl) dL_isFair_169 ⟨Nat.zero_le _, Nat.zero_le _⟩) hS (fun H locs hP hS => ?_)
        refine lv_if_lt (tgt := 321) hx hb dL_isFair_172 (by decide) (fun c31 => ?_) (fun c31 => ?_)
        · have hf := zif_t c31 hf
          refine lv_iconst (v := 0) hx hb dL_isFair_321 (by decide) ?_
          obtain rfl := Option.some.inj hf
          exact x_zret (v := 0) rfl hx hb hr hlocks hK hP hS dL_isFair_322
        · have hf := zif_f c31 hf
          refine lv_aload_n hx hb dL_isFair_175 rfl (lv_at hl 3 rfl) ?_
          refine lv_iload hx hb dL_isFair_176 (lv_at hl 7 rfl) ?_
          refine lv_iconst (v := 1) hx hb dL_isFair_178 (by decide) ?_
          obtain ⟨q32, hq32, hf⟩ := zb_e hf
          refine x_calli (x_runV (As := [.int y5, .int 1]) (rest := []) ⟨hx, hb, hml, hown, hts⟩ (c_X8_toolOf l G hG I J y5 1 hq32) (cwV 2 hts gL_isFair_X8_toolOf rfl rfl rfl (by decide +kernel) ⟨Nat.le_of_ble_eq_true rfl, Nat.le_of_ble_eq_true rfl⟩) hK hP zkL_0 (by decide) rfl rfl hl.1 rfl (Nat.le_of_ble_eq_true rfl) dL_isFair_179 ⟨Nat.zero_le _, Nat.zero_le _⟩) hS (fun H locs hP hS => ?_)
          refine lv_bipush (v := 9) hx hb dL_isFair_182 (by decide) ?_
          refine lv_icmp_gt (tgt := 321) hx hb dL_isFair_184 (by decide) (fun c33 => ?_) (fun c33 => ?_)
          · have hf := zif_t c33 hf
            refine lv_iconst (v := 0) hx hb dL_isFair_321 (by decide) ?_
            obtain rfl := Option.some.inj hf
            exact x_zret (v := 0) rfl hx hb hr hlocks hK hP hS dL_isFair_322
          · have hf := zif_f c33 hf
            refine lv_iload hx hb dL_isFair_187 (lv_at hl 1 rfl) ?_
            refine lv_bipush (v := 8) hx hb dL_isFair_189 (by decide) ?_
            refine lv_icmp_gt (tgt := 321) hx hb dL_isFair_191 (by decide) (fun c34 => ?_) (fun c34 => ?_)
            · have hf := zif_t c34 hf
              refine lv_iconst (v := 0) hx hb dL_isFair_321 (by decide) ?_
              obtain rfl := Option.some.inj hf
              exact x_zret (v := 0) rfl hx hb hr hlocks hK hP hS dL_isFair_322
            · have hf := zif_f c34 hf
              refine lv_aload_n hx hb dL_isFair_194 rfl (lv_at hl 3 rfl) ?_
              refine lv_iload hx hb dL_isFair_195 (lv_at hl 7 rfl) ?_
              refine lv_bipush (v := 8) hx hb dL_isFair_197 (by decide) ?_
              obtain ⟨q35, hq35, hf⟩ := zb_e hf
              refine x_calli (x_runV (As := [.int y5, .int 8]) (rest := []) ⟨hx, hb, hml, hown, hts⟩ (c_X8_toolOf l G hG I J y5 8 hq35) (cwV 2 hts gL_isFair_X8_toolOf rfl rfl rfl (by decide +kernel) ⟨Nat.le_of_ble_eq_true rfl, Nat.le_of_ble_eq_true rfl⟩) hK hP zkL_0 (by decide) rfl rfl hl.1 rfl (Nat.le_of_ble_eq_true rfl) dL_isFair_199 ⟨Nat.zero_le _, Nat.zero_le _⟩) hS (fun H locs hP hS => ?_)
              refine lv_iconst (v := 1) hx hb dL_isFair_202 (by decide) ?_
              refine lv_icmp_lt (tgt := 321) hx hb dL_isFair_203 (by decide) (fun c36 => ?_) (fun c36 => ?_)
              · have hf := zif_t c36 hf
                refine lv_iconst (v := 0) hx hb dL_isFair_321 (by decide) ?_
                obtain rfl := Option.some.inj hf
                exact x_zret (v := 0) rfl hx hb hr hlocks hK hP hS dL_isFair_322
              · have hf := zif_f c36 hf
                refine lv_aload_n hx hb dL_isFair_206 rfl (lv_at hl 3 rfl) ?_
                refine lv_iload hx hb dL_isFair_207 (lv_at hl 7 rfl) ?_
                refine lv_bipush (v := 8) hx hb dL_isFair_209 (by decide) ?_
                obtain ⟨q37, hq37, hf⟩ := zb_e hf
                refine x_calli (x_runV (As := [.int y5, .int 8]) (rest := []) ⟨hx, hb, hml, hown, hts⟩ (c_X8_toolOf l G hG I J y5 8 hq37) (cwV 2 hts gL_isFair_X8_toolOf rfl rfl rfl (by decide +kernel) ⟨Nat.le_of_ble_eq_true rfl, Nat.le_of_ble_eq_true rfl⟩) hK hP zkL_0 (by decide) rfl rfl hl.1 rfl (Nat.le_of_ble_eq_true rfl) dL_isFair_211 ⟨Nat.zero_le _, Nat.zero_le _⟩) hS (fun H locs hP hS => ?_)
                refine lv_bipush (v := 6) hx hb dL_isFair_214 (by decide) ?_
                refine lv_icmp_gt (tgt := 321) hx hb dL_isFair_216 (by decide) (fun c38 => ?_) (fun c38 => ?_)
                · have hf := zif_t c38 hf
                  refine lv_iconst (v := 0) hx hb dL_isFair_321 (by decide) ?_
                  obtain rfl := Option.some.inj hf
                  exact x_zret (v := 0) rfl hx hb hr hlocks hK hP hS dL_isFair_322
                · have hf := zif_f c38 hf
                  refine lv_aload_n hx hb dL_isFair_219 rfl (lv_at hl 3 rfl) ?_
                  refine lv_iload hx hb dL_isFair_220 (lv_at hl 7 rfl) ?_
                  refine lv_bipush (v := 6) hx hb dL_isFair_222 (by decide) ?_
                  obtain ⟨q39, hq39, hf⟩ := zb_e hf
                  refine x_calli (x_runV (As := [.int y5, .int 6]) (rest := []) ⟨hx, hb, hml, hown, hts⟩ (c_X8_toolOf l G hG I J y5 6 hq39) (cwV 2 hts gL_isFair_X8_toolOf rfl rfl rfl (by decide +kernel) ⟨Nat.le_of_ble_eq_true rfl, Nat.le_of_ble_eq_true rfl⟩) hK hP zkL_0 (by decide) rfl rfl hl.1 rfl (Nat.le_of_ble_eq_true rfl) dL_isFair_224 ⟨Nat.zero_le _, Nat.zero_le _⟩) hS (fun H locs hP hS => ?_)
                  refine lv_bipush (v := 8) hx hb dL_isFair_227 (by decide) ?_
                  refine lv_icmp_gt (tgt := 321) hx hb dL_isFair_229 (by decide) (fun c40 => ?_) (fun c40 => ?_)
                  · have hf := zif_t c40 hf
                    refine lv_iconst (v := 0) hx hb dL_isFair_321 (by decide) ?_
                    obtain rfl := Option.some.inj hf
                    exact x_zret (v := 0) rfl hx hb hr hlocks hK hP hS dL_isFair_322
                  · have hf := zif_f c40 hf
                    refine lv_iload hx hb dL_isFair_232 (lv_at hl 2 rfl) ?_
                    refine lv_if_lt (tgt := 241) hx hb dL_isFair_234 (by decide) (fun c41 => ?_) (fun c41 => ?_)
                    · have hf := zif_t c41 hf
                      refine lv_iconst (v := 0) hx hb dL_isFair_241 (by decide) ?_
                      refine lv_aload_n hx hb dL_isFair_242 rfl (lv_at hl 3 rfl) ?_
                      refine lv_iload hx hb dL_isFair_243 (lv_at hl 7 rfl) ?_
                      refine lv_iconst (v := 5) hx hb dL_isFair_245 (by decide) ?_
                      obtain ⟨q42, hq42, hf⟩ := zb_e hf
                      refine x_calli (x_runV (As := [.int y5, .int 5]) (rest := [.int 0]) ⟨hx, hb, hml, hown, hts⟩ (c_X8_toolOf l G hG I J y5 5 hq42) (cwV 2 hts gL_isFair_X8_toolOf rfl rfl rfl (by decide +kernel) ⟨Nat.le_of_ble_eq_true rfl, Nat.le_of_ble_eq_true rfl⟩) hK hP zkL_0 (by decide) rfl rfl hl.1 rfl (Nat.le_of_ble_eq_true rfl) dL_isFair_246 ⟨Nat.zero_le _, Nat.zero_le _⟩) hS (fun H locs hP hS => ?_)
                      refine lv_if_le (tgt := 256) hx hb dL_isFair_249 (by decide) (fun c43 => ?_) (fun c43 => ?_)
                      · have hf := zif_t c43 hf
                        refine lv_iconst (v := 0) hx hb dL_isFair_256 (by decide) ?_
                        refine lv_icmp_ne (tgt := 321) hx hb dL_isFair_257 (by decide) (fun c44 => absurd (by decide) c44) (fun _ => ?_)
                        refine lv_iload hx hb dL_isFair_260 (lv_at hl 2 rfl) ?_
                        refine lv_if_lt (tgt := 297) hx hb dL_isFair_262 (by decide) (fun c45 => ?_) (fun c45 => ?_)
                        · have hf := zif_t c45 hf
                          refine lv_iload hx hb dL_isFair_297 (lv_at hl 2 rfl) ?_
                          refine lv_if_ge (tgt := 323) hx hb dL_isFair_299 (by decide) (fun c46 => ?_) (fun c46 => ?_)
                          · have hf := zif_t c46 hf
                            refine lv_iconst (v := 1) hx hb dL_isFair_323 (by decide) ?_
                            refine lv_istore (lv' := [(8, .int 1), (3, .int w29), (7, .int q27), (6, .int q26), (0, .ref (G.2.1 0)), (1, .int x1), (2, .int y2), (4, .int y4), (5, .int y5)]) hx hb dL_isFair_324 hl (by decide) rfl (fun ls hl => ?_)
                            refine L326 y2 w29 y4 y5 q27 _ (fun H locs ls hf hP hS hl => ?_) zFu 1 H locs ls hf hP hS (lv_sub hl [4, 5, 6, 1, 7, 8, 2, 0] rfl)
                            refine lv_iinc (v := (y5 + 1)) (lv' := [(5, .int (y5 + 1)), (0, .ref (G.2.1 0)), (1, .int x1), (2, .int y2), (3, .int w29), (4, .int y4)]) hx hb dL_isFair_378 hl (k := 5) rfl rfl (by decide) rfl (fun ls hl => ?_)
                            refine lv_goto (tgt := 126) hx hb dL_isFair_381 (by decide) ?_
                            exact ih w29 (y5 + 1) H locs ls hf hP hS (lv_sub hl [1, 2, 3, 4, 5, 0] rfl)
                          · have hf := zif_f c46 hf
                            refine lv_iload hx hb dL_isFair_302 (lv_at hl 1 rfl) ?_
                            refine lv_if_le (tgt := 323) hx hb dL_isFair_304 (by decide) (fun c53 => ?_) (fun c53 => ?_)
                            · have hf := zif_t c53 hf
                              refine lv_iconst (v := 1) hx hb dL_isFair_323 (by decide) ?_
                              refine lv_istore (lv' := [(8, .int 1), (3, .int w29), (7, .int q27), (6, .int q26), (0, .ref (G.2.1 0)), (1, .int x1), (2, .int y2), (4, .int y4), (5, .int y5)]) hx hb dL_isFair_324 hl (by decide) rfl (fun ls hl => ?_)
                              refine L326 y2 w29 y4 y5 q27 _ (fun H locs ls hf hP hS hl => ?_) zFu 1 H locs ls hf hP hS (lv_sub hl [4, 5, 6, 1, 7, 8, 2, 0] rfl)
                              refine lv_iinc (v := (y5 + 1)) (lv' := [(5, .int (y5 + 1)), (0, .ref (G.2.1 0)), (1, .int x1), (2, .int y2), (3, .int w29), (4, .int y4)]) hx hb dL_isFair_378 hl (k := 5) rfl rfl (by decide) rfl (fun ls hl => ?_)
                              refine lv_goto (tgt := 126) hx hb dL_isFair_381 (by decide) ?_
                              exact ih w29 (y5 + 1) H locs ls hf hP hS (lv_sub hl [1, 2, 3, 4, 5, 0] rfl)
                            · have hf := zif_f c53 hf
                              refine lv_aload_n hx hb dL_isFair_307 rfl (lv_at hl 3 rfl) ?_
                              refine lv_iload hx hb dL_isFair_308 (lv_at hl 7 rfl) ?_
                              refine lv_iload hx hb dL_isFair_310 (lv_at hl 1 rfl) ?_
                              refine lv_iconst (v := 1) hx hb dL_isFair_312 (by decide) ?_
                              refine lv_isub hx hb dL_isFair_313 ?_
                              refine lv_iconst (v := 2) hx hb dL_isFair_314 (by decide) ?_
                              obtain ⟨q54, hq54, hf⟩ := zb_e hf
                              refine x_calli (x_runV (As := [.int y5, .int (q27 - 1), .int 2]) (rest := []) ⟨hx, hb, hml, hown, hts⟩ (c_X8_link l G hG I J y5 (q27 - 1) 2 hq54) (cwV 3 hts gL_isFair_X8_link rfl rfl rfl (by decide +kernel) ⟨Nat.le_of_ble_eq_true rfl, Nat.le_of_ble_eq_true rfl⟩) hK hP zkL_0 (by decide) rfl rfl hl.1 rfl (Nat.le_of_ble_eq_true rfl) dL_isFair_315 ⟨Nat.zero_le _, Nat.zero_le _⟩) hS (fun H locs hP hS => ?_)
                              refine lv_if_ge (tgt := 323) hx hb dL_isFair_318 (by decide) (fun c55 => ?_) (fun c55 => ?_)
                              · have hf := zif_t c55 hf
                                refine lv_iconst (v := 1) hx hb dL_isFair_323 (by decide) ?_
                                refine lv_istore (lv' := [(8, .int 1), (3, .int w29), (7, .int q27), (6, .int q26), (0, .ref (G.2.1 0)), (1, .int x1), (2, .int y2), (4, .int y4), (5, .int y5)]) hx hb dL_isFair_324 hl (by decide) rfl (fun ls hl => ?_)
                                refine L326 y2 w29 y4 y5 q27 _ (fun H locs ls hf hP hS hl => ?_) zFu 1 H locs ls hf hP hS (lv_sub hl [4, 5, 6, 1, 7, 8, 2, 0] rfl)
                                refine lv_iinc (v := (y5 + 1)) (lv' := [(5, .int (y5 + 1)), (0, .ref (G.2.1 0)), (1, .int x1), (2, .int y2), (3, .int w29), (4, .int y4)]) hx hb dL_isFair_378 hl (k := 5) rfl rfl (by decide) rfl (fun ls hl => ?_)
                                refine lv_goto (tgt := 126) hx hb dL_isFair_381 (by decide) ?_
                                exact ih w29 (y5 + 1) H locs ls hf hP hS (lv_sub hl [1, 2, 3, 4, 5, 0] rfl)
                              · have hf := zif_f c55 hf
                                refine lv_iconst (v := 0) hx hb dL_isFair_321 (by decide) ?_
                                obtain rfl := Option.some.inj hf
                                exact x_zret (v := 0) rfl hx hb hr hlocks hK hP hS dL_isFair_322
                        · have hf := zif_f c45 hf
                          refine lv_aload_n hx hb dL_isFair_265 rfl (lv_at hl 3 rfl) ?_
                          refine lv_iload hx hb dL_isFair_266 (lv_at hl 7 rfl) ?_
                          refine lv_iload hx hb dL_isFair_268 (lv_at hl 1 rfl) ?_
                          refine lv_iconst (v := 1) hx hb dL_isFair_270 (by decide) ?_
                          refine lv_isub hx hb dL_isFair_271 ?_
                          refine lv_iconst (v := 0) hx hb dL_isFair_272 (by decide) ?_
                          obtain ⟨q56, hq56, hf⟩ := zb_e hf
                          refine x_calli (x_runV (As := [.int y5, .int (q27 - 1), .int 0]) (rest := []) ⟨hx, hb, hml, hown, hts⟩ (c_X8_link l G hG I J y5 (q27 - 1) 0 hq56) (cwV 3 hts gL_isFair_X8_link rfl rfl rfl (by decide +kernel) ⟨Nat.le_of_ble_eq_true rfl, Nat.le_of_ble_eq_true rfl⟩) hK hP zkL_0 (by decide) rfl rfl hl.1 rfl (Nat.le_of_ble_eq_true rfl) dL_isFair_273 ⟨Nat.zero_le _, Nat.zero_le _⟩) hS (fun H locs hP hS => ?_)
                          refine lv_iload hx hb dL_isFair_276 (lv_at hl 2 rfl) ?_
                          refine lv_icmp_ne (tgt := 321) hx hb dL_isFair_278 (by decide) (fun c57 => ?_) (fun c57 => ?_)
                          · have hf := zif_f c57 hf
                            refine lv_iconst (v := 0) hx hb dL_isFair_321 (by decide) ?_
                            obtain rfl := Option.some.inj hf
                            exact x_zret (v := 0) rfl hx hb hr hlocks hK hP hS dL_isFair_322
                          · have hf := zif_t c57 hf
                            refine lv_aload_n hx hb dL_isFair_281 rfl (lv_at hl 3 rfl) ?_
                            refine lv_iload hx hb dL_isFair_282 (lv_at hl 7 rfl) ?_
                            refine lv_iload hx hb dL_isFair_284 (lv_at hl 1 rfl) ?_
                            refine lv_iconst (v := 1) hx hb dL_isFair_286 (by decide) ?_
                            refine lv_isub hx hb dL_isFair_287 ?_
                            refine lv_iconst (v := 2) hx hb dL_isFair_288 (by decide) ?_
                            obtain ⟨q58, hq58, hf⟩ := zb_e hf
                            refine x_calli (x_runV (As := [.int y5, .int (q27 - 1), .int 2]) (rest := []) ⟨hx, hb, hml, hown, hts⟩ (c_X8_link l G hG I J y5 (q27 - 1) 2 hq58) (cwV 3 hts gL_isFair_X8_link rfl rfl rfl (by decide +kernel) ⟨Nat.le_of_ble_eq_true rfl, Nat.le_of_ble_eq_true rfl⟩) hK hP zkL_0 (by decide) rfl rfl hl.1 rfl (Nat.le_of_ble_eq_true rfl) dL_isFair_289 ⟨Nat.zero_le _, Nat.zero_le _⟩) hS (fun H locs hP hS => ?_)
                            refine lv_bipush (v := (-2)) hx hb dL_isFair_292 (by decide) ?_
                            refine lv_icmp_ne (tgt := 321) hx hb dL_isFair_294 (by decide) (fun c59 => ?_) (fun c59 => ?_)
                            · have hf := zif_f c59 hf
                              refine lv_iconst (v := 0) hx hb dL_isFair_321 (by decide) ?_
                              obtain rfl := Option.some.inj hf
                              exact x_zret (v := 0) rfl hx hb hr hlocks hK hP hS dL_isFair_322
                            · have hf := zif_t c59 hf
                              refine lv_iload hx hb dL_isFair_297 (lv_at hl 2 rfl) ?_
                              refine lv_if_ge (tgt := 323) hx hb dL_isFair_299 (by decide) (fun c60 => ?_) (fun c60 => ?_)
                              · have hf := zif_t c60 hf
                                refine lv_iconst (v := 1) hx hb dL_isFair_323 (by decide) ?_
                                refine lv_istore (lv' := [(8, .int 1), (3, .int w29), (7, .int q27), (6, .int q26), (0, .ref (G.2.1 0)), (1, .int x1), (2, .int y2), (4, .int y4), (5, .int y5)]) hx hb dL_isFair_324 hl (by decide) rfl (fun ls hl => ?_)
                                refine L326 y2 w29 y4 y5 q27 _ (fun H locs ls hf hP hS hl => ?_) zFu 1 H locs ls hf hP hS (lv_sub hl [4, 5, 6, 1, 7, 8, 2, 0] rfl)
                                refine lv_iinc (v := (y5 + 1)) (lv' := [(5, .int (y5 + 1)), (0, .ref (G.2.1 0)), (1, .int x1), (2, .int y2), (3, .int w29), (4, .int y4)]) hx hb dL_isFair_378 hl (k := 5) rfl rfl (by decide) rfl (fun ls hl => ?_)
                                refine lv_goto (tgt := 126) hx hb dL_isFair_381 (by decide) ?_
                                exact ih w29 (y5 + 1) H locs ls hf hP hS (lv_sub hl [1, 2, 3, 4, 5, 0] rfl)
                              · have hf := zif_f c60 hf
                                refine lv_iload hx hb dL_isFair_302 (lv_at hl 1 rfl) ?_
                                refine lv_if_le (tgt := 323) hx hb dL_isFair_304 (by decide) (fun c61 => ?_) (fun c61 => ?_)
                                · have hf := zif_t c61 hf
                                  refine lv_iconst (v := 1) hx hb dL_isFair_323 (by decide) ?_
                                  refine lv_istore (lv' := [(8, .int 1), (3, .int w29), (7, .int q27), (6, .int q26), (0, .ref (G.2.1 0)), (1, .int x1), (2, .int y2), (4, .int y4), (5, .int y5)]) hx hb dL_isFair_324 hl (by decide) rfl (fun ls hl => ?_)
                                  refine L326 y2 w29 y4 y5 q27 _ (fun H locs ls hf hP hS hl => ?_) zFu 1 H locs ls hf hP hS (lv_sub hl [4, 5, 6, 1, 7, 8, 2, 0] rfl)
                                  refine lv_iinc (v := (y5 + 1)) (lv' := [(5, .int (y5 + 1)), (0, .ref (G.2.1 0)), (1, .int x1), (2, .int y2), (3, .int w29), (4, .int y4)]) hx hb dL_isFair_378 hl (k := 5) rfl rfl (by decide) rfl (fun ls hl => ?_)
                                  refine lv_goto (tgt := 126) hx hb dL_isFair_381 (by decide) ?_
                                  exact ih w29 (y5 + 1) H locs ls hf hP hS (lv_sub hl [1, 2, 3, 4, 5, 0] rfl)
                                · have hf := zif_f c61 hf
                                  refine lv_aload_n hx hb dL_isFair_307 rfl (lv_at hl 3 rfl) ?_
                                  refine lv_iload hx hb dL_isFair_308 (lv_at hl 7 rfl) ?_
                                  refine lv_iload hx hb dL_isFair_310 (lv_at hl 1 rfl) ?_
                                  refine lv_iconst (v := 1) hx hb dL_isFair_312 (by decide) ?_
                                  refine lv_isub hx hb dL_isFair_313 ?_
                                  refine lv_iconst (v := 2) hx hb dL_isFair_314 (by decide) ?_
                                  obtain ⟨q62, hq62, hf⟩ := zb_e hf
                                  refine x_calli (x_runV (As := [.int y5, .int (q27 - 1), .int 2]) (rest := []) ⟨hx, hb, hml, hown, hts⟩ (c_X8_link l G hG I J y5 (q27 - 1) 2 hq62) (cwV 3 hts gL_isFair_X8_link rfl rfl rfl (by decide +kernel) ⟨Nat.le_of_ble_eq_true rfl, Nat.le_of_ble_eq_true rfl⟩) hK hP zkL_0 (by decide) rfl rfl hl.1 rfl (Nat.le_of_ble_eq_true rfl) dL_isFair_315 ⟨Nat.zero_le _, Nat.zero_le _⟩) hS (fun H locs hP hS => ?_)
                                  refine lv_if_ge (tgt := 323) hx hb dL_isFair_318 (by decide) (fun c63 => ?_) (fun c63 => ?_)
                                  · have hf := zif_t c63 hf
                                    refine lv_iconst (v := 1) hx hb dL_isFair_323 (by decide) ?_
                                    refine lv_istore (lv' := [(8, .int 1), (3, .int w29), (7, .int q27), (6, .int q26), (0, .ref (G.2.1 0)), (1, .int x1), (2, .int y2), (4, .int y4), (5, .int y5)]) hx hb dL_isFair_324 hl (by decide) rfl (fun ls hl => ?_)
                                    refine L326 y2 w29 y4 y5 q27 _ (fun H locs ls hf hP hS hl => ?_) zFu 1 H locs ls hf hP hS (lv_sub hl [4, 5, 6, 1, 7, 8, 2, 0] rfl)
                                    refine lv_iinc (v := (y5 + 1)) (lv' := [(5, .int (y5 + 1)), (0, .ref (G.2.1 0)), (1, .int x1), (2, .int y2), (3, .int w29), (4, .int y4)]) hx hb dL_isFair_378 hl (k := 5) rfl rfl (by decide) rfl (fun ls hl => ?_)
                                    refine lv_goto (tgt := 126) hx hb dL_isFair_381 (by decide) ?_
                                    exact ih w29 (y5 + 1) H locs ls hf hP hS (lv_sub hl [1, 2, 3, 4, 5, 0] rfl)
                                  · have hf := zif_f c63 hf
                                    refine lv_iconst (v := 0) hx hb dL_isFair_321 (by decide) ?_
                                    obtain rfl := Option.some.inj hf
                                    exact x_zret (v := 0) rfl hx hb hr hlocks hK hP hS dL_isFair_322
                      · have hf := zif_f c43 hf
                        refine lv_iconst (v := 1) hx hb dL_isFair_252 (by decide) ?_
                        refine lv_goto (tgt := 257) hx hb dL_isFair_253 (by decide) ?_
                        refine lv_icmp_ne (tgt := 321) hx hb dL_isFair_257 (by decide) (fun _ => ?_) (fun c64 => absurd (c64) (by decide))
                        refine lv_iconst (v := 0) hx hb dL_isFair_321 (by decide) ?_
                        obtain rfl := Option.some.inj hf
                        exact x_zret (v := 0) rfl hx hb hr hlocks hK hP hS dL_isFair_322
                    · have hf := zif_f c41 hf
                      refine lv_iconst (v := 1) hx hb dL_isFair_237 (by decide) ?_
                      refine lv_goto (tgt := 242) hx hb dL_isFair_238 (by decide) ?_
                      refine lv_aload_n hx hb dL_isFair_242 rfl (lv_at hl 3 rfl) ?_
                      refine lv_iload hx hb dL_isFair_243 (lv_at hl 7 rfl) ?_
                      refine lv_iconst (v := 5) hx hb dL_isFair_245 (by decide) ?_
                      obtain ⟨q65, hq65, hf⟩ := zb_e hf
                      refine x_calli (x_runV (As := [.int y5, .int 5]) (rest := [.int 1]) ⟨hx, hb, hml, hown, hts⟩ (c_X8_toolOf l G hG I J y5 5 hq65) (cwV 2 hts gL_isFair_X8_toolOf rfl rfl rfl (by decide +kernel) ⟨Nat.le_of_ble_eq_true rfl, Nat.le_of_ble_eq_true rfl⟩) hK hP zkL_0 (by decide) rfl rfl hl.1 rfl (Nat.le_of_ble_eq_true rfl) dL_isFair_246 ⟨Nat.zero_le _, Nat.zero_le _⟩) hS (fun H locs hP hS => ?_)
                      refine lv_if_le (tgt := 256) hx hb dL_isFair_249 (by decide) (fun c66 => ?_) (fun c66 => ?_)
                      · have hf := zif_t c66 hf
                        refine lv_iconst (v := 0) hx hb dL_isFair_256 (by decide) ?_
                        refine lv_icmp_ne (tgt := 321) hx hb dL_isFair_257 (by decide) (fun _ => ?_) (fun c67 => absurd (c67) (by decide))
                        refine lv_iconst (v := 0) hx hb dL_isFair_321 (by decide) ?_
                        obtain rfl := Option.some.inj hf
                        exact x_zret (v := 0) rfl hx hb hr hlocks hK hP hS dL_isFair_322
                      · have hf := zif_f c66 hf
                        refine lv_iconst (v := 1) hx hb dL_isFair_252 (by decide) ?_
                        refine lv_goto (tgt := 257) hx hb dL_isFair_253 (by decide) ?_
                        refine lv_icmp_ne (tgt := 321) hx hb dL_isFair_257 (by decide) (fun c68 => absurd (by decide) c68) (fun _ => ?_)
                        refine lv_iload hx hb dL_isFair_260 (lv_at hl 2 rfl) ?_
                        refine lv_if_lt (tgt := 297) hx hb dL_isFair_262 (by decide) (fun c69 => ?_) (fun c69 => ?_)
                        · have hf := zif_t c69 hf
                          refine lv_iload hx hb dL_isFair_297 (lv_at hl 2 rfl) ?_
                          refine lv_if_ge (tgt := 323) hx hb dL_isFair_299 (by decide) (fun c70 => ?_) (fun c70 => ?_)
                          · have hf := zif_t c70 hf
                            refine lv_iconst (v := 1) hx hb dL_isFair_323 (by decide) ?_
                            refine lv_istore (lv' := [(8, .int 1), (3, .int w29), (7, .int q27), (6, .int q26), (0, .ref (G.2.1 0)), (1, .int x1), (2, .int y2), (4, .int y4), (5, .int y5)]) hx hb dL_isFair_324 hl (by decide) rfl (fun ls hl => ?_)
                            refine L326 y2 w29 y4 y5 q27 _ (fun H locs ls hf hP hS hl => ?_) zFu 1 H locs ls hf hP hS (lv_sub hl [4, 5, 6, 1, 7, 8, 2, 0] rfl)
                            refine lv_iinc (v := (y5 + 1)) (lv' := [(5, .int (y5 + 1)), (0, .ref (G.2.1 0)), (1, .int x1), (2, .int y2), (3, .int w29), (4, .int y4)]) hx hb dL_isFair_378 hl (k := 5) rfl rfl (by decide) rfl (fun ls hl => ?_)
                            refine lv_goto (tgt := 126) hx hb dL_isFair_381 (by decide) ?_
                            exact ih w29 (y5 + 1) H locs ls hf hP hS (lv_sub hl [1, 2, 3, 4, 5, 0] rfl)
                          · have hf := zif_f c70 hf
                            refine lv_iload hx hb dL_isFair_302 (lv_at hl 1 rfl) ?_
                            refine lv_if_le (tgt := 323) hx hb dL_isFair_304 (by decide) (fun c71 => ?_) (fun c71 => ?_)
                            · have hf := zif_t c71 hf
                              refine lv_iconst (v := 1) hx hb dL_isFair_323 (by decide) ?_
                              refine lv_istore (lv' := [(8, .int 1), (3, .int w29), (7, .int q27), (6, .int q26), (0, .ref (G.2.1 0)), (1, .int x1), (2, .int y2), (4, .int y4), (5, .int y5)]) hx hb dL_isFair_324 hl (by decide) rfl (fun ls hl => ?_)
                              refine L326 y2 w29 y4 y5 q27 _ (fun H locs ls hf hP hS hl => ?_) zFu 1 H locs ls hf hP hS (lv_sub hl [4, 5, 6, 1, 7, 8, 2, 0] rfl)
                              refine lv_iinc (v := (y5 + 1)) (lv' := [(5, .int (y5 + 1)), (0, .ref (G.2.1 0)), (1, .int x1), (2, .int y2), (3, .int w29), (4, .int y4)]) hx hb dL_isFair_378 hl (k := 5) rfl rfl (by decide) rfl (fun ls hl => ?_)
                              refine lv_goto (tgt := 126) hx hb dL_isFair_381 (by decide) ?_
                              exact ih w29 (y5 + 1) H locs ls hf hP hS (lv_sub hl [1, 2, 3, 4, 5, 0] rfl)
                            · have hf := zif_f c71 hf
                              refine lv_aload_n hx hb dL_isFair_307 rfl (lv_at hl 3 rfl) ?_
                              refine lv_iload hx hb dL_isFair_308 (lv_at hl 7 rfl) ?_
                              refine lv_iload hx hb dL_isFair_310 (lv_at hl 1 rfl) ?_
                              refine lv_iconst (v := 1) hx hb dL_isFair_312 (by decide) ?_
                              refine lv_isub hx hb dL_isFair_313 ?_
                              refine lv_iconst (v := 2) hx hb dL_isFair_314 (by decide) ?_
                              obtain ⟨q72, hq72, hf⟩ := zb_e hf
                              refine x_calli (x_runV (As := [.int y5, .int (q27 - 1), .int 2]) (rest := []) ⟨hx, hb, hml, hown, hts⟩ (c_X8_link l G hG I J y5 (q27 - 1) 2 hq72) (cwV 3 hts gL_isFair_X8_link rfl rfl rfl (by decide +kernel) ⟨Nat.le_of_ble_eq_true rfl, Nat.le_of_ble_eq_true rfl⟩) hK hP zkL_0 (by decide) rfl rfl hl.1 rfl (Nat.le_of_ble_eq_true rfl) dL_isFair_315 ⟨Nat.zero_le _, Nat.zero_le _⟩) hS (fun H locs hP hS => ?_)
                              refine lv_if_ge (tgt := 323) hx hb dL_isFair_318 (by decide) (fun c73 => ?_) (fun c73 => ?_)
                              · have hf := zif_t c73 hf
                                refine lv_iconst (v := 1) hx hb dL_isFair_323 (by decide) ?_
                                refine lv_istore (lv' := [(8, .int 1), (3, .int w29), (7, .int q27), (6, .int q26), (0, .ref (G.2.1 0)), (1, .int x1), (2, .int y2), (4, .int y4), (5, .int y5)]) hx hb dL_isFair_324 hl (by decide) rfl (fun ls hl => ?_)
                                refine L326 y2 w29 y4 y5 q27 _ (fun H locs ls hf hP hS hl => ?_) zFu 1 H locs ls hf hP hS (lv_sub hl [4, 5, 6, 1, 7, 8, 2, 0] rfl)
                                refine lv_iinc (v := (y5 + 1)) (lv' := [(5, .int (y5 + 1)), (0, .ref (G.2.1 0)), (1, .int x1), (2, .int y2), (3, .int w29), (4, .int y4)]) hx hb dL_isFair_378 hl (k := 5) rfl rfl (by decide) rfl (fun ls hl => ?_)
                                refine lv_goto (tgt := 126) hx hb dL_isFair_381 (by decide) ?_
                                exact ih w29 (y5 + 1) H locs ls hf hP hS (lv_sub hl [1, 2, 3, 4, 5, 0] rfl)
                              · have hf := zif_f c73 hf
                                refine lv_iconst (v := 0) hx hb dL_isFair_321 (by decide) ?_
                                obtain rfl := Option.some.inj hf
                                exact x_zret (v := 0) rfl hx hb hr hlocks hK hP hS dL_isFair_322
                        · have hf := zif_f c69 hf
                          refine lv_aload_n hx hb dL_isFair_265 rfl (lv_at hl 3 rfl) ?_
                          refine lv_iload hx hb dL_isFair_266 (lv_at hl 7 rfl) ?_
                          refine lv_iload hx hb dL_isFair_268 (lv_at hl 1 rfl) ?_
                          refine lv_iconst (v := 1) hx hb dL_isFair_270 (by decide) ?_
                          refine lv_isub hx hb dL_isFair_271 ?_
                          refine lv_iconst (v := 0) hx hb dL_isFair_272 (by decide) ?_
                          obtain ⟨q74, hq74, hf⟩ := zb_e hf
                          refine x_calli (x_runV (As := [.int y5, .int (q27 - 1), .int 0]) (rest := []) ⟨hx, hb, hml, hown, hts⟩ (c_X8_link l G hG I J y5 (q27 - 1) 0 hq74) (cwV 3 hts gL_isFair_X8_link rfl rfl rfl (by decide +kernel) ⟨Nat.le_of_ble_eq_true rfl, Nat.le_of_ble_eq_true rfl⟩) hK hP zkL_0 (by decide) rfl rfl hl.1 rfl (Nat.le_of_ble_eq_true rfl) dL_isFair_273 ⟨Nat.zero_le _, Nat.zero_le _⟩) hS (fun H locs hP hS => ?_)
                          refine lv_iload hx hb dL_isFair_276 (lv_at hl 2 rfl) ?_
                          refine lv_icmp_ne (tgt := 321) hx hb dL_isFair_278 (by decide) (fun c75 => ?_) (fun c75 => ?_)
                          · have hf := zif_f c75 hf
                            refine lv_iconst (v := 0) hx hb dL_isFair_321 (by decide) ?_
                            obtain rfl := Option.some.inj hf
                            exact x_zret (v := 0) rfl hx hb hr hlocks hK hP hS dL_isFair_322
                          · have hf := zif_t c75 hf
                            refine lv_aload_n hx hb dL_isFair_281 rfl (lv_at hl 3 rfl) ?_
                            refine lv_iload hx hb dL_isFair_282 (lv_at hl 7 rfl) ?_
                            refine lv_iload hx hb dL_isFair_284 (lv_at hl 1 rfl) ?_
                            refine lv_iconst (v := 1) hx hb dL_isFair_286 (by decide) ?_
                            refine lv_isub hx hb dL_isFair_287 ?_
                            refine lv_iconst (v := 2) hx hb dL_isFair_288 (by decide) ?_
                            obtain ⟨q76, hq76, hf⟩ := zb_e hf
                            refine x_calli (x_runV (As := [.int y5, .int (q27 - 1), .int 2]) (rest := []) ⟨hx, hb, hml, hown, hts⟩ (c_X8_link l G hG I J y5 (q27 - 1) 2 hq76) (cwV 3 hts gL_isFair_X8_link rfl rfl rfl (by decide +kernel) ⟨Nat.le_of_ble_eq_true rfl, Nat.le_of_ble_eq_true rfl⟩) hK hP zkL_0 (by decide) rfl rfl hl.1 rfl (Nat.le_of_ble_eq_true rfl) dL_isFair_289 ⟨Nat.zero_le _, Nat.zero_le _⟩) hS (fun H locs hP hS => ?_)
                            refine lv_bipush (v := (-2)) hx hb dL_isFair_292 (by decide) ?_
                            refine lv_icmp_ne (tgt := 321) hx hb dL_isFair_294 (by decide) (fun c77 => ?_) (fun c77 => ?_)
                            · have hf := zif_f c77 hf
                              refine lv_iconst (v := 0) hx hb dL_isFair_321 (by decide) ?_
                              obtain rfl := Option.some.inj hf
                              exact x_zret (v := 0) rfl hx hb hr hlocks hK hP hS dL_isFair_322
                            · have hf := zif_t c77 hf
                              refine lv_iload hx hb dL_isFair_297 (lv_at hl 2 rfl) ?_
                              refine lv_if_ge (tgt := 323) hx hb dL_isFair_299 (by decide) (fun c78 => ?_) (fun c78 => ?_)
                              · have hf := zif_t c78 hf
                                refine lv_iconst (v := 1) hx hb dL_isFair_323 (by decide) ?_
                                refine lv_istore (lv' := [(8, .int 1), (3, .int w29), (7, .int q27), (6, .int q26), (0, .ref (G.2.1 0)), (1, .int x1), (2, .int y2), (4, .int y4), (5, .int y5)]) hx hb dL_isFair_324 hl (by decide) rfl (fun ls hl => ?_)
                                refine L326 y2 w29 y4 y5 q27 _ (fun H locs ls hf hP hS hl => ?_) zFu 1 H locs ls hf hP hS (lv_sub hl [4, 5, 6, 1, 7, 8, 2, 0] rfl)
                                refine lv_iinc (v := (y5 + 1)) (lv' := [(5, .int (y5 + 1)), (0, .ref (G.2.1 0)), (1, .int x1), (2, .int y2), (3, .int w29), (4, .int y4)]) hx hb dL_isFair_378 hl (k := 5) rfl rfl (by decide) rfl (fun ls hl => ?_)
                                refine lv_goto (tgt := 126) hx hb dL_isFair_381 (by decide) ?_
                                exact ih w29 (y5 + 1) H locs ls hf hP hS (lv_sub hl [1, 2, 3, 4, 5, 0] rfl)
                              · have hf := zif_f c78 hf
                                refine lv_iload hx hb dL_isFair_302 (lv_at hl 1 rfl) ?_
                                refine lv_if_le (tgt := 323) hx hb dL_isFair_304 (by decide) (fun c79 => ?_) (fun c79 => ?_)
                                · have hf := zif_t c79 hf
                                  refine lv_iconst (v := 1) hx hb dL_isFair_323 (by decide) ?_
                                  refine lv_istore (lv' := [(8, .int 1), (3, .int w29), (7, .int q27), (6, .int q26), (0, .ref (G.2.1 0)), (1, .int x1), (2, .int y2), (4, .int y4), (5, .int y5)]) hx hb dL_isFair_324 hl (by decide) rfl (fun ls hl => ?_)
                                  refine L326 y2 w29 y4 y5 q27 _ (fun H locs ls hf hP hS hl => ?_) zFu 1 H locs ls hf hP hS (lv_sub hl [4, 5, 6, 1, 7, 8, 2, 0] rfl)
                                  refine lv_iinc (v := (y5 + 1)) (lv' := [(5, .int (y5 + 1)), (0, .ref (G.2.1 0)), (1, .int x1), (2, .int y2), (3, .int w29), (4, .int y4)]) hx hb dL_isFair_378 hl (k := 5) rfl rfl (by decide) rfl (fun ls hl => ?_)
                                  refine lv_goto (tgt := 126) hx hb dL_isFair_381 (by decide) ?_
                                  exact ih w29 (y5 + 1) H locs ls hf hP hS (lv_sub hl [1, 2, 3, 4, 5, 0] rfl)
                                · have hf := zif_f c79 hf
                                  refine lv_aload_n hx hb dL_isFair_307 rfl (lv_at hl 3 rfl) ?_
                                  refine lv_iload hx hb dL_isFair_308 (lv_at hl 7 rfl) ?_
                                  refine lv_iload hx hb dL_isFair_310 (lv_at hl 1 rfl) ?_
                                  refine lv_iconst (v := 1) hx hb dL_isFair_312 (by decide) ?_
                                  refine lv_isub hx hb dL_isFair_313 ?_
                                  refine lv_iconst (v := 2) hx hb dL_isFair_314 (by decide) ?_
                                  obtain ⟨q80, hq80, hf⟩ := zb_e hf
                                  refine x_calli (x_runV (As := [.int y5, .int (q27 - 1), .int 2]) (rest := []) ⟨hx, hb, hml, hown, hts⟩ (c_X8_link l G hG I J y5 (q27 - 1) 2 hq80) (cwV 3 hts gL_isFair_X8_link rfl rfl rfl (by decide +kernel) ⟨Nat.le_of_ble_eq_true rfl, Nat.le_of_ble_eq_true rfl⟩) hK hP zkL_0 (by decide) rfl rfl hl.1 rfl (Nat.le_of_ble_eq_true rfl) dL_isFair_315 ⟨Nat.zero_le _, Nat.zero_le _⟩) hS (fun H locs hP hS => ?_)
                                  refine lv_if_ge (tgt := 323) hx hb dL_isFair_318 (by decide) (fun c81 => ?_) (fun c81 => ?_)
                                  · have hf := zif_t c81 hf
                                    refine lv_iconst (v := 1) hx hb dL_isFair_323 (by decide) ?_
                                    refine lv_istore (lv' := [(8, .int 1), (3, .int w29), (7, .int q27), (6, .int q26), (0, .ref (G.2.1 0)), (1, .int x1), (2, .int y2), (4, .int y4), (5, .int y5)]) hx hb dL_isFair_324 hl (by decide) rfl (fun ls hl => ?_)
                                    refine L326 y2 w29 y4 y5 q27 _ (fun H locs ls hf hP hS hl => ?_) zFu 1 H locs ls hf hP hS (lv_sub hl [4, 5, 6, 1, 7, 8, 2, 0] rfl)
                                    refine lv_iinc (v := (y5 + 1)) (lv' := [(5, .int (y5 + 1)), (0, .ref (G.2.1 0)), (1, .int x1), (2, .int y2), (3, .int w29), (4, .int y4)]) hx hb dL_isFair_378 hl (k := 5) rfl rfl (by decide) rfl (fun ls hl => ?_)
                                    refine lv_goto (tgt := 126) hx hb dL_isFair_381 (by decide) ?_
                                    exact ih w29 (y5 + 1) H locs ls hf hP hS (lv_sub hl [1, 2, 3, 4, 5, 0] rfl)
                                  · have hf := zif_f c81 hf
                                    refine lv_iconst (v := 0) hx hb dL_isFair_321 (by decide) ?_
                                    obtain rfl := Option.some.inj hf
                                    exact x_zret (v := 0) rfl hx hb hr hlocks hK hP hS dL_isFair_322
  unfold f_L_isFair at hf
  refine lv_iconst (v := 0) hx hb dL_isFair_0 (by decide) ?_
  refine lv_istore_n (lv' := [(2, .int 0), (0, .ref (G.2.1 0)), (1, .int x1)]) hx hb dL_isFair_1 rfl hl (by decide) rfl (fun ls hl => ?_)
  refine lv_aload_n hx hb dL_isFair_2 rfl (lv_at hl 1 rfl) ?_
  refine lv_iconst (v := 5) hx hb dL_isFair_3 (by decide) ?_
  obtain ⟨q1, hq1, hf⟩ := zb_e hf
  refine x_calli (x_runV (As := [.int 5]) (rest := []) ⟨hx, hb, hml, hown, hts⟩ (c_X8_count l G hG I J 5 hq1) (cwV 1 hts gL_isFair_X8_count rfl rfl rfl (by decide +kernel) ⟨Nat.le_of_ble_eq_true rfl, Nat.le_of_ble_eq_true rfl⟩) hK hP zkL_0 (by decide) rfl rfl hl.1 rfl (Nat.le_of_ble_eq_true rfl) dL_isFair_4 ⟨Nat.zero_le _, Nat.zero_le _⟩) hS (fun H locs hP hS => ?_)
  refine lv_istore_n (lv' := [(3, .int q1), (2, .int 0), (0, .ref (G.2.1 0)), (1, .int x1)]) hx hb dL_isFair_7 rfl hl (by decide) rfl (fun ls hl => ?_)
  refine lv_iconst (v := 0) hx hb dL_isFair_8 (by decide) ?_
  refine lv_istore (lv' := [(4, .int 0), (3, .int q1), (2, .int 0), (0, .ref (G.2.1 0)), (1, .int x1)]) hx hb dL_isFair_9 hl (by decide) rfl (fun ls hl => ?_)
  refine lv_iconst (v := 0) hx hb dL_isFair_11 (by decide) ?_
  refine lv_istore (lv' := [(5, .int 0), (4, .int 0), (3, .int q1), (2, .int 0), (0, .ref (G.2.1 0)), (1, .int x1)]) hx hb dL_isFair_12 hl (by decide) rfl (fun ls hl => ?_)
  refine L14 _ (fun z21 z22 z23 H locs ls hf hP hS hl => ?_) zFu 0 q1 0 0 H locs ls hf hP hS (lv_sub hl [4, 5, 3, 2, 1, 0] rfl)
  refine lv_iconst (v := 0) hx hb dL_isFair_123 (by decide) ?_
  refine lv_istore (lv' := [(5, .int 0), (0, .ref (G.2.1 0)), (1, .int x1), (2, .int z21), (3, .int z22), (4, .int z23)]) hx hb dL_isFair_124 hl (by decide) rfl (fun ls hl => ?_)
  refine L126 z21 z23 _ (fun z82 H locs ls hf hP hS hl => ?_) zFu z22 0 H locs ls hf hP hS (lv_sub hl [1, 2, 3, 4, 5, 0] rfl)
  refine lv_iload_n hx hb dL_isFair_384 rfl (lv_at hl 2 rfl) ?_
  refine lv_aload_n hx hb dL_isFair_385 rfl (lv_at hl 0 rfl) ?_
  refine lv_iconst (v := 2) hx hb dL_isFair_386 (by decide) ?_
  obtain ⟨q83, hq83, hf⟩ := zb_e hf
  refine x_calli (x_runV (As := [.int 2]) (rest := [.int z21]) ⟨hx, hb, hml, hown, hts⟩ (c_X8_count l G hG I J 2 hq83) (cwV 1 hts gL_isFair_X8_count rfl rfl rfl (by decide +kernel) ⟨Nat.le_of_ble_eq_true rfl, Nat.le_of_ble_eq_true rfl⟩) hK hP zkL_0 (by decide) rfl rfl hl.1 rfl (Nat.le_of_ble_eq_true rfl) dL_isFair_387 ⟨Nat.zero_le _, Nat.zero_le _⟩) hS (fun H locs hP hS => ?_)
  refine lv_icmp_ne (tgt := 422) hx hb dL_isFair_390 (by decide) (fun c84 => ?_) (fun c84 => ?_)
  · have hf := zif_f c84 hf
    refine lv_iconst (v := 0) hx hb dL_isFair_422 (by decide) ?_
    obtain rfl := Option.some.inj hf
    exact x_zret (v := 0) rfl hx hb hr hlocks hK hP hS dL_isFair_423
  · have hf := zif_t c84 hf
    refine lv_iload hx hb dL_isFair_393 (lv_at hl 4 rfl) ?_
    refine lv_aload_n hx hb dL_isFair_395 rfl (lv_at hl 0 rfl) ?_
    refine lv_bipush (v := 6) hx hb dL_isFair_396 (by decide) ?_
    obtain ⟨q85, hq85, hf⟩ := zb_e hf
    refine x_calli (x_runV (As := [.int 6]) (rest := [.int z23]) ⟨hx, hb, hml, hown, hts⟩ (c_X8_count l G hG I J 6 hq85) (cwV 1 hts gL_isFair_X8_count rfl rfl rfl (by decide +kernel) ⟨Nat.le_of_ble_eq_true rfl, Nat.le_of_ble_eq_true rfl⟩) hK hP zkL_0 (by decide) rfl rfl hl.1 rfl (Nat.le_of_ble_eq_true rfl) dL_isFair_398 ⟨Nat.zero_le _, Nat.zero_le _⟩) hS (fun H locs hP hS => ?_)
    refine lv_icmp_ne (tgt := 422) hx hb dL_isFair_401 (by decide) (fun c86 => ?_) (fun c86 => ?_)
    · have hf := zif_f c86 hf
      refine lv_iconst (v := 0) hx hb dL_isFair_422 (by decide) ?_
      obtain rfl := Option.some.inj hf
      exact x_zret (v := 0) rfl hx hb hr hlocks hK hP hS dL_isFair_423
    · have hf := zif_t c86 hf
      refine lv_iload_n hx hb dL_isFair_404 rfl (lv_at hl 3 rfl) ?_
      refine lv_iload_n hx hb dL_isFair_405 rfl (lv_at hl 1 rfl) ?_
      refine lv_icmp_ne (tgt := 422) hx hb dL_isFair_406 (by decide) (fun c87 => ?_) (fun c87 => ?_)
      · have hf := zif_f c87 hf
        refine lv_iconst (v := 0) hx hb dL_isFair_422 (by decide) ?_
        obtain rfl := Option.some.inj hf
        exact x_zret (v := 0) rfl hx hb hr hlocks hK hP hS dL_isFair_423
      · have hf := zif_t c87 hf
        refine lv_aload_n hx hb dL_isFair_409 rfl (lv_at hl 0 rfl) ?_
        refine lv_iconst (v := 3) hx hb dL_isFair_410 (by decide) ?_
        obtain ⟨q88, hq88, hf⟩ := zb_e hf
        refine x_calli (x_runV (As := [.int 3]) (rest := []) ⟨hx, hb, hml, hown, hts⟩ (c_X8_swaps l G hG I J 3 hq88) (cwV 1 hts gL_isFair_X8_swaps rfl rfl rfl (by decide +kernel) ⟨Nat.le_of_ble_eq_true rfl, Nat.le_of_ble_eq_true rfl⟩) hK hP zkL_0 (by decide) rfl rfl hl.1 rfl (Nat.le_of_ble_eq_true rfl) dL_isFair_411 ⟨Nat.zero_le _, Nat.zero_le _⟩) hS (fun H locs hP hS => ?_)
        refine lv_iload_n hx hb dL_isFair_414 rfl (lv_at hl 1 rfl) ?_
        refine lv_icmp_ne (tgt := 422) hx hb dL_isFair_415 (by decide) (fun c89 => ?_) (fun c89 => ?_)
        · have hf := zif_f c89 hf
          refine lv_iconst (v := 0) hx hb dL_isFair_422 (by decide) ?_
          obtain rfl := Option.some.inj hf
          exact x_zret (v := 0) rfl hx hb hr hlocks hK hP hS dL_isFair_423
        · have hf := zif_t c89 hf
          refine lv_iconst (v := 1) hx hb dL_isFair_418 (by decide) ?_
          refine lv_goto (tgt := 423) hx hb dL_isFair_419 (by decide) ?_
          obtain rfl := Option.some.inj hf
          exact x_zret (v := 1) rfl hx hb hr hlocks hK hP hS dL_isFair_423
