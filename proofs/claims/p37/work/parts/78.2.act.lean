set_option maxRecDepth 100000 in
set_option maxHeartbeats 8000000 in
theorem c_L_act (l : Launch) (G : zGT) (hG : zOK G) (I J : zM) (b L : Nat) (xs : Nat → Int32) (hbA : b < G.2.2.2) (x2 : Int32) {r : Int32 × zM} (hf : f_L_act L xs I x2 = some r) : Met l yL_act wsL_act (zrm 6 141) (va_Pc [.ref (G.2.1 0), .ref b, .int x2] (zSX G b L xs I J)) (zQi G r.1 r.2 J) 0 0 (zA G) := by
  refine zMetX (cc := cL_act) (n := 9) (ret := (some .int)) (by decide) rfl (Nat.le_of_ble_eq_true rfl) ?_
  intro p e s m args below meth c H locs ls F hX hbl hK hP hS hl
  obtain ⟨hx, hb, hr, hml, hts, hown, hlocks⟩ := F
  have hown : s.vm.findClass RL = some m.cls := hown
  have hl : lv_has ls 9 [(0, .ref (G.2.1 0)), (1, .ref b), (2, .int x2)] := hl
  unfold f_L_act at hf
  refine lv_aload_n hx hb dL_act_0 rfl (lv_at hl 1 rfl) ?_
  refine lv_iload_n hx hb dL_act_1 rfl (lv_at hl 2 rfl) ?_
  obtain ⟨q1, hq1, hf⟩ := zb_e hf
  refine x_calli (x_runSX (As := [.ref b, .int x2]) (rest := []) ⟨hx, hb, hml, hown, hts⟩ (c_L_cell l G hG I J b L xs hbA x2 hq1) (va_cwS 2 hts gL_act_L_cell rfl rfl rfl (by decide +kernel) ⟨Nat.le_of_ble_eq_true rfl, Nat.le_of_ble_eq_true rfl⟩) hX hbl hbA hK hP hS rfl hl.1 rfl (Nat.le_of_ble_eq_true rfl) dL_act_2 ⟨Nat.zero_le _, Nat.zero_le _⟩) hS (fun H locs hP hS => ?_)
  refine lv_istore_n (lv' := [(3, .int q1), (0, .ref (G.2.1 0)), (1, .ref b), (2, .int x2)]) hx hb dL_act_5 rfl hl (by decide) rfl (fun ls hl => ?_)
  refine lv_iload_n hx hb dL_act_6 rfl (lv_at hl 0 rfl) ?_
  refine lv_iconst (v := 4) hx hb dL_act_7 (by decide) ?_
  refine lv_ishr hx hb dL_act_8 ?_
  refine lv_ldc (v := 65535) hx hb hown (hts (.constant RL 7 65535) (by decide +kernel)) dL_act_9 ?_
  refine lv_iand hx hb dL_act_11 ?_
  obtain ⟨w2, ew2, hf⟩ := zlet_e hf
  refine z_topi ew2 ?_
  refine lv_istore (lv' := [(4, .int w2), (3, .int q1), (0, .ref (G.2.1 0)), (1, .ref b), (2, .int x2)]) hx hb dL_act_12 hl (by decide) rfl (fun ls hl => ?_)
  refine lv_iload hx hb dL_act_14 (lv_at hl 0 rfl) ?_
  refine lv_bipush (v := 7) hx hb dL_act_16 (by decide) ?_
  refine lv_iand hx hb dL_act_18 ?_
  obtain ⟨w3, ew3, hf⟩ := zlet_e hf
  refine z_topi ew3 ?_
  refine lv_istore (lv' := [(5, .int w3), (4, .int w2), (3, .int q1), (0, .ref (G.2.1 0)), (1, .ref b), (2, .int x2)]) hx hb dL_act_19 hl (by decide) rfl (fun ls hl => ?_)
  refine lv_iload hx hb dL_act_21 (lv_at hl 1 rfl) ?_
  refine lv_iconst (v := 3) hx hb dL_act_23 (by decide) ?_
  refine lv_ishr hx hb dL_act_24 ?_
  refine lv_bipush (v := 7) hx hb dL_act_25 (by decide) ?_
  refine lv_iand hx hb dL_act_27 ?_
  obtain ⟨w4, ew4, hf⟩ := zlet_e hf
  refine z_topi ew4 ?_
  refine lv_istore (lv' := [(6, .int w4), (5, .int w3), (4, .int w2), (3, .int q1), (0, .ref (G.2.1 0)), (1, .ref b), (2, .int x2)]) hx hb dL_act_28 hl (by decide) rfl (fun ls hl => ?_)
  refine lv_iload_n hx hb dL_act_30 rfl (lv_at hl 3 rfl) ?_
  refine lv_bipush (v := 15) hx hb dL_act_31 (by decide) ?_
  refine lv_iand hx hb dL_act_33 ?_
  rcases Classical.em ((q1 &&& 15) = 0) with c25 | c25
  · have hf := zif_t c25 hf
    refine lv_tableIn (off := 74) (tgt := 108) hx hb dL_act_34 (by rw [c25]; decide) (by rw [c25]; decide) (by rw [c25]; decide) (by decide) ?_
    refine lv_iload hx hb dL_act_108 (lv_at hl 2 rfl) ?_
    refine lv_bipush (v := 6) hx hb dL_act_110 (by decide) ?_
    refine lv_ishr hx hb dL_act_112 ?_
    refine lv_sipush (v := 255) hx hb dL_act_113 (by decide) ?_
    refine lv_iand hx hb dL_act_116 ?_
    obtain ⟨w5, ew5, hf⟩ := zlet_e hf
    refine z_topi ew5 ?_
    refine lv_istore (lv' := [(7, .int w5), (6, .int w4), (5, .int w3), (4, .int w2), (3, .int q1), (0, .ref (G.2.1 0)), (1, .ref b), (2, .int x2)]) hx hb dL_act_117 hl (by decide) rfl (fun ls hl => ?_)
    refine lv_aload_n hx hb dL_act_119 rfl (lv_at hl 5 rfl) ?_
    refine lv_iconst (v := 1) hx hb dL_act_120 (by decide) ?_
    refine lv_iload hx hb dL_act_121 (lv_at hl 3 rfl) ?_
    refine lv_bipush (v := 15) hx hb dL_act_123 (by decide) ?_
    refine lv_iand hx hb dL_act_125 ?_
    refine lv_iadd hx hb dL_act_126 ?_
    refine lv_iload hx hb dL_act_127 (lv_at hl 0 rfl) ?_
    obtain ⟨q6, hq6, hf⟩ := zb_e hf
    refine x_calli (x_runV (As := [.int (1 + (w2 &&& 15)), .int w5]) (rest := []) ⟨hx, hb, hml, hown, hts⟩ (c_X8_person l G hG I J (1 + (w2 &&& 15)) w5 hq6) (cwV 2 hts gL_act_X8_person rfl rfl rfl (by decide +kernel) ⟨Nat.le_of_ble_eq_true rfl, Nat.le_of_ble_eq_true rfl⟩) hK hP zkL_0 (by decide) rfl rfl hl.1 rfl (Nat.le_of_ble_eq_true rfl) dL_act_129 ⟨Nat.zero_le _, Nat.zero_le _⟩) hS (fun H locs hP hS => ?_)
    refine lv_if_lt (tgt := 140) hx hb dL_act_132 (by decide) (fun c7 => ?_) (fun c7 => ?_)
    · have hf := zif_t c7 hf
      refine lv_iconst (v := 0) hx hb dL_act_140 (by decide) ?_
      obtain rfl := Option.some.inj hf
      exact x_iret hx hb hr hlocks hK hP hS dL_act_141
    · have hf := zif_f c7 hf
      refine lv_iload hx hb dL_act_135 (lv_at hl 0 rfl) ?_
      refine lv_goto (tgt := 141) hx hb dL_act_137 (by decide) ?_
      obtain rfl := Option.some.inj hf
      exact x_iret hx hb hr hlocks hK hP hS dL_act_141
  · have hf := zif_f c25 hf
    rcases Classical.em ((q1 &&& 15) = 1) with c26 | c26
    · have hf := zif_t c26 hf
      refine lv_tableIn (off := 108) (tgt := 142) hx hb dL_act_34 (by rw [c26]; decide) (by rw [c26]; decide) (by rw [c26]; decide) (by decide) ?_
      refine lv_aload_n hx hb dL_act_142 rfl (lv_at hl 4 rfl) ?_
      refine lv_iconst (v := 1) hx hb dL_act_143 (by decide) ?_
      refine lv_iload hx hb dL_act_144 (lv_at hl 2 rfl) ?_
      refine lv_bipush (v := 63) hx hb dL_act_146 (by decide) ?_
      refine lv_iand hx hb dL_act_148 ?_
      refine lv_iadd hx hb dL_act_149 ?_
      obtain ⟨q8, hq8, hf⟩ := zb_e hf
      refine x_calli (x_runV (As := [.int (1 + (w2 &&& 63))]) (rest := []) ⟨hx, hb, hml, hown, hts⟩ (c_X8_tool l G hG I J (1 + (w2 &&& 63)) hq8) (cwV 1 hts gL_act_X8_tool rfl rfl rfl (by decide +kernel) ⟨Nat.le_of_ble_eq_true rfl, Nat.le_of_ble_eq_true rfl⟩) hK hP zkL_0 (by decide) rfl rfl hl.1 rfl (Nat.le_of_ble_eq_true rfl) dL_act_150 ⟨Nat.zero_le _, Nat.zero_le _⟩) hS (fun H locs hP hS => ?_)
      refine lv_pop hx hb dL_act_153 rfl ?_
      refine lv_goto (tgt := 357) hx hb dL_act_154 (by decide) ?_
      refine lv_iconst (v := 0) hx hb dL_act_357 (by decide) ?_
      obtain rfl := Option.some.inj hf
      exact x_iret hx hb hr hlocks hK hP hS dL_act_358
    · have hf := zif_f c26 hf
      rcases Classical.em ((q1 &&& 15) = 2) with c27 | c27
      · have hf := zif_t c27 hf
        refine lv_tableIn (off := 123) (tgt := 157) hx hb dL_act_34 (by rw [c27]; decide) (by rw [c27]; decide) (by rw [c27]; decide) (by decide) ?_
        refine lv_aload_n hx hb dL_act_157 rfl (lv_at hl 4 rfl) ?_
        refine lv_iload hx hb dL_act_158 (lv_at hl 1 rfl) ?_
        refine lv_iload hx hb dL_act_160 (lv_at hl 0 rfl) ?_
        refine lv_iconst (v := 1) hx hb dL_act_162 (by decide) ?_
        refine lv_iload hx hb dL_act_163 (lv_at hl 2 rfl) ?_
        refine lv_bipush (v := 6) hx hb dL_act_165 (by decide) ?_
        refine lv_ishr hx hb dL_act_167 ?_
        refine lv_bipush (v := 15) hx hb dL_act_168 (by decide) ?_
        refine lv_iand hx hb dL_act_170 ?_
        refine lv_iadd hx hb dL_act_171 ?_
        obtain ⟨q9, hq9, hf⟩ := zb_e hf
        refine x_calli (x_runV (As := [.int w3, .int w4, .int (1 + ((w2 >>> ((6 : Int32) &&& 31)) &&& 15))]) (rest := []) ⟨hx, hb, hml, hown, hts⟩ (c_X8_lease l G hG I J w3 w4 (1 + ((w2 >>> ((6 : Int32) &&& 31)) &&& 15)) hq9) (cwV 3 hts gL_act_X8_lease rfl rfl rfl (by decide +kernel) ⟨Nat.le_of_ble_eq_true rfl, Nat.le_of_ble_eq_true rfl⟩) hK hP zkL_0 (by decide) rfl rfl hl.1 rfl (Nat.le_of_ble_eq_true rfl) dL_act_172 ⟨Nat.zero_le _, Nat.zero_le _⟩) hS (fun H locs hP hS => ?_)
        refine lv_pop hx hb dL_act_175 rfl ?_
        refine lv_goto (tgt := 357) hx hb dL_act_176 (by decide) ?_
        refine lv_iconst (v := 0) hx hb dL_act_357 (by decide) ?_
        obtain rfl := Option.some.inj hf
        exact x_iret hx hb hr hlocks hK hP hS dL_act_358
      · have hf := zif_f c27 hf
        rcases Classical.em ((q1 &&& 15) = 3) with c28 | c28
        · have hf := zif_t c28 hf
          refine lv_tableIn (off := 123) (tgt := 157) hx hb dL_act_34 (by rw [c28]; decide) (by rw [c28]; decide) (by rw [c28]; decide) (by decide) ?_
          refine lv_aload_n hx hb dL_act_157 rfl (lv_at hl 4 rfl) ?_
          refine lv_iload hx hb dL_act_158 (lv_at hl 1 rfl) ?_
          refine lv_iload hx hb dL_act_160 (lv_at hl 0 rfl) ?_
          refine lv_iconst (v := 1) hx hb dL_act_162 (by decide) ?_
          refine lv_iload hx hb dL_act_163 (lv_at hl 2 rfl) ?_
          refine lv_bipush (v := 6) hx hb dL_act_165 (by decide) ?_
          refine lv_ishr hx hb dL_act_167 ?_
          refine lv_bipush (v := 15) hx hb dL_act_168 (by decide) ?_
          refine lv_iand hx hb dL_act_170 ?_
          refine lv_iadd hx hb dL_act_171 ?_
          obtain ⟨q10, hq10, hf⟩ := zb_e hf
          refine x_calli (x_runV (As := [.int w3, .int w4, .int (1 + ((w2 >>> ((6 : Int32) &&& 31)) &&& 15))]) (rest := []) ⟨hx, hb, hml, hown, hts⟩ (c_X8_lease l G hG I J w3 w4 (1 + ((w2 >>> ((6 : Int32) &&& 31)) &&& 15)) hq10) (cwV 3 hts gL_act_X8_lease rfl rfl rfl (by decide +kernel) ⟨Nat.le_of_ble_eq_true rfl, Nat.le_of_ble_eq_true rfl⟩) hK hP zkL_0 (by decide) rfl rfl hl.1 rfl (Nat.le_of_ble_eq_true rfl) dL_act_172 ⟨Nat.zero_le _, Nat.zero_le _⟩) hS (fun H locs hP hS => ?_)
          refine lv_pop hx hb dL_act_175 rfl ?_
          refine lv_goto (tgt := 357) hx hb dL_act_176 (by decide) ?_
          refine lv_iconst (v := 0) hx hb dL_act_357 (by decide) ?_
          obtain rfl := Option.some.inj hf
          exact x_iret hx hb hr hlocks hK hP hS dL_act_358
        · have hf := zif_f c28 hf
          rcases Classical.em ((q1 &&& 15) = 4) with c29 | c29
          · have hf := zif_t c29 hf
            refine lv_tableIn (off := 123) (tgt := 157) hx hb dL_act_34 (by rw [c29]; decide) (by rw [c29]; decide) (by rw [c29]; decide) (by decide) ?_
            refine lv_aload_n hx hb dL_act_157 rfl (lv_at hl 4 rfl) ?_
            refine lv_iload hx hb dL_act_158 (lv_at hl 1 rfl) ?_
            refine lv_iload hx hb dL_act_160 (lv_at hl 0 rfl) ?_
            refine lv_iconst (v := 1) hx hb dL_act_162 (by decide) ?_
            refine lv_iload hx hb dL_act_163 (lv_at hl 2 rfl) ?_
            refine lv_bipush (v := 6) hx hb dL_act_165 (by decide) ?_
            refine lv_ishr hx hb dL_act_167 ?_
            refine lv_bipush (v := 15) hx hb dL_act_168 (by decide) ?_
            refine lv_iand hx hb dL_act_170 ?_
            refine lv_iadd hx hb dL_act_171 ?_
            obtain ⟨q11, hq11, hf⟩ := zb_e hf
            refine x_calli (x_runV (As := [.int w3, .int w4, .int (1 + ((w2 >>> ((6 : Int32) &&& 31)) &&& 15))]) (rest := []) ⟨hx, hb, hml, hown, hts⟩ (c_X8_lease l G hG I J w3 w4 (1 + ((w2 >>> ((6 : Int32) &&& 31)) &&& 15)) hq11) (cwV 3 hts gL_act_X8_lease rfl rfl rfl (by decide +kernel) ⟨Nat.le_of_ble_eq_true rfl, Nat.le_of_ble_eq_true rfl⟩) hK hP zkL_0 (by decide) rfl rfl hl.1 rfl (Nat.le_of_ble_eq_true rfl) dL_act_172 ⟨Nat.zero_le _, Nat.zero_le _⟩) hS (fun H locs hP hS => ?_)
            refine lv_pop hx hb dL_act_175 rfl ?_
            refine lv_goto (tgt := 357) hx hb dL_act_176 (by decide) ?_
            refine lv_iconst (v := 0) hx hb dL_act_357 (by decide) ?_
            obtain rfl := Option.some.inj hf
            exact x_iret hx hb hr hlocks hK hP hS dL_act_358
          · have hf := zif_f c29 hf
            rcases Classical.em ((q1 &&& 15) = 5) with c30 | c30
            · have hf := zif_t c30 hf
              refine lv_tableIn (off := 145) (tgt := 179) hx hb dL_act_34 (by rw [c30]; decide) (by rw [c30]; decide) (by rw [c30]; decide) (by decide) ?_
              refine lv_aload_n hx hb dL_act_179 rfl (lv_at hl 4 rfl) ?_
              refine lv_iload hx hb dL_act_180 (lv_at hl 1 rfl) ?_
              refine lv_iload hx hb dL_act_182 (lv_at hl 0 rfl) ?_
              refine lv_bipush (v := 100) hx hb dL_act_184 (by decide) ?_
              refine lv_iload hx hb dL_act_186 (lv_at hl 2 rfl) ?_
              refine lv_bipush (v := 6) hx hb dL_act_188 (by decide) ?_
              refine lv_ishr hx hb dL_act_190 ?_
              refine lv_iconst (v := 3) hx hb dL_act_191 (by decide) ?_
              refine lv_iand hx hb dL_act_192 ?_
              refine lv_imul hx hb dL_act_193 ?_
              refine lv_iconst (v := 1) hx hb dL_act_194 (by decide) ?_
              refine lv_iadd hx hb dL_act_195 ?_
              refine lv_iload hx hb dL_act_196 (lv_at hl 2 rfl) ?_
              refine lv_bipush (v := 8) hx hb dL_act_198 (by decide) ?_
              refine lv_ishr hx hb dL_act_200 ?_
              refine lv_bipush (v := 7) hx hb dL_act_201 (by decide) ?_
              refine lv_iand hx hb dL_act_203 ?_
              refine lv_iadd hx hb dL_act_204 ?_
              obtain ⟨q12, hq12, hf⟩ := zb_e hf
              refine x_calli (x_runV (As := [.int w3, .int w4, .int (((100 * ((w2 >>> ((6 : Int32) &&& 31)) &&& 3)) + 1) + ((w2 >>> ((8 : Int32) &&& 31)) &&& 7))]) (rest := []) ⟨hx, hb, hml, hown, hts⟩ (c_X8_claim l G hG I J w3 w4 (((100 * ((w2 >>> ((6 : Int32) &&& 31)) &&& 3)) + 1) + ((w2 >>> ((8 : Int32) &&& 31)) &&& 7)) hq12) (cwV 3 hts gL_act_X8_claim rfl rfl rfl (by decide +kernel) ⟨Nat.le_of_ble_eq_true rfl, Nat.le_of_ble_eq_true rfl⟩) hK hP zkL_0 (by decide) rfl rfl hl.1 rfl (Nat.le_of_ble_eq_true rfl) dL_act_205 ⟨Nat.zero_le _, Nat.zero_le _⟩) hS (fun H locs hP hS => ?_)
              refine lv_pop hx hb dL_act_208 rfl ?_
              refine lv_goto (tgt := 357) hx hb dL_act_209 (by decide) ?_
              refine lv_iconst (v := 0) hx hb dL_act_357 (by decide) ?_
              obtain rfl := Option.some.inj hf
              exact x_iret hx hb hr hlocks hK hP hS dL_act_358
            · have hf := zif_f c30 hf
              rcases Classical.em ((q1 &&& 15) = 6) with c31 | c31
              · have hf := zif_t c31 hf
                refine lv_tableIn (off := 178) (tgt := 212) hx hb dL_act_34 (by rw [c31]; decide) (by rw [c31]; decide) (by rw [c31]; decide) (by decide) ?_
                refine lv_aload_n hx hb dL_act_212 rfl (lv_at hl 4 rfl) ?_
                refine lv_iload hx hb dL_act_213 (lv_at hl 0 rfl) ?_
                obtain ⟨q13, hq13, hf⟩ := zb_e hf
                refine x_calli (x_runV (As := [.int w4]) (rest := []) ⟨hx, hb, hml, hown, hts⟩ (c_X8_returned l G hG I J w4 hq13) (cwV 1 hts gL_act_X8_returned rfl rfl rfl (by decide +kernel) ⟨Nat.le_of_ble_eq_true rfl, Nat.le_of_ble_eq_true rfl⟩) hK hP zkL_0 (by decide) rfl rfl hl.1 rfl (Nat.le_of_ble_eq_true rfl) dL_act_215 ⟨Nat.zero_le _, Nat.zero_le _⟩) hS (fun H locs hP hS => ?_)
                refine lv_pop hx hb dL_act_218 rfl ?_
                refine lv_goto (tgt := 357) hx hb dL_act_219 (by decide) ?_
                refine lv_iconst (v := 0) hx hb dL_act_357 (by decide) ?_
                obtain rfl := Option.some.inj hf
                exact x_iret hx hb hr hlocks hK hP hS dL_act_358
              · have hf := zif_f c31 hf
                rcases Classical.em ((q1 &&& 15) = 7) with c32 | c32
                · have hf := zif_t c32 hf
                  refine lv_tableIn (off := 178) (tgt := 212) hx hb dL_act_34 (by rw [c32]; decide) (by rw [c32]; decide) (by rw [c32]; decide) (by decide) ?_
                  refine lv_aload_n hx hb dL_act_212 rfl (lv_at hl 4 rfl) ?_
                  refine lv_iload hx hb dL_act_213 (lv_at hl 0 rfl) ?_
                  obtain ⟨q14, hq14, hf⟩ := zb_e hf
                  refine x_calli (x_runV (As := [.int w4]) (rest := []) ⟨hx, hb, hml, hown, hts⟩ (c_X8_returned l G hG I J w4 hq14) (cwV 1 hts gL_act_X8_returned rfl rfl rfl (by decide +kernel) ⟨Nat.le_of_ble_eq_true rfl, Nat.le_of_ble_eq_true rfl⟩) hK hP zkL_0 (by decide) rfl rfl hl.1 rfl (Nat.le_of_ble_eq_true rfl) dL_act_215 ⟨Nat.zero_le _, Nat.zero_le _⟩) hS (fun H locs hP hS => ?_)
                  refine lv_pop hx hb dL_act_218 rfl ?_
                  refine lv_goto (tgt := 357) hx hb dL_act_219 (by decide) ?_
                  refine lv_iconst (v := 0) hx hb dL_act_357 (by decide) ?_
                  obtain rfl := Option.some.inj hf
                  exact x_iret hx hb hr hlocks hK hP hS dL_act_358
                · have hf := zif_f c32 hf
                  rcases Classical.em ((q1 &&& 15) = 8) with c33 | c33
                  · have hf := zif_t c33 hf
                    refine lv_tableIn (off := 188) (tgt := 222) hx hb dL_act_34 (by rw [c33]; decide) (by rw [c33]; decide) (by rw [c33]; decide) (by decide) ?_
                    refine lv_aload_n hx hb dL_act_222 rfl (lv_at hl 4 rfl) ?_
                    refine lv_iload hx hb dL_act_223 (lv_at hl 0 rfl) ?_
                    refine lv_iload hx hb dL_act_225 (lv_at hl 1 rfl) ?_
                    obtain ⟨q15, hq15, hf⟩ := zb_e hf
                    refine x_calli (x_runV (As := [.int w4, .int w3]) (rest := []) ⟨hx, hb, hml, hown, hts⟩ (c_X8_pass l G hG I J w4 w3 hq15) (cwV 2 hts gL_act_X8_pass rfl rfl rfl (by decide +kernel) ⟨Nat.le_of_ble_eq_true rfl, Nat.le_of_ble_eq_true rfl⟩) hK hP zkL_0 (by decide) rfl rfl hl.1 rfl (Nat.le_of_ble_eq_true rfl) dL_act_227 ⟨Nat.zero_le _, Nat.zero_le _⟩) hS (fun H locs hP hS => ?_)
                    refine lv_pop hx hb dL_act_230 rfl ?_
                    refine lv_goto (tgt := 357) hx hb dL_act_231 (by decide) ?_
                    refine lv_iconst (v := 0) hx hb dL_act_357 (by decide) ?_
                    obtain rfl := Option.some.inj hf
                    exact x_iret hx hb hr hlocks hK hP hS dL_act_358
                  · have hf := zif_f c33 hf
                    rcases Classical.em ((q1 &&& 15) = 9) with c34 | c34
                    · have hf := zif_t c34 hf
                      refine lv_tableIn (off := 200) (tgt := 234) hx hb dL_act_34 (by rw [c34]; decide) (by rw [c34]; decide) (by rw [c34]; decide) (by decide) ?_
                      refine lv_aload_n hx hb dL_act_234 rfl (lv_at hl 4 rfl) ?_
                      refine lv_iload hx hb dL_act_235 (lv_at hl 0 rfl) ?_
                      refine lv_iload hx hb dL_act_237 (lv_at hl 2 rfl) ?_
                      refine lv_bipush (v := 6) hx hb dL_act_239 (by decide) ?_
                      refine lv_ishr hx hb dL_act_241 ?_
                      refine lv_bipush (v := 7) hx hb dL_act_242 (by decide) ?_
                      refine lv_iand hx hb dL_act_244 ?_
                      obtain ⟨q16, hq16, hf⟩ := zb_e hf
                      refine x_calli (x_runV (As := [.int w4, .int ((w2 >>> ((6 : Int32) &&& 31)) &&& 7)]) (rest := []) ⟨hx, hb, hml, hown, hts⟩ (c_X8_swap l G hG I J w4 ((w2 >>> ((6 : Int32) &&& 31)) &&& 7) hq16) (cwV 2 hts gL_act_X8_swap rfl rfl rfl (by decide +kernel) ⟨Nat.le_of_ble_eq_true rfl, Nat.le_of_ble_eq_true rfl⟩) hK hP zkL_0 (by decide) rfl rfl hl.1 rfl (Nat.le_of_ble_eq_true rfl) dL_act_245 ⟨Nat.zero_le _, Nat.zero_le _⟩) hS (fun H locs hP hS => ?_)
                      refine lv_pop hx hb dL_act_248 rfl ?_
                      refine lv_goto (tgt := 357) hx hb dL_act_249 (by decide) ?_
                      refine lv_iconst (v := 0) hx hb dL_act_357 (by decide) ?_
                      obtain rfl := Option.some.inj hf
                      exact x_iret hx hb hr hlocks hK hP hS dL_act_358
                    · have hf := zif_f c34 hf
                      rcases Classical.em ((q1 &&& 15) = 10) with c35 | c35
                      · have hf := zif_t c35 hf
                        refine lv_tableIn (off := 218) (tgt := 252) hx hb dL_act_34 (by rw [c35]; decide) (by rw [c35]; decide) (by rw [c35]; decide) (by decide) ?_
                        refine lv_aload_n hx hb dL_act_252 rfl (lv_at hl 4 rfl) ?_
                        refine lv_iload hx hb dL_act_253 (lv_at hl 0 rfl) ?_
                        refine lv_iconst (v := 1) hx hb dL_act_255 (by decide) ?_
                        refine lv_iload hx hb dL_act_256 (lv_at hl 2 rfl) ?_
                        refine lv_bipush (v := 6) hx hb dL_act_258 (by decide) ?_
                        refine lv_ishr hx hb dL_act_260 ?_
                        refine lv_iconst (v := 3) hx hb dL_act_261 (by decide) ?_
                        refine lv_iand hx hb dL_act_262 ?_
                        refine lv_iadd hx hb dL_act_263 ?_
                        obtain ⟨q17, hq17, hf⟩ := zb_e hf
                        refine x_calli (x_runV (As := [.int w4, .int (1 + ((w2 >>> ((6 : Int32) &&& 31)) &&& 3))]) (rest := []) ⟨hx, hb, hml, hown, hts⟩ (c_X8_use l G hG I J w4 (1 + ((w2 >>> ((6 : Int32) &&& 31)) &&& 3)) hq17) (cwV 2 hts gL_act_X8_use rfl rfl rfl (by decide +kernel) ⟨Nat.le_of_ble_eq_true rfl, Nat.le_of_ble_eq_true rfl⟩) hK hP zkL_0 (by decide) rfl rfl hl.1 rfl (Nat.le_of_ble_eq_true rfl) dL_act_264 ⟨Nat.zero_le _, Nat.zero_le _⟩) hS (fun H locs hP hS => ?_)
                        refine lv_pop hx hb dL_act_267 rfl ?_
                        refine lv_goto (tgt := 357) hx hb dL_act_268 (by decide) ?_
                        refine lv_iconst (v := 0) hx hb dL_act_357 (by decide) ?_
                        obtain rfl := Option.some.inj hf
                        exact x_iret hx hb hr hlocks hK hP hS dL_act_358
                      · have hf := zif_f c35 hf
                        rcases Classical.em ((q1 &&& 15) = 11) with c36 | c36
                        · have hf := zif_t c36 hf
                          refine lv_tableIn (off := 237) (tgt := 271) hx hb dL_act_34 (by rw [c36]; decide) (by rw [c36]; decide) (by rw [c36]; decide) (by decide) ?_
                          refine lv_aload_n hx hb dL_act_271 rfl (lv_at hl 4 rfl) ?_
                          refine lv_iload hx hb dL_act_272 (lv_at hl 0 rfl) ?_
                          obtain ⟨q18, hq18, hf⟩ := zb_e hf
                          refine x_calli (x_runV (As := [.int w4]) (rest := []) ⟨hx, hb, hml, hown, hts⟩ (c_X8_look l G hG I J w4 hq18) (cwV 1 hts gL_act_X8_look rfl rfl rfl (by decide +kernel) ⟨Nat.le_of_ble_eq_true rfl, Nat.le_of_ble_eq_true rfl⟩) hK hP zkL_0 (by decide) rfl rfl hl.1 rfl (Nat.le_of_ble_eq_true rfl) dL_act_274 ⟨Nat.zero_le _, Nat.zero_le _⟩) hS (fun H locs hP hS => ?_)
                          refine lv_pop hx hb dL_act_277 rfl ?_
                          refine lv_goto (tgt := 357) hx hb dL_act_278 (by decide) ?_
                          refine lv_iconst (v := 0) hx hb dL_act_357 (by decide) ?_
                          obtain rfl := Option.some.inj hf
                          exact x_iret hx hb hr hlocks hK hP hS dL_act_358
                        · have hf := zif_f c36 hf
                          rcases Classical.em ((q1 &&& 15) = 12) with c37 | c37
                          · have hf := zif_t c37 hf
                            refine lv_tableIn (off := 247) (tgt := 281) hx hb dL_act_34 (by rw [c37]; decide) (by rw [c37]; decide) (by rw [c37]; decide) (by decide) ?_
                            refine lv_aload_n hx hb dL_act_281 rfl (lv_at hl 4 rfl) ?_
                            refine lv_iconst (v := 1) hx hb dL_act_282 (by decide) ?_
                            refine lv_iload hx hb dL_act_283 (lv_at hl 2 rfl) ?_
                            refine lv_bipush (v := 7) hx hb dL_act_285 (by decide) ?_
                            refine lv_iand hx hb dL_act_287 ?_
                            refine lv_iadd hx hb dL_act_288 ?_
                            obtain ⟨q19, hq19, hf⟩ := zb_e hf
                            refine x_calli (x_runV (As := [.int (1 + (w2 &&& 7))]) (rest := []) ⟨hx, hb, hml, hown, hts⟩ (c_X8_days l G hG I J (1 + (w2 &&& 7)) hq19) (cwV 1 hts gL_act_X8_days rfl rfl rfl (by decide +kernel) ⟨Nat.le_of_ble_eq_true rfl, Nat.le_of_ble_eq_true rfl⟩) hK hP zkL_0 (by decide) rfl rfl hl.1 rfl (Nat.le_of_ble_eq_true rfl) dL_act_289 ⟨Nat.zero_le _, Nat.zero_le _⟩) hS (fun H locs hP hS => ?_)
                            refine lv_pop hx hb dL_act_292 rfl ?_
                            refine lv_goto (tgt := 357) hx hb dL_act_293 (by decide) ?_
                            refine lv_iconst (v := 0) hx hb dL_act_357 (by decide) ?_
                            obtain rfl := Option.some.inj hf
                            exact x_iret hx hb hr hlocks hK hP hS dL_act_358
                          · have hf := zif_f c37 hf
                            rcases Classical.em ((q1 &&& 15) = 13) with c38 | c38
                            · have hf := zif_t c38 hf
                              refine lv_tableIn (off := 262) (tgt := 296) hx hb dL_act_34 (by rw [c38]; decide) (by rw [c38]; decide) (by rw [c38]; decide) (by decide) ?_
                              refine lv_aload_n hx hb dL_act_296 rfl (lv_at hl 4 rfl) ?_
                              refine lv_iload hx hb dL_act_297 (lv_at hl 1 rfl) ?_
                              refine lv_iload hx hb dL_act_299 (lv_at hl 0 rfl) ?_
                              refine lv_iload hx hb dL_act_301 (lv_at hl 2 rfl) ?_
                              refine lv_bipush (v := 6) hx hb dL_act_303 (by decide) ?_
                              refine lv_ishr hx hb dL_act_305 ?_
                              refine lv_bipush (v := 15) hx hb dL_act_306 (by decide) ?_
                              refine lv_iand hx hb dL_act_308 ?_
                              refine lv_bipush (v := 10) hx hb dL_act_309 (by decide) ?_
                              refine lv_irem hx hb dL_act_311 (by decide) ?_
                              obtain ⟨q20, hq20, hf⟩ := zb_e hf
                              refine x_calli (x_runV (As := [.int w3, .int w4, .int (((w2 >>> ((6 : Int32) &&& 31)) &&& 15) - ((w2 >>> ((6 : Int32) &&& 31)) &&& 15) / 10 * 10)]) (rest := []) ⟨hx, hb, hml, hown, hts⟩ (c_X8_wish l G hG I J w3 w4 (((w2 >>> ((6 : Int32) &&& 31)) &&& 15) - ((w2 >>> ((6 : Int32) &&& 31)) &&& 15) / 10 * 10) hq20) (cwV 3 hts gL_act_X8_wish rfl rfl rfl (by decide +kernel) ⟨Nat.le_of_ble_eq_true rfl, Nat.le_of_ble_eq_true rfl⟩) hK hP zkL_0 (by decide) rfl rfl hl.1 rfl (Nat.le_of_ble_eq_true rfl) dL_act_312 ⟨Nat.zero_le _, Nat.zero_le _⟩) hS (fun H locs hP hS => ?_)
                              refine lv_pop hx hb dL_act_315 rfl ?_
                              refine lv_goto (tgt := 357) hx hb dL_act_316 (by decide) ?_
                              refine lv_iconst (v := 0) hx hb dL_act_357 (by decide) ?_
                              obtain rfl := Option.some.inj hf
                              exact x_iret hx hb hr hlocks hK hP hS dL_act_358
                            · have hf := zif_f c38 hf
                              rcases Classical.em ((q1 &&& 15) = 14) with c39 | c39
                              · have hf := zif_t c39 hf
                                refine lv_tableIn (off := 285) (tgt := 319) hx hb dL_act_34 (by rw [c39]; decide) (by rw [c39]; decide) (by rw [c39]; decide) (by decide) ?_
                                refine lv_iconst (v := 1) hx hb dL_act_319 (by decide) ?_
                                refine lv_iload hx hb dL_act_320 (lv_at hl 2 rfl) ?_
                                refine lv_iconst (v := 3) hx hb dL_act_322 (by decide) ?_
                                refine lv_ishr hx hb dL_act_323 ?_
                                refine lv_bipush (v := 63) hx hb dL_act_324 (by decide) ?_
                                refine lv_iand hx hb dL_act_326 ?_
                                refine lv_iadd hx hb dL_act_327 ?_
                                obtain ⟨w21, ew21, hf⟩ := zlet_e hf
                                refine z_topi ew21 ?_
                                refine lv_istore (lv' := [(8, .int w21), (6, .int w4), (5, .int w3), (4, .int w2), (3, .int q1), (0, .ref (G.2.1 0)), (1, .ref b), (2, .int x2)]) hx hb dL_act_328 hl (by decide) rfl (fun ls hl => ?_)
                                refine lv_aload_n hx hb dL_act_330 rfl (lv_at hl 5 rfl) ?_
                                refine lv_iload hx hb dL_act_331 (lv_at hl 2 rfl) ?_
                                refine lv_iload hx hb dL_act_333 (lv_at hl 0 rfl) ?_
                                obtain ⟨q22, hq22, hf⟩ := zb_e hf
                                refine x_calli (x_runV (As := [.int w3, .int w21]) (rest := []) ⟨hx, hb, hml, hown, hts⟩ (c_X8_fund l G hG I J w3 w21 hq22) (cwV 2 hts gL_act_X8_fund rfl rfl rfl (by decide +kernel) ⟨Nat.le_of_ble_eq_true rfl, Nat.le_of_ble_eq_true rfl⟩) hK hP zkL_0 (by decide) rfl rfl hl.1 rfl (Nat.le_of_ble_eq_true rfl) dL_act_335 ⟨Nat.zero_le _, Nat.zero_le _⟩) hS (fun H locs hP hS => ?_)
                                refine lv_if_lt (tgt := 346) hx hb dL_act_338 (by decide) (fun c23 => ?_) (fun c23 => ?_)
                                · have hf := zif_t c23 hf
                                  refine lv_iconst (v := 0) hx hb dL_act_346 (by decide) ?_
                                  obtain rfl := Option.some.inj hf
                                  exact x_iret hx hb hr hlocks hK hP hS dL_act_347
                                · have hf := zif_f c23 hf
                                  refine lv_iload hx hb dL_act_341 (lv_at hl 0 rfl) ?_
                                  refine lv_goto (tgt := 347) hx hb dL_act_343 (by decide) ?_
                                  obtain rfl := Option.some.inj hf
                                  exact x_iret hx hb hr hlocks hK hP hS dL_act_347
                              · have hf := zif_f c39 hf
                                have hD : W p l e (zrm 6 141) s m args below meth c H locs 0 0 (MQ below (zQi G r.1 r.2 J) args s 0 0 (zA G)) (F0 m 348 ls []) := by
                                  refine lv_aload_n hx hb dL_act_348 rfl (lv_at hl 4 rfl) ?_
                                  refine lv_iload hx hb dL_act_349 (lv_at hl 1 rfl) ?_
                                  refine lv_iload hx hb dL_act_351 (lv_at hl 0 rfl) ?_
                                  obtain ⟨q24, hq24, hf⟩ := zb_e hf
                                  refine x_calli (x_runV (As := [.int w3, .int w4]) (rest := []) ⟨hx, hb, hml, hown, hts⟩ (c_X8_waive l G hG I J w3 w4 hq24) (cwV 2 hts gL_act_X8_waive rfl rfl rfl (by decide +kernel) ⟨Nat.le_of_ble_eq_true rfl, Nat.le_of_ble_eq_true rfl⟩) hK hP zkL_0 (by decide) rfl rfl hl.1 rfl (Nat.le_of_ble_eq_true rfl) dL_act_353 ⟨Nat.zero_le _, Nat.zero_le _⟩) hS (fun H locs hP hS => ?_)
                                  refine lv_pop hx hb dL_act_356 rfl ?_
                                  refine lv_iconst (v := 0) hx hb dL_act_357 (by decide) ?_
                                  obtain rfl := Option.some.inj hf
                                  exact x_iret hx hb hr hlocks hK hP hS dL_act_358
                                rcases z_sw (q1 &&& 15) 0 14 15 (by decide) with h | ⟨k, hk, e⟩
                                · exact lv_tableOut hx hb dL_act_34 h (by decide) hD
                                · match k, hk, e with
                                  | 0, _, e => exact absurd (e.trans (by decide)) c25
                                  | 1, _, e => exact absurd (e.trans (by decide)) c26
                                  | 2, _, e => exact absurd (e.trans (by decide)) c27
                                  | 3, _, e => exact absurd (e.trans (by decide)) c28
                                  | 4, _, e => exact absurd (e.trans (by decide)) c29
                                  | 5, _, e => exact absurd (e.trans (by decide)) c30
                                  | 6, _, e => exact absurd (e.trans (by decide)) c31
                                  | 7, _, e => exact absurd (e.trans (by decide)) c32
                                  | 8, _, e => exact absurd (e.trans (by decide)) c33
                                  | 9, _, e => exact absurd (e.trans (by decide)) c34
                                  | 10, _, e => exact absurd (e.trans (by decide)) c35
                                  | 11, _, e => exact absurd (e.trans (by decide)) c36
                                  | 12, _, e => exact absurd (e.trans (by decide)) c37
                                  | 13, _, e => exact absurd (e.trans (by decide)) c38
                                  | 14, _, e => exact absurd (e.trans (by decide)) c39
                                  | _ + 15, hk, _ => exact absurd hk (by omega)
