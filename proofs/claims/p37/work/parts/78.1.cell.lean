set_option maxRecDepth 100000 in
set_option maxHeartbeats 8000000 in
theorem c_L_cell (l : Launch) (G : zGT) (hG : zOK G) (I J : zM) (b L : Nat) (xs : Nat → Int32) (hbA : b < G.2.2.2) (x1 : Int32) {r : Int32} (hf : f_L_cell L xs I x1 = some r) : Met l yL_cell wsL_cell (zrm 0 0) (va_Pc [.ref b, .int x1] (zSX G b L xs I J)) (zQi G r I J) 0 0 (zA G) := by
  refine zMetX (cc := cL_cell) (n := 2) (ret := (some .int)) (by decide) rfl (Nat.le_of_ble_eq_true rfl) ?_
  intro p e s m args below meth c H locs ls F hX hbl hK hP hS hl
  obtain ⟨hx, hb, hr, hml, hts, hown, hlocks⟩ := F
  have hown : s.vm.findClass RL = some m.cls := hown
  have hl : lv_has ls 2 [(0, .ref b), (1, .int x1)] := hl
  unfold f_L_cell at hf
  refine lv_aload_n hx hb dL_cell_0 rfl (lv_at hl 0 rfl) ?_
  refine va_slen hx hb hX hbl (z_nA hbA) hS dL_cell_1 ?_
  refine lv_if_ne (tgt := 13) hx hb dL_cell_2 (by decide) (fun c1 => ?_) (fun c1 => ?_)
  · have hf := zif_f c1 hf
    refine lv_aload_n hx hb dL_cell_13 rfl (lv_at hl 0 rfl) ?_
    refine lv_iload_n hx hb dL_cell_14 rfl (lv_at hl 1 rfl) ?_
    refine lv_ldc (v := 65535) hx hb hown (hts (.constant RL 7 65535) (by decide +kernel)) dL_cell_15 ?_
    refine lv_iand hx hb dL_cell_17 ?_
    refine lv_aload_n hx hb dL_cell_18 rfl (lv_at hl 0 rfl) ?_
    refine va_slen hx hb hX hbl (z_nA hbA) hS dL_cell_19 ?_
    obtain ⟨h2, hf⟩ := zck_e hf
    refine lv_irem hx hb dL_cell_20 (zne_e h2) ?_
    obtain ⟨h3, hf⟩ := zck_e hf
    refine va_sld hx hb hX hbl (z_nA hbA) hS (zin_e h3) dL_cell_21 ?_
    obtain rfl := Option.some.inj hf
    exact x_iret hx hb hr hlocks hK hP hS dL_cell_22
  · have hf := zif_t c1 hf
    refine lv_sipush (v := 367) hx hb dL_cell_5 (by decide) ?_
    refine lv_iload_n hx hb dL_cell_8 rfl (lv_at hl 1 rfl) ?_
    refine lv_imul hx hb dL_cell_9 ?_
    refine lv_goto (tgt := 22) hx hb dL_cell_10 (by decide) ?_
    obtain rfl := Option.some.inj hf
    exact x_iret hx hb hr hlocks hK hP hS dL_cell_22
