/-! THE CLAIM OUT OF ONE WALK OF THE LAW'S BODY. Your part is whole_start (and what it stands on); all else here is the same for every law, but numbers. -/
def R_law : String := "LeaseOfficeLaw"
def lw_P (b : Addr) (xs : List Int32) (args : Array Value) (s : State) : Prop := args = #[.ref b] ∧ s.IntsAt b xs ∧ xs.length ≤ 260 ∧ (Jvm.Cond.and given_1 narrow_1).before args s = true
def lw_Q (_ : Array Value) (s : State) (o : Outcome) (t : State) : Prop := o = .returned (some (.int 1)) ∧ Framed s o t [] 600000 7302249
def lw_Z (below : List Frame) (a : Array Value) (s : State) : State → Prop := fun t => ∃ o, t.status = .running ∧ Ended t below o ∧ lw_Q a s o t
/-- the law's own end, with 1 on the stack, nothing written that was there before, its room as the claim has it -/
theorem lw_ret {p : Program} {l : Launch} {e : Env} {s : State} {m : MethodId} {below : List Frame} {meth : Method} {c : Code} {b : Nat} (hx : p.tables.exec = Jvm.exec) (hb : c.code = code) (hr : meth.sig.returnType = ret) (hlocks : meth.locks = false) {pc : Nat} {H : Heap} {ls : Array Slot} (hdg : decode code pc = .ok (.ireturn, 1)) : W p l e room_1 s m #[Value.ref b] below meth c H [] 600000 7302249 (lw_Z below #[Value.ref b] s) (F0 m pc ls [.int 1]) := by
  intro T hT X
  obtain ⟨fs, hret, hrun, hended, hW, hframe⟩ := X.leave (v := some (.int 1)) (hlocks := hlocks) (fun h => by rw [hr] at h; cases h)
  have hmeth' : T.vm.method? m = some meth := X.method'
  refine ⟨T.setFrames fs, ?_, .returned (some (.int 1)), hrun, hended, rfl, ⟨_, rfl⟩, hW, hframe⟩
  jvm_step X.here [X.here.top, hx, hb, hdg, hmeth', hr, ret, narrow_b1]
  (try refine ⟨rfl, ?_⟩); (try refine ⟨rfl, ?_⟩)
  first | (intro acts; rw [hret _ acts rfl rfl rfl]) | rw [hret _ _ rfl rfl rfl]
  exact Steps.refl _
/-- what holds at the law's entry: the machine, the code, the tables' words (any of lw_tbl by 'hts w (by decide +kernel)'), the script of L ints xs at the cell b, what the Statement gives of the start (any of its parts by flat_of_before) -/
def lw_At (p : Program) (s : State) (m : MethodId) (meth : Method) (c : Code) (b L : Nat) (xs : Nat → Int32) : Prop :=
  p.tables.exec = Jvm.exec ∧ c.code = code ∧ meth.sig.returnType = ret ∧ c.maxLocals = 12 ∧ s.vm.findClass R_law = some m.cls ∧ (∀ w ∈ lw_tbl, w.before #[Value.ref b] s = true) ∧ va_X b L xs s s.heap ∧ b < s.heap.size ∧ meth.locks = false ∧ (Jvm.Cond.and given_1 narrow_1).before #[Value.ref b] s = true
theorem x_lret {G : zGT} {p : Program} {l : Launch} {e : Env} {s : State} {m : MethodId} {below : List Frame} {meth : Method} {c : Code} {b pc : Nat} {H : Heap} {locs : List Loc} {ls : Array Slot} {v : Int32} (h : v = 1) (hb0 : s.heap.size = G.2.2.2) (hx : p.tables.exec = Jvm.exec) (hb : c.code = code) (hr : meth.sig.returnType = ret) (hlocks : meth.locks = false) (hS : va_S (zA G) s.heap H locs) (hdg : decode code pc = .ok (.ireturn, 1)) : W p l e room_1 s m #[Value.ref b] below meth c H locs 600000 7302249 (lw_Z below #[Value.ref b] s) (F0 m pc ls [.int v]) := by
  subst h
  refine va_forget (fun q hq => by have := hS.2.2 q hq; rw [hb0]; exact this) ?_
  exact lw_ret hx hb hr hlocks hdg
set_option maxRecDepth 100000 in
set_option maxHeartbeats 8000000 in
theorem c_L_law {p : Program} {e : Env} {s : State} {m : MethodId} {below : List Frame} {meth : Method} {c : Code} (l : Launch) (G : zGT) (hG : zOK G) (hb0 : s.heap.size = G.2.2.2) (I J : zM) {b L : Nat} {xs : Nat → Int32} (C0 : lw_At p s m meth c b L xs) (hbA : b < G.2.2.2) (hK : va_K G.1 vwCl (zT G) s) {r : Int32 × zM} (hr1 : r.1 = 1) (hf : f_L_law L xs I = some r) (H : Heap) (locs : List Loc) (ls : Array Slot) (hP : va_P G.1 vwCl (zW G I J) H) (hS : va_S (zA G) s.heap H locs) (hl : lv_has ls 12 [(1, .ref (G.2.1 0)), (0, .ref b)]) : W p l e room_1 s m #[Value.ref b] below meth c H locs 600000 7302249 (lw_Z below #[Value.ref b] s) (F0 m 8 ls []) := by
  obtain ⟨hx, hb, hr, hml, hown, hts0, hX, hbl, hlocks, hgv⟩ := id C0
  have hown : s.vm.findClass RL = some m.cls := hown
  have hts : ∀ w ∈ wsL_law, w.before #[Value.ref b] s = true := fun w h => hts0 w (wsL_law_in w h)
  have L28 : ∀ (y3 : Int32) (K : zM → Int32 → Option (Int32 × zM)) (hKK : ∀ (M2 : zM) (z2 : Int32) (H : Heap) (locs : List Loc) (ls : Array Slot), K M2 z2 = some r → va_P G.1 vwCl (zW G M2 J) H → va_S (zA G) s.heap H locs → lv_has ls 12 [(1, .ref (G.2.1 0)), (2, .int z2)] → W p l e room_1 s m #[Value.ref b] below meth c H locs 600000 7302249 (lw_Z below #[Value.ref b] s) (F0 m 61 ls [])) (n : Nat) (M : zM) (y2 : Int32) (y4 : Int32) (H : Heap) (locs : List Loc) (ls : Array Slot), f_L_law_l28 L xs y3 K n M y2 y4 = some r → va_P G.1 vwCl (zW G M J) H → va_S (zA G) s.heap H locs → lv_has ls 12 [(0, .ref b), (1, .ref (G.2.1 0)), (2, .int y2), (3, .int y3), (4, .int y4)] → W p l e room_1 s m #[Value.ref b] below meth c H locs 600000 7302249 (lw_Z below #[Value.ref b] s) (F0 m 28 ls []) := by
    intro y3 K hKK n
    induction n with
    | zero =>
      intro M y2 y4 H locs ls hf
      rw [f_L_law_l28] at hf
      cases hf
    | succ n ih =>
      intro M y2 y4 H locs ls hf hP hS hl
      rw [f_L_law_l28] at hf
      refine lv_iload hx hb dL_law_28 (lv_at hl 4 rfl) ?_
      refine lv_iload_n hx hb dL_law_30 rfl (lv_at hl 3 rfl) ?_
      refine lv_icmp_ge (tgt := 61) hx hb dL_law_31 (by decide) (fun c2 => ?_) (fun c2 => ?_)
      · have hf := zif_t c2 hf
        exact hKK M y2 H locs ls hf hP hS (lv_sub hl [1, 2] rfl)
      · have hf := zif_f c2 hf
        refine lv_iload_n hx hb dL_law_34 rfl (lv_at hl 2 rfl) ?_
        refine lv_aload_n hx hb dL_law_35 rfl (lv_at hl 1 rfl) ?_
        refine lv_aload_n hx hb dL_law_36 rfl (lv_at hl 0 rfl) ?_
        refine lv_iload hx hb dL_law_37 (lv_at hl 4 rfl) ?_
        obtain ⟨q3, hq3, hf⟩ := zb_e hf
        refine x_calli (x_runSX (As := [.ref (G.2.1 0), .ref b, .int y4]) (rest := [.int y2]) ⟨hx, hb, hml, hown, hts⟩ (c_L_act l G hG M J b L xs hbA y4 hq3) (va_cwS 3 hts gL_law_L_act rfl rfl rfl (by decide +kernel) ⟨Nat.le_of_ble_eq_true rfl, Nat.le_of_ble_eq_true rfl⟩) hX hbl hbA hK hP hS rfl hl.1 rfl (Nat.le_of_ble_eq_true rfl) dL_law_39 ⟨Nat.le_refl _, Nat.le_refl _⟩) hS (fun H locs hP hS => ?_)
        refine lv_iadd hx hb dL_law_42 ?_
        obtain ⟨w4, ew4, hf⟩ := zlet_e hf
        refine z_topi ew4 ?_
        refine lv_istore_n (lv' := [(2, .int w4), (0, .ref b), (1, .ref (G.2.1 0)), (3, .int y3), (4, .int y4)]) hx hb dL_law_43 rfl hl (by decide) rfl (fun ls hl => ?_)
        refine lv_aload_n hx hb dL_law_44 rfl (lv_at hl 2 rfl) ?_
        refine lv_iconst (v := 3) hx hb dL_law_45 (by decide) ?_
        obtain ⟨q5, hq5, hf⟩ := zb_e hf
        refine x_calli (x_runV (As := [.int 3]) (rest := []) ⟨hx, hb, hml, hown, hts⟩ (c_X8_swaps l G hG q3.2 J 3 hq5) (cwV 1 hts gL_law_X8_swaps rfl rfl rfl (by decide +kernel) ⟨Nat.le_of_ble_eq_true rfl, Nat.le_of_ble_eq_true rfl⟩) hK hP zkL_0 (by decide) rfl rfl hl.1 rfl (Nat.le_of_ble_eq_true rfl) dL_law_46 ⟨Nat.le_refl _, Nat.le_refl _⟩) hS (fun H locs hP hS => ?_)
        refine lv_iload_n hx hb dL_law_49 rfl (lv_at hl 0 rfl) ?_
        refine lv_icmp_eq (tgt := 55) hx hb dL_law_50 (by decide) (fun c6 => ?_) (fun c6 => ?_)
        · have hf := zif_t c6 hf
          refine lv_iinc (v := (y4 + 1)) (lv' := [(4, .int (y4 + 1)), (2, .int w4), (0, .ref b), (1, .ref (G.2.1 0)), (3, .int y3)]) hx hb dL_law_55 hl (k := 4) rfl rfl (by decide) rfl (fun ls hl => ?_)
          refine lv_goto (tgt := 28) hx hb dL_law_58 (by decide) ?_
          exact ih q3.2 w4 (y4 + 1) H locs ls hf hP hS (lv_sub hl [2, 3, 1, 4, 0] rfl)
        · have hf := zif_f c6 hf
          refine lv_iconst (v := 0) hx hb dL_law_53 (by decide) ?_
          obtain rfl := Option.some.inj hf
          exact x_lret hr1 hb0 hx hb hr hlocks hS dL_law_54
  have L135 : ∀ (y2 : Int32) (y4 : Int32) (y5 : Int32) (y6 : Int32) (K : zM → Int32 → Int32 → Option (Int32 × zM)) (hKK : ∀ (M2 : zM) (z7 : Int32) (z8 : Int32) (H : Heap) (locs : List Loc) (ls : Array Slot), K M2 z7 z8 = some r → va_P G.1 vwCl (zW G M2 J) H → va_S (zA G) s.heap H locs → lv_has ls 12 [(1, .ref (G.2.1 0)), (2, .int y2), (4, .int y4), (5, .int y5), (6, .int y6), (7, .int z7), (8, .int z8)] → W p l e room_1 s m #[Value.ref b] below meth c H locs 600000 7302249 (lw_Z below #[Value.ref b] s) (F0 m 198 ls [])) (n : Nat) (M : zM) (y7 : Int32) (y8 : Int32) (y9 : Int32) (H : Heap) (locs : List Loc) (ls : Array Slot), f_L_law_l135 L xs y2 y4 y5 y6 K n M y7 y8 y9 = some r → va_P G.1 vwCl (zW G M J) H → va_S (zA G) s.heap H locs → lv_has ls 12 [(1, .ref (G.2.1 0)), (2, .int y2), (4, .int y4), (5, .int y5), (6, .int y6), (7, .int y7), (8, .int y8), (9, .int y9)] → W p l e room_1 s m #[Value.ref b] below meth c H locs 600000 7302249 (lw_Z below #[Value.ref b] s) (F0 m 135 ls []) := by
    intro y2 y4 y5 y6 K hKK n
    induction n with
    | zero =>
      intro M y7 y8 y9 H locs ls hf
      rw [f_L_law_l135] at hf
      cases hf
    | succ n ih =>
      intro M y7 y8 y9 H locs ls hf hP hS hl
      rw [f_L_law_l135] at hf
      refine lv_iload hx hb dL_law_135 (lv_at hl 7 rfl) ?_
      refine lv_aload_n hx hb dL_law_137 rfl (lv_at hl 0 rfl) ?_
      refine lv_iconst (v := 1) hx hb dL_law_138 (by decide) ?_
      obtain ⟨q20, hq20, hf⟩ := zb_e hf
      refine x_calli (x_runV (As := [.int 1]) (rest := [.int y9]) ⟨hx, hb, hml, hown, hts⟩ (c_X8_count l G hG M J 1 hq20) (cwV 1 hts gL_law_X8_count rfl rfl rfl (by decide +kernel) ⟨Nat.le_of_ble_eq_true rfl, Nat.le_of_ble_eq_true rfl⟩) hK hP zkL_0 (by decide) rfl rfl hl.1 rfl (Nat.le_of_ble_eq_true rfl) dL_law_139 ⟨Nat.le_refl _, Nat.le_refl _⟩) hS (fun H locs hP hS => ?_)
      refine lv_icmp_ge (tgt := 198) hx hb dL_law_142 (by decide) (fun c21 => ?_) (fun c21 => ?_)
      · have hf := zif_t c21 hf
        exact hKK M y7 y8 H locs ls hf hP hS (lv_sub hl [0, 1, 2, 3, 4, 5, 6] rfl)
      · have hf := zif_f c21 hf
        refine lv_iload hx hb dL_law_145 (lv_at hl 5 rfl) ?_
        refine lv_aload_n hx hb dL_law_147 rfl (lv_at hl 0 rfl) ?_
        refine lv_iload hx hb dL_law_148 (lv_at hl 7 rfl) ?_
        refine lv_iconst (v := 2) hx hb dL_law_150 (by decide) ?_
        obtain ⟨q22, hq22, hf⟩ := zb_e hf
        refine x_calli (x_runV (As := [.int y9, .int 2]) (rest := [.int y7]) ⟨hx, hb, hml, hown, hts⟩ (c_X8_toolOf l G hG M J y9 2 hq22) (cwV 2 hts gL_law_X8_toolOf rfl rfl rfl (by decide +kernel) ⟨Nat.le_of_ble_eq_true rfl, Nat.le_of_ble_eq_true rfl⟩) hK hP zkL_0 (by decide) rfl rfl hl.1 rfl (Nat.le_of_ble_eq_true rfl) dL_law_151 ⟨Nat.le_refl _, Nat.le_refl _⟩) hS (fun H locs hP hS => ?_)
        refine lv_if_lt (tgt := 176) hx hb dL_law_154 (by decide) (fun c23 => ?_) (fun c23 => ?_)
        · have hf := zif_t c23 hf
          refine lv_iconst (v := 0) hx hb dL_law_176 (by decide) ?_
          refine lv_iadd hx hb dL_law_177 ?_
          obtain ⟨w24, ew24, hf⟩ := zlet_e hf
          refine z_topi ew24 ?_
          refine lv_istore (lv' := [(7, .int w24), (1, .ref (G.2.1 0)), (2, .int y2), (4, .int y4), (5, .int y5), (6, .int y6), (8, .int y8), (9, .int y9)]) hx hb dL_law_178 hl (by decide) rfl (fun ls hl => ?_)
          refine lv_iload hx hb dL_law_180 (lv_at hl 6 rfl) ?_
          refine lv_aload_n hx hb dL_law_182 rfl (lv_at hl 1 rfl) ?_
          refine lv_iload hx hb dL_law_183 (lv_at hl 7 rfl) ?_
          refine lv_iconst (v := 2) hx hb dL_law_185 (by decide) ?_
          obtain ⟨q25, hq25, hf⟩ := zb_e hf
          refine x_calli (x_runV (As := [.int y9, .int 2]) (rest := [.int y8]) ⟨hx, hb, hml, hown, hts⟩ (c_X8_told l G hG M J y9 2 hq25) (cwV 2 hts gL_law_X8_told rfl rfl rfl (by decide +kernel) ⟨Nat.le_of_ble_eq_true rfl, Nat.le_of_ble_eq_true rfl⟩) hK hP zkL_0 (by decide) rfl rfl hl.1 rfl (Nat.le_of_ble_eq_true rfl) dL_law_186 ⟨Nat.le_refl _, Nat.le_refl _⟩) hS (fun H locs hP hS => ?_)
          refine lv_iadd hx hb dL_law_189 ?_
          obtain ⟨w26, ew26, hf⟩ := zlet_e hf
          refine z_topi ew26 ?_
          refine lv_istore (lv' := [(8, .int w26), (7, .int w24), (1, .ref (G.2.1 0)), (2, .int y2), (4, .int y4), (5, .int y5), (6, .int y6), (9, .int y9)]) hx hb dL_law_190 hl (by decide) rfl (fun ls hl => ?_)
          refine lv_iinc (v := (y9 + 1)) (lv' := [(9, .int (y9 + 1)), (8, .int w26), (7, .int w24), (1, .ref (G.2.1 0)), (2, .int y2), (4, .int y4), (5, .int y5), (6, .int y6)]) hx hb dL_law_192 hl (k := 7) rfl rfl (by decide) rfl (fun ls hl => ?_)
          refine lv_goto (tgt := 135) hx hb dL_law_195 (by decide) ?_
          exact ih q25.2 w24 w26 (y9 + 1) H locs ls hf hP hS (lv_sub hl [3, 4, 5, 6, 7, 2, 1, 0] rfl)
        · have hf := zif_f c23 hf
          refine lv_aload_n hx hb dL_law_157 rfl (lv_at hl 0 rfl) ?_
          refine lv_iload hx hb dL_law_158 (lv_at hl 7 rfl) ?_
          refine lv_iconst (v := 4) hx hb dL_law_160 (by decide) ?_
          obtain ⟨q27, hq27, hf⟩ := zb_e hf
          refine x_calli (x_runV (As := [.int y9, .int 4]) (rest := [.int y7]) ⟨hx, hb, hml, hown, hts⟩ (c_X8_toolOf l G hG M J y9 4 hq27) (cwV 2 hts gL_law_X8_toolOf rfl rfl rfl (by decide +kernel) ⟨Nat.le_of_ble_eq_true rfl, Nat.le_of_ble_eq_true rfl⟩) hK hP zkL_0 (by decide) rfl rfl hl.1 rfl (Nat.le_of_ble_eq_true rfl) dL_law_161 ⟨Nat.le_refl _, Nat.le_refl _⟩) hS (fun H locs hP hS => ?_)
          refine lv_aload_n hx hb dL_law_164 rfl (lv_at hl 0 rfl) ?_
          refine lv_iconst (v := 4) hx hb dL_law_165 (by decide) ?_
          obtain ⟨q28, hq28, hf⟩ := zb_e hf
          refine x_calli (x_runV (As := [.int 4]) (rest := [.int q27, .int y7]) ⟨hx, hb, hml, hown, hts⟩ (c_X8_count l G hG M J 4 hq28) (cwV 1 hts gL_law_X8_count rfl rfl rfl (by decide +kernel) ⟨Nat.le_of_ble_eq_true rfl, Nat.le_of_ble_eq_true rfl⟩) hK hP zkL_0 (by decide) rfl rfl hl.1 rfl (Nat.le_of_ble_eq_true rfl) dL_law_166 ⟨Nat.le_refl _, Nat.le_refl _⟩) hS (fun H locs hP hS => ?_)
          refine lv_icmp_ge (tgt := 176) hx hb dL_law_169 (by decide) (fun c29 => ?_) (fun c29 => ?_)
          · have hf := zif_t c29 hf
            refine lv_iconst (v := 0) hx hb dL_law_176 (by decide) ?_
            refine lv_iadd hx hb dL_law_177 ?_
            obtain ⟨w30, ew30, hf⟩ := zlet_e hf
            refine z_topi ew30 ?_
            refine lv_istore (lv' := [(7, .int w30), (1, .ref (G.2.1 0)), (2, .int y2), (4, .int y4), (5, .int y5), (6, .int y6), (8, .int y8), (9, .int y9)]) hx hb dL_law_178 hl (by decide) rfl (fun ls hl => ?_)
            refine lv_iload hx hb dL_law_180 (lv_at hl 6 rfl) ?_
            refine lv_aload_n hx hb dL_law_182 rfl (lv_at hl 1 rfl) ?_
            refine lv_iload hx hb dL_law_183 (lv_at hl 7 rfl) ?_
            refine lv_iconst (v := 2) hx hb dL_law_185 (by decide) ?_
            obtain ⟨q31, hq31, hf⟩ := zb_e hf
            refine x_calli (x_runV (As := [.int y9, .int 2]) (rest := [.int y8]) ⟨hx, hb, hml, hown, hts⟩ (c_X8_told l G hG M J y9 2 hq31) (cwV 2 hts gL_law_X8_told rfl rfl rfl (by decide +kernel) ⟨Nat.le_of_ble_eq_true rfl, Nat.le_of_ble_eq_true rfl⟩) hK hP zkL_0 (by decide) rfl rfl hl.1 rfl (Nat.le_of_ble_eq_true rfl) dL_law_186 ⟨Nat.le_refl _, Nat.le_refl _⟩) hS (fun H locs hP hS => ?_)
            refine lv_iadd hx hb dL_law_189 ?_
            obtain ⟨w32, ew32, hf⟩ := zlet_e hf
            refine z_topi ew32 ?_
            refine lv_istore (lv' := [(8, .int w32), (7, .int w30), (1, .ref (G.2.1 0)), (2, .int y2), (4, .int y4), (5, .int y5), (6, .int y6), (9, .int y9)]) hx hb dL_law_190 hl (by decide) rfl (fun ls hl => ?_)
            refine lv_iinc (v := (y9 + 1)) (lv' := [(9, .int (y9 + 1)), (8, .int w32), (7, .int w30), (1, .ref (G.2.1 0)), (2, .int y2), (4, .int y4), (5, .int y5), (6, .int y6)]) hx hb dL_law_192 hl (k := 7) rfl rfl (by decide) rfl (fun ls hl => ?_)
            refine lv_goto (tgt := 135) hx hb dL_law_195 (by decide) ?_
            exact ih q31.2 w30 w32 (y9 + 1) H locs ls hf hP hS (lv_sub hl [3, 4, 5, 6, 7, 2, 1, 0] rfl)
          · have hf := zif_f c29 hf
            refine lv_iconst (v := 1) hx hb dL_law_172 (by decide) ?_
            refine lv_goto (tgt := 177) hx hb dL_law_173 (by decide) ?_
            refine lv_iadd hx hb dL_law_177 ?_
            obtain ⟨w33, ew33, hf⟩ := zlet_e hf
            refine z_topi ew33 ?_
            refine lv_istore (lv' := [(7, .int w33), (1, .ref (G.2.1 0)), (2, .int y2), (4, .int y4), (5, .int y5), (6, .int y6), (8, .int y8), (9, .int y9)]) hx hb dL_law_178 hl (by decide) rfl (fun ls hl => ?_)
            refine lv_iload hx hb dL_law_180 (lv_at hl 6 rfl) ?_
            refine lv_aload_n hx hb dL_law_182 rfl (lv_at hl 1 rfl) ?_
            refine lv_iload hx hb dL_law_183 (lv_at hl 7 rfl) ?_
            refine lv_iconst (v := 2) hx hb dL_law_185 (by decide) ?_
            obtain ⟨q34, hq34, hf⟩ := zb_e hf
            refine x_calli (x_runV (As := [.int y9, .int 2]) (rest := [.int y8]) ⟨hx, hb, hml, hown, hts⟩ (c_X8_told l G hG M J y9 2 hq34) (cwV 2 hts gL_law_X8_told rfl rfl rfl (by decide +kernel) ⟨Nat.le_of_ble_eq_true rfl, Nat.le_of_ble_eq_true rfl⟩) hK hP zkL_0 (by decide) rfl rfl hl.1 rfl (Nat.le_of_ble_eq_true rfl) dL_law_186 ⟨Nat.le_refl _, Nat.le_refl _⟩) hS (fun H locs hP hS => ?_)
            refine lv_iadd hx hb dL_law_189 ?_
            obtain ⟨w35, ew35, hf⟩ := zlet_e hf
            refine z_topi ew35 ?_
            refine lv_istore (lv' := [(8, .int w35), (7, .int w33), (1, .ref (G.2.1 0)), (2, .int y2), (4, .int y4), (5, .int y5), (6, .int y6), (9, .int y9)]) hx hb dL_law_190 hl (by decide) rfl (fun ls hl => ?_)
            refine lv_iinc (v := (y9 + 1)) (lv' := [(9, .int (y9 + 1)), (8, .int w35), (7, .int w33), (1, .ref (G.2.1 0)), (2, .int y2), (4, .int y4), (5, .int y5), (6, .int y6)]) hx hb dL_law_192 hl (k := 7) rfl rfl (by decide) rfl (fun ls hl => ?_)
            refine lv_goto (tgt := 135) hx hb dL_law_195 (by decide) ?_
            exact ih q34.2 w33 w35 (y9 + 1) H locs ls hf hP hS (lv_sub hl [3, 4, 5, 6, 7, 2, 1, 0] rfl)
  have L228 : ∀ (y2 : Int32) (y4 : Int32) (y5 : Int32) (K : zM → Option (Int32 × zM)) (hKK : ∀ (M2 : zM) (H : Heap) (locs : List Loc) (ls : Array Slot), K M2 = some r → va_P G.1 vwCl (zW G M2 J) H → va_S (zA G) s.heap H locs → lv_has ls 12 [(1, .ref (G.2.1 0)), (2, .int y2), (4, .int y4), (5, .int y5)] → W p l e room_1 s m #[Value.ref b] below meth c H locs 600000 7302249 (lw_Z below #[Value.ref b] s) (F0 m 285 ls [])) (n : Nat) (M : zM) (y9 : Int32) (H : Heap) (locs : List Loc) (ls : Array Slot), f_L_law_l228 L xs y2 y4 y5 K n M y9 = some r → va_P G.1 vwCl (zW G M J) H → va_S (zA G) s.heap H locs → lv_has ls 12 [(1, .ref (G.2.1 0)), (2, .int y2), (4, .int y4), (5, .int y5), (9, .int y9)] → W p l e room_1 s m #[Value.ref b] below meth c H locs 600000 7302249 (lw_Z below #[Value.ref b] s) (F0 m 228 ls []) := by
    intro y2 y4 y5 K hKK n
    induction n with
    | zero =>
      intro M y9 H locs ls hf
      rw [f_L_law_l228] at hf
      cases hf
    | succ n ih =>
      intro M y9 H locs ls hf hP hS hl
      rw [f_L_law_l228] at hf
      refine lv_iload hx hb dL_law_228 (lv_at hl 4 rfl) ?_
      refine lv_aload_n hx hb dL_law_230 rfl (lv_at hl 0 rfl) ?_
      refine lv_iconst (v := 1) hx hb dL_law_231 (by decide) ?_
      obtain ⟨q43, hq43, hf⟩ := zb_e hf
      refine x_calli (x_runV (As := [.int 1]) (rest := [.int y9]) ⟨hx, hb, hml, hown, hts⟩ (c_X8_count l G hG M J 1 hq43) (cwV 1 hts gL_law_X8_count rfl rfl rfl (by decide +kernel) ⟨Nat.le_of_ble_eq_true rfl, Nat.le_of_ble_eq_true rfl⟩) hK hP zkL_0 (by decide) rfl rfl hl.1 rfl (Nat.le_of_ble_eq_true rfl) dL_law_232 ⟨Nat.le_refl _, Nat.le_refl _⟩) hS (fun H locs hP hS => ?_)
      refine lv_icmp_ge (tgt := 285) hx hb dL_law_235 (by decide) (fun c44 => ?_) (fun c44 => ?_)
      · have hf := zif_t c44 hf
        exact hKK M H locs ls hf hP hS (lv_sub hl [0, 1, 2, 3] rfl)
      · have hf := zif_f c44 hf
        refine lv_aload_n hx hb dL_law_238 rfl (lv_at hl 0 rfl) ?_
        refine lv_iload hx hb dL_law_239 (lv_at hl 4 rfl) ?_
        refine lv_iconst (v := 2) hx hb dL_law_241 (by decide) ?_
        obtain ⟨q45, hq45, hf⟩ := zb_e hf
        refine x_calli (x_runV (As := [.int y9, .int 2]) (rest := []) ⟨hx, hb, hml, hown, hts⟩ (c_X8_told l G hG M J y9 2 hq45) (cwV 2 hts gL_law_X8_told rfl rfl rfl (by decide +kernel) ⟨Nat.le_of_ble_eq_true rfl, Nat.le_of_ble_eq_true rfl⟩) hK hP zkL_0 (by decide) rfl rfl hl.1 rfl (Nat.le_of_ble_eq_true rfl) dL_law_242 ⟨Nat.le_refl _, Nat.le_refl _⟩) hS (fun H locs hP hS => ?_)
        refine lv_istore (lv' := [(10, .int q45.1), (1, .ref (G.2.1 0)), (2, .int y2), (4, .int y4), (5, .int y5), (9, .int y9)]) hx hb dL_law_245 hl (by decide) rfl (fun ls hl => ?_)
        refine lv_aload_n hx hb dL_law_247 rfl (lv_at hl 1 rfl) ?_
        refine lv_iload hx hb dL_law_248 (lv_at hl 5 rfl) ?_
        obtain ⟨q46, hq46, hf⟩ := zb_e hf
        refine x_calli (x_runV (As := [.int y9]) (rest := []) ⟨hx, hb, hml, hown, hts⟩ (c_X8_returned l G hG q45.2 J y9 hq46) (cwV 1 hts gL_law_X8_returned rfl rfl rfl (by decide +kernel) ⟨Nat.le_of_ble_eq_true rfl, Nat.le_of_ble_eq_true rfl⟩) hK hP zkL_0 (by decide) rfl rfl hl.1 rfl (Nat.le_of_ble_eq_true rfl) dL_law_250 ⟨Nat.le_refl _, Nat.le_refl _⟩) hS (fun H locs hP hS => ?_)
        refine lv_istore (lv' := [(11, .int q46.1), (10, .int q45.1), (1, .ref (G.2.1 0)), (2, .int y2), (4, .int y4), (5, .int y5), (9, .int y9)]) hx hb dL_law_253 hl (by decide) rfl (fun ls hl => ?_)
        refine lv_iload hx hb dL_law_255 (lv_at hl 0 rfl) ?_
        refine lv_bipush (v := (-5)) hx hb dL_law_257 (by decide) ?_
        refine lv_icmp_eq (tgt := 269) hx hb dL_law_259 (by decide) (fun c47 => ?_) (fun c47 => ?_)
        · have hf := zif_t c47 hf
          refine lv_aload_n hx hb dL_law_269 rfl (lv_at hl 2 rfl) ?_
          refine lv_iload_n hx hb dL_law_270 rfl (lv_at hl 3 rfl) ?_
          obtain ⟨q48, hq48, hf⟩ := zb_e hf
          refine x_calli (x_runS (As := [.ref (G.2.1 0), .int y2]) (rest := []) ⟨hx, hb, hml, hown, hts⟩ (c_L_isFair l G hG q46.2 J y2 hq48) (va_cwS 2 hts gL_law_L_isFair rfl rfl rfl (by decide +kernel) ⟨Nat.le_of_ble_eq_true rfl, Nat.le_of_ble_eq_true rfl⟩) hK hP rfl hl.1 rfl (Nat.le_of_ble_eq_true rfl) dL_law_271 ⟨Nat.le_refl _, Nat.le_refl _⟩) hS (fun H locs hP hS => ?_)
          refine lv_if_ne (tgt := 279) hx hb dL_law_274 (by decide) (fun c49 => ?_) (fun c49 => ?_)
          · have hf := zif_f c49 hf
            refine lv_iinc (v := (y9 + 1)) (lv' := [(9, .int (y9 + 1)), (11, .int q46.1), (10, .int q45.1), (1, .ref (G.2.1 0)), (2, .int y2), (4, .int y4), (5, .int y5)]) hx hb dL_law_279 hl (k := 6) rfl rfl (by decide) rfl (fun ls hl => ?_)
            refine lv_goto (tgt := 228) hx hb dL_law_282 (by decide) ?_
            exact ih q46.2 (y9 + 1) H locs ls hf hP hS (lv_sub hl [3, 4, 5, 6, 0] rfl)
          · have hf := zif_t c49 hf
            refine lv_iconst (v := 0) hx hb dL_law_277 (by decide) ?_
            obtain rfl := Option.some.inj hf
            exact x_lret hr1 hb0 hx hb hr hlocks hS dL_law_278
        · have hf := zif_f c47 hf
          refine lv_iload hx hb dL_law_262 (lv_at hl 0 rfl) ?_
          refine lv_iload hx hb dL_law_264 (lv_at hl 1 rfl) ?_
          refine lv_icmp_ne (tgt := 277) hx hb dL_law_266 (by decide) (fun c50 => ?_) (fun c50 => ?_)
          · have hf := zif_f c50 hf
            refine lv_iconst (v := 0) hx hb dL_law_277 (by decide) ?_
            obtain rfl := Option.some.inj hf
            exact x_lret hr1 hb0 hx hb hr hlocks hS dL_law_278
          · have hf := zif_t c50 hf
            refine lv_aload_n hx hb dL_law_269 rfl (lv_at hl 2 rfl) ?_
            refine lv_iload_n hx hb dL_law_270 rfl (lv_at hl 3 rfl) ?_
            obtain ⟨q51, hq51, hf⟩ := zb_e hf
            refine x_calli (x_runS (As := [.ref (G.2.1 0), .int y2]) (rest := []) ⟨hx, hb, hml, hown, hts⟩ (c_L_isFair l G hG q46.2 J y2 hq51) (va_cwS 2 hts gL_law_L_isFair rfl rfl rfl (by decide +kernel) ⟨Nat.le_of_ble_eq_true rfl, Nat.le_of_ble_eq_true rfl⟩) hK hP rfl hl.1 rfl (Nat.le_of_ble_eq_true rfl) dL_law_271 ⟨Nat.le_refl _, Nat.le_refl _⟩) hS (fun H locs hP hS => ?_)
            refine lv_if_ne (tgt := 279) hx hb dL_law_274 (by decide) (fun c52 => ?_) (fun c52 => ?_)
            · have hf := zif_f c52 hf
              refine lv_iinc (v := (y9 + 1)) (lv' := [(9, .int (y9 + 1)), (11, .int q46.1), (10, .int q45.1), (1, .ref (G.2.1 0)), (2, .int y2), (4, .int y4), (5, .int y5)]) hx hb dL_law_279 hl (k := 6) rfl rfl (by decide) rfl (fun ls hl => ?_)
              refine lv_goto (tgt := 228) hx hb dL_law_282 (by decide) ?_
              exact ih q46.2 (y9 + 1) H locs ls hf hP hS (lv_sub hl [3, 4, 5, 6, 0] rfl)
            · have hf := zif_t c52 hf
              refine lv_iconst (v := 0) hx hb dL_law_277 (by decide) ?_
              obtain rfl := Option.some.inj hf
              exact x_lret hr1 hb0 hx hb hr hlocks hS dL_law_278
  have J24 : ∀ (M : zM) (y2 : Int32) (s0 : Int32) (H : Heap) (locs : List Loc) (ls : Array Slot), f_L_law_j24 L xs M y2 s0 = some r → va_P G.1 vwCl (zW G M J) H → va_S (zA G) s.heap H locs → lv_has ls 12 [(0, .ref b), (1, .ref (G.2.1 0)), (2, .int y2)] → W p l e room_1 s m #[Value.ref b] below meth c H locs 600000 7302249 (lw_Z below #[Value.ref b] s) (F0 m 24 ls [.int s0]) := by
    intro M y2 s0 H locs ls hf hP hS hl
    unfold f_L_law_j24 at hf
    refine lv_istore_n (lv' := [(3, .int s0), (0, .ref b), (1, .ref (G.2.1 0)), (2, .int y2)]) hx hb dL_law_24 rfl hl (by decide) rfl (fun ls hl => ?_)
    refine lv_iconst (v := 0) hx hb dL_law_25 (by decide) ?_
    refine lv_istore (lv' := [(4, .int 0), (3, .int s0), (0, .ref b), (1, .ref (G.2.1 0)), (2, .int y2)]) hx hb dL_law_26 hl (by decide) rfl (fun ls hl => ?_)
    refine L28 s0 _ (fun M7 z8 H locs ls hf hP hS hl => ?_) zFu M y2 0 H locs ls hf hP hS (lv_sub hl [2, 3, 4, 1, 0] rfl)
    refine lv_aload_n hx hb dL_law_61 rfl (lv_at hl 0 rfl) ?_
    obtain ⟨q9, hq9, hf⟩ := zb_e hf
    refine x_calli (x_runV (As := []) (rest := []) ⟨hx, hb, hml, hown, hts⟩ (c_X8_image l G hG M7 J hq9) (cwV 0 hts gL_law_X8_image rfl rfl rfl (by decide +kernel) ⟨Nat.le_of_ble_eq_true rfl, Nat.le_of_ble_eq_true rfl⟩) hK hP zkL_0 (by decide) rfl rfl hl.1 rfl (Nat.le_of_ble_eq_true rfl) dL_law_62 ⟨Nat.le_refl _, Nat.le_refl _⟩) hS (fun H locs hP hS => ?_)
    refine lv_istore (lv' := [(4, .int q9.1), (1, .ref (G.2.1 0)), (2, .int z8)]) hx hb dL_law_65 hl (by decide) rfl (fun ls hl => ?_)
    refine lv_aload_n hx hb dL_law_67 rfl (lv_at hl 1 rfl) ?_
    refine lv_iload_n hx hb dL_law_68 rfl (lv_at hl 2 rfl) ?_
    obtain ⟨q10, hq10, hf⟩ := zb_e hf
    refine x_calli (x_runS (As := [.ref (G.2.1 0), .int z8]) (rest := []) ⟨hx, hb, hml, hown, hts⟩ (c_L_isFair l G hG q9.2 J z8 hq10) (va_cwS 2 hts gL_law_L_isFair rfl rfl rfl (by decide +kernel) ⟨Nat.le_of_ble_eq_true rfl, Nat.le_of_ble_eq_true rfl⟩) hK hP rfl hl.1 rfl (Nat.le_of_ble_eq_true rfl) dL_law_69 ⟨Nat.le_refl _, Nat.le_refl _⟩) hS (fun H locs hP hS => ?_)
    refine lv_if_eq (tgt := 99) hx hb dL_law_72 (by decide) (fun c11 => ?_) (fun c11 => ?_)
    · have hf := zif_t c11 hf
      refine lv_iconst (v := 0) hx hb dL_law_99 (by decide) ?_
      obtain rfl := Option.some.inj hf
      exact x_lret hr1 hb0 hx hb hr hlocks hS dL_law_100
    · have hf := zif_f c11 hf
      refine lv_iload hx hb dL_law_75 (lv_at hl 0 rfl) ?_
      refine lv_aload_n hx hb dL_law_77 rfl (lv_at hl 1 rfl) ?_
      refine lv_iconst (v := 4) hx hb dL_law_78 (by decide) ?_
      obtain ⟨q12, hq12, hf⟩ := zb_e hf
      refine x_calli (x_runV (As := [.int 4]) (rest := [.int q9.1]) ⟨hx, hb, hml, hown, hts⟩ (c_X8_count l G hG q9.2 J 4 hq12) (cwV 1 hts gL_law_X8_count rfl rfl rfl (by decide +kernel) ⟨Nat.le_of_ble_eq_true rfl, Nat.le_of_ble_eq_true rfl⟩) hK hP zkL_0 (by decide) rfl rfl hl.1 rfl (Nat.le_of_ble_eq_true rfl) dL_law_79 ⟨Nat.le_refl _, Nat.le_refl _⟩) hS (fun H locs hP hS => ?_)
      refine lv_icmp_ne (tgt := 99) hx hb dL_law_82 (by decide) (fun c13 => ?_) (fun c13 => ?_)
      · have hf := zif_f c13 hf
        refine lv_iconst (v := 0) hx hb dL_law_99 (by decide) ?_
        obtain rfl := Option.some.inj hf
        exact x_lret hr1 hb0 hx hb hr hlocks hS dL_law_100
      · have hf := zif_t c13 hf
        refine lv_aload_n hx hb dL_law_85 rfl (lv_at hl 1 rfl) ?_
        refine lv_aload_n hx hb dL_law_86 rfl (lv_at hl 1 rfl) ?_
        refine lv_iconst (v := 0) hx hb dL_law_87 (by decide) ?_
        obtain ⟨q14, hq14, hf⟩ := zb_e hf
        refine x_calli (x_runV (As := [.int 0]) (rest := [.ref (G.2.1 0)]) ⟨hx, hb, hml, hown, hts⟩ (c_X8_count l G hG q9.2 J 0 hq14) (cwV 1 hts gL_law_X8_count rfl rfl rfl (by decide +kernel) ⟨Nat.le_of_ble_eq_true rfl, Nat.le_of_ble_eq_true rfl⟩) hK hP zkL_0 (by decide) rfl rfl hl.1 rfl (Nat.le_of_ble_eq_true rfl) dL_law_88 ⟨Nat.le_refl _, Nat.le_refl _⟩) hS (fun H locs hP hS => ?_)
        refine lv_iconst (v := 0) hx hb dL_law_91 (by decide) ?_
        obtain ⟨q15, hq15, hf⟩ := zb_e hf
        refine x_calli (x_runV (As := [.int q14, .int 0]) (rest := []) ⟨hx, hb, hml, hown, hts⟩ (c_X8_personOf l G hG q9.2 J q14 0 hq15) (cwV 2 hts gL_law_X8_personOf rfl rfl rfl (by decide +kernel) ⟨Nat.le_of_ble_eq_true rfl, Nat.le_of_ble_eq_true rfl⟩) hK hP zkL_0 (by decide) rfl rfl hl.1 rfl (Nat.le_of_ble_eq_true rfl) dL_law_92 ⟨Nat.le_refl _, Nat.le_refl _⟩) hS (fun H locs hP hS => ?_)
        refine lv_iconst (v := (-1)) hx hb dL_law_95 (by decide) ?_
        refine lv_icmp_eq (tgt := 101) hx hb dL_law_96 (by decide) (fun c16 => ?_) (fun c16 => ?_)
        · have hf := zif_t c16 hf
          refine lv_aload_n hx hb dL_law_101 rfl (lv_at hl 1 rfl) ?_
          refine lv_bipush (v := 9) hx hb dL_law_102 (by decide) ?_
          refine lv_iconst (v := 0) hx hb dL_law_104 (by decide) ?_
          obtain ⟨q17, hq17, hf⟩ := zb_e hf
          refine x_calli (x_runV (As := [.int 9, .int 0]) (rest := []) ⟨hx, hb, hml, hown, hts⟩ (c_X8_ahead l G hG q9.2 J 9 0 hq17) (cwV 2 hts gL_law_X8_ahead rfl rfl rfl (by decide +kernel) ⟨Nat.le_of_ble_eq_true rfl, Nat.le_of_ble_eq_true rfl⟩) hK hP zkL_0 (by decide) rfl rfl hl.1 rfl (Nat.le_of_ble_eq_true rfl) dL_law_105 ⟨Nat.le_refl _, Nat.le_refl _⟩) hS (fun H locs hP hS => ?_)
          refine lv_istore (lv' := [(5, .int q17), (4, .int q9.1), (1, .ref (G.2.1 0)), (2, .int z8)]) hx hb dL_law_108 hl (by decide) rfl (fun ls hl => ?_)
          refine lv_aload_n hx hb dL_law_110 rfl (lv_at hl 2 rfl) ?_
          refine lv_bipush (v := 9) hx hb dL_law_111 (by decide) ?_
          refine lv_iconst (v := 1) hx hb dL_law_113 (by decide) ?_
          obtain ⟨q18, hq18, hf⟩ := zb_e hf
          refine x_calli (x_runV (As := [.int 9, .int 1]) (rest := []) ⟨hx, hb, hml, hown, hts⟩ (c_X8_ahead l G hG q9.2 J 9 1 hq18) (cwV 2 hts gL_law_X8_ahead rfl rfl rfl (by decide +kernel) ⟨Nat.le_of_ble_eq_true rfl, Nat.le_of_ble_eq_true rfl⟩) hK hP zkL_0 (by decide) rfl rfl hl.1 rfl (Nat.le_of_ble_eq_true rfl) dL_law_114 ⟨Nat.le_refl _, Nat.le_refl _⟩) hS (fun H locs hP hS => ?_)
          refine lv_istore (lv' := [(6, .int q18), (5, .int q17), (4, .int q9.1), (1, .ref (G.2.1 0)), (2, .int z8)]) hx hb dL_law_117 hl (by decide) rfl (fun ls hl => ?_)
          refine lv_aload_n hx hb dL_law_119 rfl (lv_at hl 3 rfl) ?_
          refine lv_bipush (v := 9) hx hb dL_law_120 (by decide) ?_
          obtain ⟨q19, hq19, hf⟩ := zb_e hf
          refine x_calli (x_runV (As := [.int 9]) (rest := []) ⟨hx, hb, hml, hown, hts⟩ (c_X8_days l G hG q9.2 J 9 hq19) (cwV 1 hts gL_law_X8_days rfl rfl rfl (by decide +kernel) ⟨Nat.le_of_ble_eq_true rfl, Nat.le_of_ble_eq_true rfl⟩) hK hP zkL_0 (by decide) rfl rfl hl.1 rfl (Nat.le_of_ble_eq_true rfl) dL_law_122 ⟨Nat.le_refl _, Nat.le_refl _⟩) hS (fun H locs hP hS => ?_)
          refine lv_pop hx hb dL_law_125 rfl ?_
          refine lv_iconst (v := 0) hx hb dL_law_126 (by decide) ?_
          refine lv_istore (lv' := [(7, .int 0), (6, .int q18), (5, .int q17), (4, .int q9.1), (1, .ref (G.2.1 0)), (2, .int z8)]) hx hb dL_law_127 hl (by decide) rfl (fun ls hl => ?_)
          refine lv_iconst (v := 0) hx hb dL_law_129 (by decide) ?_
          refine lv_istore (lv' := [(8, .int 0), (7, .int 0), (6, .int q18), (5, .int q17), (4, .int q9.1), (1, .ref (G.2.1 0)), (2, .int z8)]) hx hb dL_law_130 hl (by decide) rfl (fun ls hl => ?_)
          refine lv_iconst (v := 0) hx hb dL_law_132 (by decide) ?_
          refine lv_istore (lv' := [(9, .int 0), (8, .int 0), (7, .int 0), (6, .int q18), (5, .int q17), (4, .int q9.1), (1, .ref (G.2.1 0)), (2, .int z8)]) hx hb dL_law_133 hl (by decide) rfl (fun ls hl => ?_)
          refine L135 z8 q9.1 q17 q18 _ (fun M36 z37 z38 H locs ls hf hP hS hl => ?_) zFu q19.2 0 0 0 H locs ls hf hP hS (lv_sub hl [6, 7, 5, 4, 3, 2, 1, 0] rfl)
          refine lv_iload hx hb dL_law_198 (lv_at hl 3 rfl) ?_
          refine lv_iload hx hb dL_law_200 (lv_at hl 5 rfl) ?_
          refine lv_icmp_ne (tgt := 223) hx hb dL_law_202 (by decide) (fun c39 => ?_) (fun c39 => ?_)
          · have hf := zif_f c39 hf
            refine lv_iconst (v := 0) hx hb dL_law_223 (by decide) ?_
            obtain rfl := Option.some.inj hf
            exact x_lret hr1 hb0 hx hb hr hlocks hS dL_law_224
          · have hf := zif_t c39 hf
            refine lv_iload hx hb dL_law_205 (lv_at hl 4 rfl) ?_
            refine lv_iload hx hb dL_law_207 (lv_at hl 6 rfl) ?_
            refine lv_icmp_ne (tgt := 223) hx hb dL_law_209 (by decide) (fun c40 => ?_) (fun c40 => ?_)
            · have hf := zif_f c40 hf
              refine lv_iconst (v := 0) hx hb dL_law_223 (by decide) ?_
              obtain rfl := Option.some.inj hf
              exact x_lret hr1 hb0 hx hb hr hlocks hS dL_law_224
            · have hf := zif_t c40 hf
              refine lv_aload_n hx hb dL_law_212 rfl (lv_at hl 0 rfl) ?_
              refine lv_iconst (v := 0) hx hb dL_law_213 (by decide) ?_
              refine lv_iconst (v := 1) hx hb dL_law_214 (by decide) ?_
              obtain ⟨q41, hq41, hf⟩ := zb_e hf
              refine x_calli (x_runV (As := [.int 0, .int 1]) (rest := []) ⟨hx, hb, hml, hown, hts⟩ (c_X8_ahead l G hG M36 J 0 1 hq41) (cwV 2 hts gL_law_X8_ahead rfl rfl rfl (by decide +kernel) ⟨Nat.le_of_ble_eq_true rfl, Nat.le_of_ble_eq_true rfl⟩) hK hP zkL_0 (by decide) rfl rfl hl.1 rfl (Nat.le_of_ble_eq_true rfl) dL_law_215 ⟨Nat.le_refl _, Nat.le_refl _⟩) hS (fun H locs hP hS => ?_)
              refine lv_iload hx hb dL_law_218 (lv_at hl 6 rfl) ?_
              refine lv_icmp_eq (tgt := 225) hx hb dL_law_220 (by decide) (fun c42 => ?_) (fun c42 => ?_)
              · have hf := zif_t c42 hf
                refine lv_iconst (v := 0) hx hb dL_law_225 (by decide) ?_
                refine lv_istore (lv' := [(9, .int 0), (1, .ref (G.2.1 0)), (2, .int z8), (4, .int q9.1), (5, .int q17), (6, .int q18), (7, .int z37), (8, .int z38)]) hx hb dL_law_226 hl (by decide) rfl (fun ls hl => ?_)
                refine L228 z8 q9.1 q17 _ (fun M53 H locs ls hf hP hS hl => ?_) zFu M36 0 H locs ls hf hP hS (lv_sub hl [1, 2, 3, 4, 0] rfl)
                refine lv_aload_n hx hb dL_law_285 rfl (lv_at hl 0 rfl) ?_
                obtain ⟨q54, hq54, hf⟩ := zb_e hf
                refine x_calli (x_runV (As := []) (rest := []) ⟨hx, hb, hml, hown, hts⟩ (c_X8_back l G hG M53 J hq54) (cwV 0 hts gL_law_X8_back rfl rfl rfl (by decide +kernel) ⟨Nat.le_of_ble_eq_true rfl, Nat.le_of_ble_eq_true rfl⟩) hK hP zkL_0 (by decide) rfl rfl hl.1 rfl (Nat.le_of_ble_eq_true rfl) dL_law_286 ⟨Nat.le_refl _, Nat.le_refl _⟩) hS (fun H locs hP hS => ?_)
                refine lv_iload hx hb dL_law_289 (lv_at hl 2 rfl) ?_
                refine lv_icmp_ne (tgt := 328) hx hb dL_law_291 (by decide) (fun c55 => ?_) (fun c55 => ?_)
                · have hf := zif_f c55 hf
                  refine lv_iconst (v := 0) hx hb dL_law_328 (by decide) ?_
                  obtain rfl := Option.some.inj hf
                  exact x_lret hr1 hb0 hx hb hr hlocks hS dL_law_329
                · have hf := zif_t c55 hf
                  refine lv_aload_n hx hb dL_law_294 rfl (lv_at hl 0 rfl) ?_
                  refine lv_iconst (v := 4) hx hb dL_law_295 (by decide) ?_
                  obtain ⟨q56, hq56, hf⟩ := zb_e hf
                  refine x_calli (x_runV (As := [.int 4]) (rest := []) ⟨hx, hb, hml, hown, hts⟩ (c_X8_count l G hG q54.2 J 4 hq56) (cwV 1 hts gL_law_X8_count rfl rfl rfl (by decide +kernel) ⟨Nat.le_of_ble_eq_true rfl, Nat.le_of_ble_eq_true rfl⟩) hK hP zkL_0 (by decide) rfl rfl hl.1 rfl (Nat.le_of_ble_eq_true rfl) dL_law_296 ⟨Nat.le_refl _, Nat.le_refl _⟩) hS (fun H locs hP hS => ?_)
                  refine lv_iload hx hb dL_law_299 (lv_at hl 2 rfl) ?_
                  refine lv_icmp_ne (tgt := 328) hx hb dL_law_301 (by decide) (fun c57 => ?_) (fun c57 => ?_)
                  · have hf := zif_f c57 hf
                    refine lv_iconst (v := 0) hx hb dL_law_328 (by decide) ?_
                    obtain rfl := Option.some.inj hf
                    exact x_lret hr1 hb0 hx hb hr hlocks hS dL_law_329
                  · have hf := zif_t c57 hf
                    refine lv_aload_n hx hb dL_law_304 rfl (lv_at hl 0 rfl) ?_
                    refine lv_bipush (v := 9) hx hb dL_law_305 (by decide) ?_
                    refine lv_iconst (v := 0) hx hb dL_law_307 (by decide) ?_
                    obtain ⟨q58, hq58, hf⟩ := zb_e hf
                    refine x_calli (x_runV (As := [.int 9, .int 0]) (rest := []) ⟨hx, hb, hml, hown, hts⟩ (c_X8_ahead l G hG q54.2 J 9 0 hq58) (cwV 2 hts gL_law_X8_ahead rfl rfl rfl (by decide +kernel) ⟨Nat.le_of_ble_eq_true rfl, Nat.le_of_ble_eq_true rfl⟩) hK hP zkL_0 (by decide) rfl rfl hl.1 rfl (Nat.le_of_ble_eq_true rfl) dL_law_308 ⟨Nat.le_refl _, Nat.le_refl _⟩) hS (fun H locs hP hS => ?_)
                    refine lv_iload hx hb dL_law_311 (lv_at hl 3 rfl) ?_
                    refine lv_icmp_ne (tgt := 328) hx hb dL_law_313 (by decide) (fun c59 => ?_) (fun c59 => ?_)
                    · have hf := zif_f c59 hf
                      refine lv_iconst (v := 0) hx hb dL_law_328 (by decide) ?_
                      obtain rfl := Option.some.inj hf
                      exact x_lret hr1 hb0 hx hb hr hlocks hS dL_law_329
                    · have hf := zif_t c59 hf
                      refine lv_aload_n hx hb dL_law_316 rfl (lv_at hl 0 rfl) ?_
                      refine lv_iload_n hx hb dL_law_317 rfl (lv_at hl 1 rfl) ?_
                      obtain ⟨q60, hq60, hf⟩ := zb_e hf
                      refine x_calli (x_runS (As := [.ref (G.2.1 0), .int z8]) (rest := []) ⟨hx, hb, hml, hown, hts⟩ (c_L_isFair l G hG q54.2 J z8 hq60) (va_cwS 2 hts gL_law_L_isFair rfl rfl rfl (by decide +kernel) ⟨Nat.le_of_ble_eq_true rfl, Nat.le_of_ble_eq_true rfl⟩) hK hP rfl hl.1 rfl (Nat.le_of_ble_eq_true rfl) dL_law_318 ⟨Nat.le_refl _, Nat.le_refl _⟩) hS (fun H locs hP hS => ?_)
                      refine lv_if_eq (tgt := 328) hx hb dL_law_321 (by decide) (fun c61 => ?_) (fun c61 => ?_)
                      · have hf := zif_t c61 hf
                        refine lv_iconst (v := 0) hx hb dL_law_328 (by decide) ?_
                        obtain rfl := Option.some.inj hf
                        exact x_lret hr1 hb0 hx hb hr hlocks hS dL_law_329
                      · have hf := zif_f c61 hf
                        refine lv_iconst (v := 1) hx hb dL_law_324 (by decide) ?_
                        refine lv_goto (tgt := 329) hx hb dL_law_325 (by decide) ?_
                        obtain rfl := Option.some.inj hf
                        exact x_lret hr1 hb0 hx hb hr hlocks hS dL_law_329
              · have hf := zif_f c42 hf
                refine lv_iconst (v := 0) hx hb dL_law_223 (by decide) ?_
                obtain rfl := Option.some.inj hf
                exact x_lret hr1 hb0 hx hb hr hlocks hS dL_law_224
        · have hf := zif_f c16 hf
          refine lv_iconst (v := 0) hx hb dL_law_99 (by decide) ?_
          obtain rfl := Option.some.inj hf
          exact x_lret hr1 hb0 hx hb hr hlocks hS dL_law_100
  unfold f_L_law at hf
  refine lv_iconst (v := 0) hx hb dL_law_8 (by decide) ?_
  refine lv_istore_n (lv' := [(2, .int 0), (1, .ref (G.2.1 0)), (0, .ref b)]) hx hb dL_law_9 rfl hl (by decide) rfl (fun ls hl => ?_)
  refine lv_aload_n hx hb dL_law_10 rfl (lv_at hl 2 rfl) ?_
  refine va_slen hx hb hX hbl (z_nA hbA) hS dL_law_11 ?_
  refine lv_bipush (v := 60) hx hb dL_law_12 (by decide) ?_
  refine lv_icmp_ge (tgt := 22) hx hb dL_law_14 (by decide) (fun c1 => ?_) (fun c1 => ?_)
  · have hf := zif_t c1 hf
    refine lv_bipush (v := 60) hx hb dL_law_22 (by decide) ?_
    exact J24 I 0 60 H locs ls hf hP hS (lv_sub hl [2, 1, 0] rfl)
  · have hf := zif_f c1 hf
    refine lv_aload_n hx hb dL_law_17 rfl (lv_at hl 2 rfl) ?_
    refine va_slen hx hb hX hbl (z_nA hbA) hS dL_law_18 ?_
    refine lv_goto (tgt := 24) hx hb dL_law_19 (by decide) ?_
    exact J24 I 0 (Int32.ofNat L) H locs ls hf hP hS (lv_sub hl [2, 1, 0] rfl)
