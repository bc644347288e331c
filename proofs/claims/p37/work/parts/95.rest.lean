/-! THE LAW FROM ITS ENTRY: the object is made, then its walk; the claim -/
theorem k_AO {C : String} {s : State} (h : va_AO C s) : ∃ c : ClassId, ArrOfT s c (.object C) ∧ va_RA s c (.object C) := by
  obtain ⟨comp, c, k, h1, h2, h3, h4, h5⟩ := Cond.arrayOver_spec h
  exact ⟨c, fun N z => ⟨fun k h => (by cases h), k, h3, comp, h4⟩, k, comp, h3, h4, h1, h5⟩
theorem k_AI {args : Array Value} {s : State} (h : (Cond.arrayClass .int).before args s = true) : ∃ c : ClassId, ArrOfT s c .int ∧ va_RA s c .int := by
  obtain ⟨cA, kA, comp, h1, h2, h3⟩ := Cond.arrayClass_spec h
  exact ⟨cA, fun N z => ⟨fun k h => (by cases h), kA, h2, comp, h3⟩, h1⟩
theorem k_start {s : State} {a : Array Value} (hts0 : ∀ w ∈ lw_tbl, w.before a s = true) : ∃ (D : va_G) (cy : Nat → ClassId), va_K D vwCl (zTc cy) s := by
  obtain ⟨c0, i0, k0⟩ := u_known (C := RX0) (T := TX0) (N := 2) (n := 2) hts0 inX0 (hts0 (.instantiable RX0 2) (lwt_1 (List.mem_of_getElem? (i := 150) (by decide +kernel))))
  obtain ⟨c1, i1, k1⟩ := u_known (C := RX1) (T := TX1) (N := 3) (n := 3) hts0 inX1 (hts0 (.instantiable RX1 3) (lwt_1 (List.mem_of_getElem? (i := 237) (by decide +kernel))))
  obtain ⟨c2, i2, k2⟩ := u_known (C := RX2) (T := TX2) (N := 11) (n := 11) hts0 inX2 (hts0 (.instantiable RX2 11) (lwt_1 (List.mem_of_getElem? (i := 26) (by decide +kernel))))
  obtain ⟨c3, i3, k3⟩ := u_known (C := RX3) (T := TX3) (N := 6) (n := 6) hts0 inX3 (hts0 (.instantiable RX3 6) (lwt_1 (List.mem_of_getElem? (i := 35) (by decide +kernel))))
  obtain ⟨c4, i4, k4⟩ := u_known (C := RX4) (T := TX4) (N := 4) (n := 4) hts0 inX4 (hts0 (.instantiable RX4 4) (lwt_1 (List.mem_of_getElem? (i := 77) (by decide +kernel))))
  obtain ⟨c5, i5, k5⟩ := u_known (C := RX5) (T := TX5) (N := 3) (n := 3) hts0 inX5 (hts0 (.instantiable RX5 3) (lwt_1 (List.mem_of_getElem? (i := 218) (by decide +kernel))))
  obtain ⟨c6, i6, k6⟩ := u_known (C := RX6) (T := TX6) (N := 2) (n := 2) hts0 inX6 (hts0 (.instantiable RX6 2) (lwt_1 (List.mem_of_getElem? (i := 20) (by decide +kernel))))
  obtain ⟨c7, i7, k7⟩ := u_known (C := RX7) (T := TX7) (N := 10) (n := 10) hts0 inX7 (hts0 (.instantiable RX7 10) (lwt_1 (List.mem_of_getElem? (i := 71) (by decide +kernel))))
  obtain ⟨c8, i8, k8⟩ := u_known (C := RX8) (T := TX8) (N := 9) (n := 9) hts0 inX8 (hts0 (.instantiable RX8 9) (lwt_1 (List.mem_of_getElem? (i := 12) (by decide +kernel))))
  obtain ⟨a0, e0⟩ := k_AI (hts0 (.arrayClass .int) (lwt_1 (List.mem_of_getElem? (i := 70) (by decide +kernel))))
  obtain ⟨a1, e1⟩ := k_AO (va_AO.of (hts0 (.arrayOver (.object RX1)) (lwt_1 (List.mem_of_getElem? (i := 236) (by decide +kernel)))))
  obtain ⟨a2, e2⟩ := k_AO (va_AO.of (hts0 (.arrayOver (.object RX3)) (lwt_1 (List.mem_of_getElem? (i := 32) (by decide +kernel)))))
  obtain ⟨a3, e3⟩ := k_AO (va_AO.of (hts0 (.arrayOver (.object RX7)) (lwt_1 (List.mem_of_getElem? (i := 34) (by decide +kernel)))))
  refine ⟨(fun k => match k with | 0 => c0 | 1 => c1 | 2 => c2 | 3 => c3 | 4 => c4 | 5 => c5 | 6 => c6 | 7 => c7 | _ => c8, fun k => match k with | 0 => i0 | 1 => i1 | 2 => i2 | 3 => i3 | 4 => i4 | 5 => i5 | 6 => i6 | 7 => i7 | _ => i8), (fun j => match j with | 10 => a0 | 11 => a1 | 12 => a2 | _ => a3), fun k q hq => ?_, fun k q hq => ?_⟩
  · match k, hq with
    | 0, hq => cases hq; exact k0
    | 1, hq => cases hq; exact k1
    | 2, hq => cases hq; exact k2
    | 3, hq => cases hq; exact k3
    | 4, hq => cases hq; exact k4
    | 5, hq => cases hq; exact k5
    | 6, hq => cases hq; exact k6
    | 7, hq => cases hq; exact k7
    | 8, hq => cases hq; exact k8
    | k + 9, hq => exact absurd (show k + 9 < 9 from (List.getElem?_eq_some_iff.mp hq).1) (by omega)
  · match k, hq with
    | 0, hq => cases hq; exact e0
    | 1, hq => cases hq; exact e1
    | 2, hq => cases hq; exact e2
    | 3, hq => cases hq; exact e3
    | k + 4, hq => exact absurd (show k + 4 < 4 from (List.getElem?_eq_some_iff.mp hq).1) (by omega)
theorem k_zX {s : State} {a : Array Value} (hts0 : ∀ w ∈ lw_tbl, w.before a s = true) : zX s := ⟨va_Nw.of rfl (hts0 (.methodLinkNest RX8 48 yX1_init "LeaseOffice") (lwt_1 (List.mem_of_getElem? (i := 238) (by decide +kernel)))), va_Nw.of rfl (hts0 (.methodLinkNest RX2 23 yX3_init "LeaseOffice") (lwt_1 (List.mem_of_getElem? (i := 36) (by decide +kernel)))), va_Nw.of rfl (hts0 (.methodLinkNest RX2 28 yX7_init "LeaseOffice") (lwt_1 (List.mem_of_getElem? (i := 72) (by decide +kernel)))), va_Nw.of rfl (hts0 (.methodLinkNest RX2 35 yX0_init "LeaseOffice") (lwt_1 (List.mem_of_getElem? (i := 151) (by decide +kernel)))), va_Nw.of rfl (hts0 (.methodLinkNest RX6 20 yX0_init "LeaseOffice") (lwt_1 (List.mem_of_getElem? (i := 206) (by decide +kernel)))), va_Nw.of rfl (hts0 (.methodLinkNest RX8 11 yX6_init "LeaseOffice") (lwt_1 (List.mem_of_getElem? (i := 21) (by decide +kernel)))), va_Nw.of rfl (hts0 (.methodLinkNest RX8 32 yX5_init "LeaseOffice") (lwt_1 (List.mem_of_getElem? (i := 219) (by decide +kernel)))), va_AO.of (hts0 (.arrayOver (.object RX1)) (lwt_1 (List.mem_of_getElem? (i := 236) (by decide +kernel)))), va_AO.of (hts0 (.arrayOver (.object RX3)) (lwt_1 (List.mem_of_getElem? (i := 32) (by decide +kernel)))), va_AO.of (hts0 (.arrayOver (.object RX7)) (lwt_1 (List.mem_of_getElem? (i := 34) (by decide +kernel)))), trivial⟩
set_option maxRecDepth 100000 in
set_option maxHeartbeats 8000000 in
theorem whole_start {p : Program} {e : Env} {s : State} {m : MethodId} {below : List Frame} {meth : Method} {c : Code} (l : Launch) (hflags : l.flags = flags0) {b L : Nat} {xs : Nat → Int32} (hL : L ≤ 260) (C0 : lw_At p s m meth c b L xs) : W p l e room_1 s m #[Value.ref b] below meth c s.heap [] 0 0 (lw_Z below #[Value.ref b] s) (entryFrame m ([Value.ref b] : List Value).toArray 12) := by
  obtain ⟨hx, hb, hr, hml, hown, hts0, hX, hbl, hlocks, hgv⟩ := id C0
  have hown : s.vm.findClass RL = some m.cls := hown
  have hts : ∀ w ∈ wsL_law, w.before #[Value.ref b] s = true := fun w h => hts0 w (wsL_law_in w h)
  obtain ⟨D, cy, hK⟩ := k_start hts0
  have hZ : zX s := k_zX hts0
  generalize hb0e : s.heap.size = b0
  have hb0 : b0 ≤ s.heap.size := Nat.le_of_eq hb0e.symm
  have hS : va_S (zB b0) s.heap s.heap [] := va_S.rf
  have hP : va_P D vwCl (zN (fun _ => 0) 0 (fun _ => .inr (0, []))) s.heap := fun k q h => by simp [zN] at h
  have hD : va_D (zB b0) (zN (fun _ => 0) 0 (fun _ => .inr (0, []))) := ⟨fun i j p q h => by simp [zN] at h, fun k q h => by simp [zN] at h⟩
  have hl := lv_entry ([.ref b]) (n := 12) (Nat.le_of_ble_eq_true rfl)
  rw [lg_entry_eq]
  generalize (lg_sl ([.ref b]) ++ List.replicate (12 - (lg_sl ([.ref b])).length) Slot.unset).toArray = ls at hl ⊢
  have hl : lv_has ls 12 [(0, .ref b)] := hl
  refine y_new (ci := 8) (fs := [.null, .null, .null, .null, .null, .null, .null, .null, .int 0]) hx hb hts0 inX8 tyX8 tyX8_ok hown (hts0 (.classLink RL 15 RX8) (lwt_1 (List.mem_of_getElem? (i := 11) (by decide +kernel)))) (hts0 (.instantiable RX8 9) (lwt_1 (List.mem_of_getElem? (i := 12) (by decide +kernel)))) (hts0 (.initialized RX8) (lwt_1 (List.mem_of_getElem? (i := 1) (by decide +kernel)))) hK hP hD hS hb0 rfl (fun j hj => by rcases (show j = 0 ∨ j = 1 ∨ j = 2 ∨ j = 3 ∨ j = 4 ∨ j = 5 ∨ j = 6 ∨ j = 7 ∨ j = 8 by omega) with rfl | rfl | rfl | rfl | rfl | rfl | rfl | rfl | rfl <;> rfl) (Nat.le_of_ble_eq_true rfl) (Nat.le_of_ble_eq_true rfl) dL_law_0 (fun q1 ad1 E1 H g1 g2 g3 g4 hP hD hS => ?_)
  have hA0 : ad1 0 = q1 := g2
  have hE0 : E1 0 = .inr (8, [.null, .null, .null, .null, .null, .null, .null, .null, .int 0]) := g4
  have hP : va_P D vwCl (zN ad1 1 E1) H := hP
  have hD : va_D (zB b0) (zN ad1 1 E1) := hD
  refine W.widen (k := 1) (n := 9) (Nat.le_of_ble_eq_true rfl) (Nat.le_of_ble_eq_true rfl) ?_
  refine lv_dup hx hb dL_law_3 rfl ?_
  refine y_callv (y_runI (As := []) (rest := [.ref q1]) ⟨hx, hb, hml, hown, hts⟩ (c_X8_init l D cy b0 ad1 E1 q1 hA0 hE0) (cwI 0 hts gL_law_X8_init rfl rfl rfl (hts0 (.initialized RX8) (lwt_1 (List.mem_of_getElem? (i := 1) (by decide +kernel)))) (hts0 (.methodLink RL 76 yX8_init) (lwt_1 (List.mem_of_getElem? (i := 13) (by decide +kernel)))) (hts0 (.instanceMethod yX8_init) (lwt_1 (List.mem_of_getElem? (i := 14) (by decide +kernel)))) rfl (by decide +kernel) ⟨Nat.le_of_ble_eq_true rfl, Nat.le_of_ble_eq_true rfl⟩) hb0 hS hK hZ hP hD rfl hl.1 rfl (Nat.le_of_ble_eq_true rfl) dL_law_4 ⟨Nat.le_of_ble_eq_true rfl, Nat.le_of_ble_eq_true rfl⟩) hS (fun ad2 E2 H locs hpo hP hD hS => ?_)
  obtain ⟨g1, -, hB8⟩ := hpo
  have g1 : ∀ i, i < 1 → ad2 i = ad1 i := g1
  have hB8 : zblk D cy b0 ad2 E2 0 359 := hB8
  have hA0 : ad2 0 = q1 := (g1 0 (by decide)).trans hA0
  have hP : va_P D vwCl (zN ad2 359 E2) H := hP
  have hD : va_D (zB b0) (zN ad2 359 E2) := hD
  have hG : zOK (D, fun i => ad2 (zRho i), cy, b0) := zblk_OK hD
  have hP : va_P D vwCl (zW (D, fun i => ad2 (zRho i), cy, b0) zI0 zJ0) H := zblk_P hB8 hP
  refine W.widen (k := 600000) (n := 7302249) (Nat.le_of_ble_eq_true rfl) (Nat.le_of_ble_eq_true rfl) ?_
  refine lv_astore_n (lv' := [(1, .ref q1), (0, .ref b)]) hx hb dL_law_7 rfl hl (by decide) rfl (fun ls hl => ?_)
  rw [← hA0] at hl
  obtain ⟨M, hM⟩ := k_law hL xs KQ_0
  exact c_L_law l (D, fun i => ad2 (zRho i), cy, b0) hG hb0e zI0 zJ0 C0 (Nat.lt_of_lt_of_eq hbl hb0e) hK (r := (1, M)) rfl hM H locs ls hP hS hl
set_option maxHeartbeats 4000000 in
theorem lw_walk (l : Launch) (hflags : l.flags = flags0) (b : Addr) (xs : List Int32) : MetFree l x (headSpec (Jvm.Cond.code x code maxLocals ret :: tables_1) room_1) (lw_P b xs) (fun _ _ _ _ _ => True) lw_Q := by
  refine MetFree.of_bodyS (code := code) (maxLocals := maxLocals) (ret := ret) (by decide) ?_ ?_
  · intro args s m h hn
    obtain ⟨meth, c, h1, h2, h3, h4, h5, h6, -, -⟩ := Cond.code_spec hn (atoms_spec (ws := Jvm.Cond.code x code maxLocals ret :: tables_1) h _ List.mem_cons_self)
    exact ⟨meth, c, h1, h2, h3, h4, h5, h6⟩
  · intro p e s m args below meth c s₁ B hml0 hP _
    obtain ⟨rfl, hx, hbd, hgv⟩ := hP
    obtain ⟨scr, harrAt, hlist, hof, hsmall⟩ := hx
    obtain ⟨hcb, hkn, -, -⟩ := State.arrayAt?_spec harrAt
    have hown : s.vm.findClass R_law = some m.cls := findClass_of_methodNamed B.named
    have hts0 : ∀ c ∈ (Jvm.Cond.code x code maxLocals ret :: tables_1), c.before #[Value.ref b] s = true := atoms_spec (ws := Jvm.Cond.code x code maxLocals ret :: tables_1) B.pre
    have hts : ∀ w ∈ lw_tbl, w.before #[Value.ref b] s = true := k2_hts_sels lw_privs (fun w hw => hts0 w (List.mem_cons_of_mem _ hw)) lw_privs_ok
    have hml : c.maxLocals = 12 := B.maxLocals_eq (hts0 _ List.mem_cons_self)
    have X₀ : Stand p l e room_1 s m #[Value.ref b] below meth c s₁ [] 0 0 := Stand.of_body B
    have hh0 : s₁.heap = s.heap := by rw [B.state]; rfl
    have hsz : scr.slots.size = xs.length := by rw [← Array.length_toList, hlist, List.length_map]
    have hval : ∀ j : Nat, j < xs.length → scr.slots[j]? = some (.int (xs.getD j 0)) := fun j hj => by
      rw [← Array.getElem?_toList, hlist]
      simp [hj]
    have hbl : b < s.heap.size := (Array.getElem?_eq_some_iff.mp hcb).1
    have hX : va_X b xs.length (fun j => xs.getD j 0) s s.heap := ⟨scr, hcb, hof, hkn, hsz, hval⟩
    have K : W p l e room_1 s m #[Value.ref b] below meth c s₁.heap [] 0 0 (lw_Z below #[Value.ref b] s) (entryFrame m ([Value.ref b] : List Value).toArray 12) := by
      rw [hh0]
      exact whole_start l hflags hbd ⟨B.exec, B.bytes, B.returns, hml, hown, hts, hX, hbl, B.notSynchronized, hgv⟩
    obtain ⟨t, a1, o, b1, b2, b3⟩ := K s₁ rfl X₀
    exact ⟨t, o, a1, b1, b2, b3⟩
theorem lw_pre_spec {args : Array Value} {s : State} (h : (Jvm.Cond.and given_1 narrow_1).before args s = true) (hr : rest_1_c.before args s = true) : ∃ (b : Addr) (xs : List Int32), lw_P b xs args s := by
  have hs := flat_of_before _ h
  have hq := flat_of_before _ hr
  have hc : (Cond.count 1).before args s = true := hs _ (by decide +kernel)
  have harr : (Cond.arrayOf (.arg 0) .int).before args s = true := hs _ (by decide +kernel)
  have hle : (Cond.le (.length (.arg 0)) (.int 260)).before args s = true := hs _ (by decide +kernel)
  have hlen : (Cond.isInt (.length (.arg 0))).before args s = true := hq _ (by decide +kernel)
  have hall : (Cond.all (.arg 0) (.isInt (.elem (.arg 0) (.index 0)))).before args s = true := hq _ (by decide +kernel)
  obtain ⟨b, xs, hb, hx⟩ := State.ints_of_pre rfl harr hlen hall
  have hsm : xs.length < 2 ^ 31 := hx.choose_spec.2.2.2
  have hev : (Term.length (.arg 0)).eval args s none [] s = some (.int xs.length.toInt32) := hx.length_eval hb
  have hv := Cond.le_ints hev (show (Term.int 260).eval args s none [] s = some (.int 260) from rfl)
  have hd : xs.length.toInt32 ≤ 260 := by
    simpa [Cond.before, Cond.holds, hv] using hle
  have hN : xs.length ≤ 260 := (Int32.ofNat_le_ofNat hsm (by decide)).mp (show Int32.ofNat xs.length ≤ Int32.ofNat 260 from hd)
  exact ⟨b, xs, Cond.one_arg hc (show args[0]? = some (.ref b) from hb), hx, hN, h⟩
theorem lw_comes (l : Launch) (hflags : l.flags = flags0) : Comes l x (Jvm.Cond.code x code maxLocals ret :: tables_1) room_1 (fun tb e args s => Calls_1 tb e args s ∧ rest_1 tb e args s ∧ Pre_1 tb e args s)
    (fun _ _ args s o t => lw_Q args s o t) := by
  intro p e ha hc hk s m args below hf hfit hheap happ hpre
  obtain ⟨b, xs, hP⟩ := lw_pre_spec hpre.2.2 hpre.2.1
  obtain ⟨k, o, h1, h2, h3, hQ⟩ := lw_walk l hflags b xs p e ha hc hk s m args below hf ((Spec.applies_iff_loose hf).mp happ).1 hP trivial
  exact ⟨k, o, h1, h2, h3, hQ⟩
theorem lw_frame {s t : State} {o : Outcome} {args : Array Value} (h : Framed s o t [] 600000 7302249) :
    Framed s o t (fieldLocs frame_1_writes args s ++ arrayLocs frame_1_arrays args s ++ staticLocs frame_1_statics s) 600000 7302249 := h
theorem lw_limb (L : Cond) (hL : ∀ (args : Array Value) (s t : State), L.after args s (.returned (some (.int 1))) t = true) :
    ArmFor flags0 classFile x code maxLocals ret World_1 tables_1 room_1 Calls_1 rest_1 Pre_1
      (fun tb e a s o t => postC L tb e a s o t ∧ Framed s o t (fieldLocs frame_1_writes a s ++ arrayLocs frame_1_arrays a s ++ staticLocs frame_1_statics s) 600000 7302249) := by
  intro l hflags _ _ p e ha hc hk s m args below hf hfit hheap happ hpre
  obtain ⟨k, o, h1, h2, h3, rfl, hF⟩ := lw_comes l hflags p e ha hc hk s m args below hf hfit hheap happ hpre
  exact ⟨k, _, h1, h2, h3, hL args s _, lw_frame hF⟩
theorem i_vc : Claimed_1_1 ∧ Claimed_1_2 := ⟨lw_limb limb_1_1 (fun args s t => by simp [limb_1_1, Cond.after, Cond.holds, Cond.value]), lw_limb limb_1_2 (fun args s t => Cond.after_iff.mpr (by
  first | (rw [show limb_1_2 = Cond.eq .result (.int 1) from rfl, Cond.eq_ints (x := 1) (y := 1) rfl rfl]; simp; done) | (simp [limb_1_2, Cond.value, Term.eval]; done)))⟩
