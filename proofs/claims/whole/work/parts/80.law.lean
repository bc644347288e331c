/-! THE CLAIM OUT OF ONE WALK OF THE LAW'S BODY. Your part is whole_start (and what it stands on); all else here is the same for every law, but numbers. -/
def R_law : String := "LeaseOfficeLaw"
def lw_P (b : Addr) (xs : List Int32) (args : Array Value) (s : State) : Prop := args = #[.ref b] ∧ s.IntsAt b xs ∧ xs.length ≤ 2048 ∧ (Jvm.Cond.and given_1 narrow_1).before args s = true
def lw_Q (_ : Array Value) (s : State) (o : Outcome) (t : State) : Prop := o = .returned (some (.int 1)) ∧ Framed s o t [] 600000 7302250
def lw_Z (below : List Frame) (a : Array Value) (s : State) : State → Prop := fun t => ∃ o, t.status = .running ∧ Ended t below o ∧ lw_Q a s o t
/-- the law's own end, with 1 on the stack, nothing written that was there before, its room as the claim has it -/
theorem lw_ret {p : Program} {l : Launch} {e : Env} {s : State} {m : MethodId} {below : List Frame} {meth : Method} {c : Code} {b : Nat} (hx : p.tables.exec = Jvm.exec) (hb : c.code = code) (hr : meth.sig.returnType = ret) (hlocks : meth.locks = false) {pc : Nat} {H : Heap} {ls : Array Slot} (hdg : decode code pc = .ok (.ireturn, 1)) : W p l e room_1 s m #[Value.ref b] below meth c H [] 600000 7302250 (lw_Z below #[Value.ref b] s) (F0 m pc ls [.int 1]) := by
  intro T hT X
  obtain ⟨fs, hret, hrun, hended, hW, hframe⟩ := X.leave (v := some (.int 1)) (hlocks := hlocks) (fun h => by rw [hr] at h; cases h)
  have hmeth' : T.vm.method? m = some meth := X.method'
  refine ⟨T.setFrames fs, ?_, .returned (some (.int 1)), hrun, hended, rfl, ⟨_, rfl⟩, hW, hframe⟩
  jvm_step X.here [X.here.top, hx, hb, hdg, hmeth', hr, ret, narrow_b1]
  (try refine ⟨rfl, ?_⟩); (try refine ⟨rfl, ?_⟩)
  first | (intro acts; rw [hret _ acts rfl rfl rfl]) | rw [hret _ _ rfl rfl rfl]
  exact Steps.refl _
/-- what holds at the law's entry: the machine, the code, the tables' words (any of lw_tbl by 'hts w (by decide +kernel)'), the script of L ints xs at the cell b, what the Statement gives of the start (any of its parts by flat_of_before) -/
def lw_At (p : Program) (s : State) (m : MethodId) (meth : Method) (c : Code) (b L : Nat) (xs : Nat → Int32) : Prop :=
  p.tables.exec = Jvm.exec ∧ c.code = code ∧ meth.sig.returnType = ret ∧ c.maxLocals = 4 ∧ s.vm.findClass R_law = some m.cls ∧ (∀ w ∈ lw_tbl, w.before #[Value.ref b] s = true) ∧ va_X b L xs s s.heap ∧ b < s.heap.size ∧ meth.locks = false ∧ (Jvm.Cond.and given_1 narrow_1).before #[Value.ref b] s = true
theorem z_len_lt {L n : Nat} (hL : L ≤ 2048) (h : L < 4 * n + 4) (hn : n ≤ 513 := by omega) : Int32.ofNat L - 4 < nI (4 * n) := by
  rw [Int32.lt_iff_toInt_lt, nI_toInt (by omega)]
  have e : (Int32.ofNat L - 4).toInt = (L : Int) - 4 := by
    have h1 := nI_toInt (n := L) (by omega)
    have h2 : (nI L - 4).toInt = ((nI L).toInt - (4 : Int32).toInt).bmod (2 ^ 32) := Int32.toInt_sub _ _
    have h3 : (4 : Int32).toInt = 4 := by decide
    have h4 : Int32.ofNat L = nI L := rfl
    rw [h4, h2, h1, h3, Int.bmod_eq_of_le (by omega) (by omega)]
  rw [e]
  omega
theorem z_len_ge {L n : Nat} (hL : L ≤ 2048) (hn : n ≤ 513) (h : ¬ Int32.ofNat L - 4 < nI (4 * n)) : 4 * n + 3 < L := by
  rcases Nat.lt_or_ge (4 * n + 3) L with q | q
  · exact q
  · exact absurd (z_len_lt hL (by omega) hn) h
def zStep_0 (P : Nat → zM → zM → Prop) : Prop := (∀ (n : Nat) (I J : zM) (a1 a2 : Int32), n < 512 → P n I J → ∃ (r : Int32) (I2 : zM) (J2 : zM), f_X8_person I a1 a2 = some (r, I2) ∧ f_X9_person J a1 a2 = some (r, J2) ∧ P (n + 1) I2 J2)
def zStep_1 (P : Nat → zM → zM → Prop) : Prop := (∀ (n : Nat) (I J : zM) (a1 : Int32), n < 512 → P n I J → ∃ (r : Int32) (I2 : zM) (J2 : zM), f_X8_tool I a1 = some (r, I2) ∧ f_X9_tool J a1 = some (r, J2) ∧ P (n + 1) I2 J2)
def zStep_2 (P : Nat → zM → zM → Prop) : Prop := (∀ (n : Nat) (I J : zM) (a1 a2 a3 : Int32), n < 512 → P n I J → ∃ (r : Int32) (I2 : zM) (J2 : zM), f_X8_wish I a1 a2 a3 = some (r, I2) ∧ f_X9_wish J a1 a2 a3 = some (r, J2) ∧ P (n + 1) I2 J2)
def zStep_3 (P : Nat → zM → zM → Prop) : Prop := (∀ (n : Nat) (I J : zM) (a1 a2 : Int32), n < 512 → P n I J → ∃ (r : Int32) (I2 : zM) (J2 : zM), f_X8_fund I a1 a2 = some (r, I2) ∧ f_X9_fund J a1 a2 = some (r, J2) ∧ P (n + 1) I2 J2)
def zStep_4 (P : Nat → zM → zM → Prop) : Prop := (∀ (n : Nat) (I J : zM) (a1 a2 : Int32), n < 512 → P n I J → ∃ (r : Int32), f_X8_personOf I a1 a2 = some r ∧ f_X9_personOf J a1 a2 = some r ∧ P (n + 1) I J)
def zStep_5 (P : Nat → zM → zM → Prop) : Prop := (∀ (n : Nat) (I J : zM) (a1 a2 : Int32), n < 512 → P n I J → ∃ (r : Int32), f_X8_toolOf I a1 a2 = some r ∧ f_X9_toolOf J a1 a2 = some r ∧ P (n + 1) I J)
def zStep_6 (P : Nat → zM → zM → Prop) : Prop := (∀ (n : Nat) (I J : zM) (a1 a2 a3 : Int32), n < 512 → P n I J → ∃ (r : Int32), f_X8_link I a1 a2 a3 = some r ∧ f_X9_link J a1 a2 a3 = some r ∧ P (n + 1) I J)
def zStep_7 (P : Nat → zM → zM → Prop) : Prop := (∀ (n : Nat) (I J : zM) (a1 a2 a3 : Int32), n < 512 → P n I J → ∃ (r : Int32), f_X8_seen I a1 a2 a3 = some r ∧ f_X9_seen J a1 a2 a3 = some r ∧ P (n + 1) I J)
def zStep_8 (P : Nat → zM → zM → Prop) : Prop := (∀ (n : Nat) (I J : zM) (a1 a2 a3 : Int32), n < 512 → P n I J → ∃ (r : Int32), f_X8_claimOf I a1 a2 a3 = some r ∧ f_X9_claimOf J a1 a2 a3 = some r ∧ P (n + 1) I J)
def zStep_9 (P : Nat → zM → zM → Prop) : Prop := (∀ (n : Nat) (I J : zM) (a1 : Int32), n < 512 → P n I J → ∃ (r : Int32), f_X8_ranked I a1 = some r ∧ f_X9_ranked J a1 = some r ∧ P (n + 1) I J)
def zStep_10 (P : Nat → zM → zM → Prop) : Prop := (∀ (n : Nat) (I J : zM) (a1 a2 a3 : Int32), n < 512 → P n I J → ∃ (r : Int32) (I2 : zM) (J2 : zM), f_X8_lease I a1 a2 a3 = some (r, I2) ∧ f_X9_lease J a1 a2 a3 = some (r, J2) ∧ P (n + 1) I2 J2)
def zStep_11 (P : Nat → zM → zM → Prop) : Prop := (∀ (n : Nat) (I J : zM) (a1 a2 a3 : Int32), n < 512 → P n I J → ∃ (r : Int32) (I2 : zM) (J2 : zM), f_X8_claim I a1 a2 a3 = some (r, I2) ∧ f_X9_claim J a1 a2 a3 = some (r, J2) ∧ P (n + 1) I2 J2)
def zStep_12 (P : Nat → zM → zM → Prop) : Prop := (∀ (n : Nat) (I J : zM) (a1 a2 : Int32), n < 512 → P n I J → ∃ (r : Int32) (I2 : zM) (J2 : zM), f_X8_waive I a1 a2 = some (r, I2) ∧ f_X9_waive J a1 a2 = some (r, J2) ∧ P (n + 1) I2 J2)
def zStep_13 (P : Nat → zM → zM → Prop) : Prop := (∀ (n : Nat) (I J : zM) (a1 : Int32), n < 512 → P n I J → ∃ (r : Int32) (I2 : zM) (J2 : zM), f_X8_returned I a1 = some (r, I2) ∧ f_X9_returned J a1 = some (r, J2) ∧ P (n + 1) I2 J2)
def zStep_14 (P : Nat → zM → zM → Prop) : Prop := (∀ (n : Nat) (I J : zM) (a1 a2 : Int32), n < 512 → P n I J → ∃ (r : Int32) (I2 : zM) (J2 : zM), f_X8_pass I a1 a2 = some (r, I2) ∧ f_X9_pass J a1 a2 = some (r, J2) ∧ P (n + 1) I2 J2)
def zStep_15 (P : Nat → zM → zM → Prop) : Prop := (∀ (n : Nat) (I J : zM) (a1 a2 : Int32), n < 512 → P n I J → ∃ (r : Int32) (I2 : zM) (J2 : zM), f_X8_swap I a1 a2 = some (r, I2) ∧ f_X9_swap J a1 a2 = some (r, J2) ∧ P (n + 1) I2 J2)
def zStep_16 (P : Nat → zM → zM → Prop) : Prop := (∀ (n : Nat) (I J : zM) (a1 a2 : Int32), n < 512 → P n I J → ∃ (r : Int32) (I2 : zM) (J2 : zM), f_X8_use I a1 a2 = some (r, I2) ∧ f_X9_use J a1 a2 = some (r, J2) ∧ P (n + 1) I2 J2)
def zStep_17 (P : Nat → zM → zM → Prop) : Prop := (∀ (n : Nat) (I J : zM) (a1 : Int32), n < 512 → P n I J → ∃ (r : Int32) (I2 : zM) (J2 : zM), f_X8_look I a1 = some (r, I2) ∧ f_X9_look J a1 = some (r, J2) ∧ P (n + 1) I2 J2)
def zStep_18 (P : Nat → zM → zM → Prop) : Prop := (∀ (n : Nat) (I J : zM) (a1 : Int32), n < 512 → P n I J → ∃ (r : Int32) (I2 : zM) (J2 : zM), f_X8_days I a1 = some (r, I2) ∧ f_X9_days J a1 = some (r, J2) ∧ P (n + 1) I2 J2)
def zStep_19 (P : Nat → zM → zM → Prop) : Prop := (∀ (n : Nat) (I J : zM) (a1 : Int32), n < 512 → P n I J → ∃ (r : Int32), f_X8_why I a1 = some r ∧ f_X9_why J a1 = some r ∧ P (n + 1) I J)
def zStep_20 (P : Nat → zM → zM → Prop) : Prop := (∀ (n : Nat) (I J : zM) (a1 a2 : Int32), n < 512 → P n I J → ∃ (r : Int32) (I2 : zM) (J2 : zM), f_X8_told I a1 a2 = some (r, I2) ∧ f_X9_told J a1 a2 = some (r, J2) ∧ P (n + 1) I2 J2)
def zStep_21 (P : Nat → zM → zM → Prop) : Prop := (∀ (n : Nat) (I J : zM) (a1 a2 : Int32), n < 512 → P n I J → ∃ (r : Int32) (I2 : zM) (J2 : zM), f_X8_share I a1 a2 = some (r, I2) ∧ f_X9_share J a1 a2 = some (r, J2) ∧ P (n + 1) I2 J2)
def zStep_22 (P : Nat → zM → zM → Prop) : Prop := (∀ (n : Nat) (I J : zM) (a1 : Int32), n < 512 → P n I J → ∃ (r : Int32) (J2 : zM), f_X8_swaps I a1 = some r ∧ f_X9_swaps J a1 = some (r, J2) ∧ P (n + 1) I J2)
def zStep_23 (P : Nat → zM → zM → Prop) : Prop := (∀ (n : Nat) (I J : zM) (a1 a2 : Int32), n < 512 → P n I J → ∃ (r : Int32), f_X8_ahead I a1 a2 = some r ∧ f_X9_ahead J a1 a2 = some r ∧ P (n + 1) I J)
def zStep_24 (P : Nat → zM → zM → Prop) : Prop := (∀ (n : Nat) (I J : zM) (a1 a2 : Int32), n < 512 → P n I J → ∃ (r : Int32), f_X8_judge I a1 a2 = some r ∧ f_X9_judge J a1 a2 = some r ∧ P (n + 1) I J)
def zStep_25 (P : Nat → zM → zM → Prop) : Prop := (∀ (n : Nat) (I J : zM) (a1 : Int32), n < 512 → P n I J → ∃ (r : Int32) (I2 : zM) (J2 : zM), f_X8_feed I a1 = some (r, I2) ∧ f_X9_feed J a1 = some (r, J2) ∧ P (n + 1) I2 J2)
def zStep_26 (P : Nat → zM → zM → Prop) : Prop := (∀ (n : Nat) (I J : zM), n < 512 → P n I J → ∃ (r : Int32) (I2 : zM) (J2 : zM), f_X8_script I = some (r, I2) ∧ f_X9_script J = some (r, J2) ∧ P (n + 1) I2 J2)
def zStep_27 (P : Nat → zM → zM → Prop) : Prop := (∀ (n : Nat) (I J : zM), n < 512 → P n I J → ∃ (r : Int32) (I2 : zM) (J2 : zM), f_X8_image I = some (r, I2) ∧ f_X9_image J = some (r, J2) ∧ P (n + 1) I2 J2)
def zStep_28 (P : Nat → zM → zM → Prop) : Prop := (∀ (n : Nat) (I J : zM), n < 512 → P n I J → ∃ (r : Int32) (I2 : zM) (J2 : zM), f_X8_back I = some (r, I2) ∧ f_X9_back J = some (r, J2) ∧ P (n + 1) I2 J2)
def zStep_29 (P : Nat → zM → zM → Prop) : Prop := (∀ (n : Nat) (I J : zM) (a1 a2 a3 : Int32), n < 512 → P n I J → ∃ (r : Int32) (I2 : zM) (J2 : zM), f_X8_hold I a1 a2 a3 = some (r, I2) ∧ f_X9_hold J a1 a2 a3 = some (r, J2) ∧ P (n + 1) I2 J2)
def zStep_30 (P : Nat → zM → zM → Prop) : Prop := (∀ (n : Nat) (I J : zM) (a1 a2 : Int32), n < 512 → P n I J → ∃ (r : Int32) (I2 : zM) (J2 : zM), f_X8_row I a1 a2 = some (r, I2) ∧ f_X9_row J a1 a2 = some (r, J2) ∧ P (n + 1) I2 J2)
def zStep_31 (P : Nat → zM → zM → Prop) : Prop := (∀ (n : Nat) (I J : zM) (a1 a2 a3 : Int32), n < 512 → P n I J → ∃ (r : Int32) (I2 : zM) (J2 : zM), f_X8_put I a1 a2 a3 = some (r, I2) ∧ f_X9_put J a1 a2 a3 = some (r, J2) ∧ P (n + 1) I2 J2)
def zStep_32 (P : Nat → zM → zM → Prop) : Prop := (∀ (n : Nat) (I J : zM) (a1 a2 : Int32), n < 512 → P n I J → ∃ (r : Int32), f_X8_tells I a1 a2 = some r ∧ f_X9_tells J a1 a2 = some r ∧ P (n + 1) I J)
def zStep_33 (P : Nat → zM → zM → Prop) : Prop := (∀ (n : Nat) (I J : zM) (a1 : Int32), n < 512 → P n I J → ∃ (r : Int32), f_X8_count I a1 = some r ∧ f_X9_count J a1 = some r ∧ P (n + 1) I J)
/-- what the pure part owes: every call keeps the invariant, and both answer alike -/
def zSteps (P : Nat → zM → zM → Prop) : Prop := (∀ n I J, P n I J → P (n + 1) I J) ∧ zStep_0 P ∧ zStep_1 P ∧ zStep_2 P ∧ zStep_3 P ∧ zStep_4 P ∧ zStep_5 P ∧ zStep_6 P ∧ zStep_7 P ∧ zStep_8 P ∧ zStep_9 P ∧ zStep_10 P ∧ zStep_11 P ∧ zStep_12 P ∧ zStep_13 P ∧ zStep_14 P ∧ zStep_15 P ∧ zStep_16 P ∧ zStep_17 P ∧ zStep_18 P ∧ zStep_19 P ∧ zStep_20 P ∧ zStep_21 P ∧ zStep_22 P ∧ zStep_23 P ∧ zStep_24 P ∧ zStep_25 P ∧ zStep_26 P ∧ zStep_27 P ∧ zStep_28 P ∧ zStep_29 P ∧ zStep_30 P ∧ zStep_31 P ∧ zStep_32 P ∧ zStep_33 P
set_option maxHeartbeats 8000000 in
set_option maxRecDepth 100000 in
theorem law_loop {p : Program} {l : Launch} {e : Env} {s : State} {m : MethodId} {below : List Frame} {meth : Method} {c : Code} {b L : Nat} {xs : Nat → Int32} {G : zGT} (P : Nat → zM → zM → Prop) (hst : zSteps P) (hG : zOK G) (hb0 : G.2.2.2 = s.heap.size) (hL : L ≤ 2048) (C0 : lw_At p s m meth c b L xs) (hK : va_K G.1 vwCl (zT G) s) :
    ∀ (k n : Nat) (x3 : Int32) (I J : zM) (H : Heap) (locs : List Loc) (ls : Array Slot), n + k = 513 → x3 = nI (4 * n) → P n I J → va_P G.1 vwCl (zW G I J) H → va_S (zA G) s.heap H locs → lv_has ls 4 [(0, .ref b), (1, .ref (G.2.1 0)), (2, .ref (G.2.1 359)), (3, .int x3)] → W p l e room_1 s m #[Value.ref b] below meth c H locs 600000 7302250 (lw_Z below #[Value.ref b] s) (F0 m 18 ls []) := by
  obtain ⟨hx, hb, hr, hml, hown, hts0, hX, hbl, hlocks, hgv⟩ := C0
  have hown : s.vm.findClass RL = some m.cls := hown
  have hts : ∀ w ∈ wsL_law, w.before #[Value.ref b] s = true := fun w h => hts0 w (wsL_law_in w h)
  have hbA : ¬ (zA G) b := by show ¬ G.2.2.2 ≤ b; rw [hb0]; exact Nat.not_le.mpr hbl
  have hL31 : L < 2 ^ 31 := by omega
  intro k
  induction k with
  | zero =>
    intro n x3 I J H locs ls hk ex3 hI hP hS hl
    have hn : n = 513 := by omega
    refine lv_iload_n hx hb dL_law_18 rfl (lv_at hl 3 rfl) ?_
    refine lv_aload_n hx hb dL_law_19 rfl (lv_at hl 0 rfl) ?_
    refine va_slen hx hb hX hbl hbA hS dL_law_20 ?_
    refine lv_iconst (v := 4) hx hb dL_law_21 (by decide) ?_
    refine lv_isub hx hb dL_law_22 ?_
    refine lv_icmp_gt (tgt := 1242) hx hb dL_law_23 (by decide) (fun c => ?_) (fun c => absurd (by rw [ex3, hn]; exact z_len_lt hL (by omega)) c)
    refine lv_iconst (v := 1) hx hb dL_law_1242 (by decide) ?_
    refine va_forget (fun q hq => by have := hS.2.2 q hq; rw [← hb0]; exact this) ?_
    exact lw_ret hx hb hr hlocks dL_law_1243
  | succ k ih =>
    intro n x3 I J H locs ls hk ex3 hI hP hS hl
    have hnext : ∀ (I2 J2 : zM) (H : Heap) (locs : List Loc) (ls : Array Slot), P (n + 1) I2 J2 → va_P G.1 vwCl (zW G I2 J2) H → va_S (zA G) s.heap H locs → lv_has ls 4 [(0, .ref b), (1, .ref (G.2.1 0)), (2, .ref (G.2.1 359)), (3, .int x3)] → W p l e room_1 s m #[Value.ref b] below meth c H locs 600000 7302250 (lw_Z below #[Value.ref b] s) (F0 m 1236 ls []) := by
      intro I2 J2 H locs ls hI hP hS hl
      refine lv_iinc (v := x3 + 4) (lv' := [(3, .int (x3 + 4)), (0, .ref b), (1, .ref (G.2.1 0)), (2, .ref (G.2.1 359))]) hx hb dL_law_1236 hl (k := 3) rfl rfl (by decide) rfl (fun ls hl => ?_)
      refine lv_goto (tgt := 18) hx hb dL_law_1239 (by decide) ?_
      exact ih (n + 1) (x3 + 4) I2 J2 H locs ls (by omega) (by rw [ex3]; exact nI_add (4 * n) 4) hI hP hS (lv_sub hl [1, 2, 3, 0] rfl)
    refine lv_iload_n hx hb dL_law_18 rfl (lv_at hl 3 rfl) ?_
    refine lv_aload_n hx hb dL_law_19 rfl (lv_at hl 0 rfl) ?_
    refine va_slen hx hb hX hbl hbA hS dL_law_20 ?_
    refine lv_iconst (v := 4) hx hb dL_law_21 (by decide) ?_
    refine lv_isub hx hb dL_law_22 ?_
    refine lv_icmp_gt (tgt := 1242) hx hb dL_law_23 (by decide) (fun c => ?_) (fun c => ?_)
    · refine lv_iconst (v := 1) hx hb dL_law_1242 (by decide) ?_
      refine va_forget (fun q hq => by have := hS.2.2 q hq; rw [← hb0]; exact this) ?_
      exact lw_ret hx hb hr hlocks dL_law_1243
    · have hlt : 4 * n + 3 < L := z_len_ge hL (by omega) (by rw [← ex3]; exact c)
      have hn512 : n < 512 := by omega
      have hi0 : vp_in x3 L := by rw [ex3]; exact vp_in_nI (by omega) hL31
      have hi1 : vp_in (x3 + 1) L := by rw [ex3, show (1 : Int32) = nI 1 from rfl, nI_add]; exact vp_in_nI (by omega) hL31
      have hi2 : vp_in (x3 + 2) L := by rw [ex3, show (2 : Int32) = nI 2 from rfl, nI_add]; exact vp_in_nI (by omega) hL31
      have hi3 : vp_in (x3 + 3) L := by rw [ex3, show (3 : Int32) = nI 3 from rfl, nI_add]; exact vp_in_nI (by omega) hL31
      refine lv_aload_n hx hb dL_law_26 rfl (lv_at hl 0 rfl) ?_
      refine lv_iload_n hx hb dL_law_27 rfl (lv_at hl 3 rfl) ?_
      refine va_sld hx hb hX hbl hbA hS hi0 dL_law_28 ?_
      refine lv_bipush (v := 63) hx hb dL_law_29 (by decide) ?_
      refine lv_iand hx hb dL_law_31 ?_
      refine lv_topi (fun x hxe => ?_)
      clear hxe
      rcases Classical.em (x = 0) with c0 | c0
      · refine lv_tableIn (off := 152) (tgt := 184) hx hb dL_law_32 (by rw [c0]; decide) (by rw [c0]; decide) (by rw [c0]; decide) (by decide) ?_
        obtain ⟨r, I2, J2, hf1, hf2, hI2⟩ := hst.2.1 n I J (xs (x3 + 1).toNatClampNeg) (xs (x3 + 2).toNatClampNeg) hn512 hI
        refine lv_aload_n hx hb dL_law_184 rfl (lv_at hl 1 rfl) ?_
        refine lv_aload_n hx hb dL_law_185 rfl (lv_at hl 0 rfl) ?_
        refine lv_iload_n hx hb dL_law_186 rfl (lv_at hl 3 rfl) ?_
        refine lv_iconst (v := 1) hx hb dL_law_187 (by decide) ?_
        refine lv_iadd hx hb dL_law_188 ?_
        refine va_sld hx hb hX hbl hbA hS hi1 dL_law_189 ?_
        refine lv_aload_n hx hb dL_law_190 rfl (lv_at hl 0 rfl) ?_
        refine lv_iload_n hx hb dL_law_191 rfl (lv_at hl 3 rfl) ?_
        refine lv_iconst (v := 2) hx hb dL_law_192 (by decide) ?_
        refine lv_iadd hx hb dL_law_193 ?_
        refine va_sld hx hb hX hbl hbA hS hi2 dL_law_194 ?_
        refine x_calli (r := r) (I2 := I2) (J2 := J) (x_runV (As := [.int (xs (x3 + 1).toNatClampNeg), .int (xs (x3 + 2).toNatClampNeg)]) (rest := []) ⟨hx, hb, hml, hown, hts⟩ (c_X8_person l G hG I J (xs (x3 + 1).toNatClampNeg) (xs (x3 + 2).toNatClampNeg) hf1) (cwV 2 hts gL_law_X8_person rfl rfl rfl (by decide +kernel) ⟨Nat.le_of_ble_eq_true rfl, Nat.le_of_ble_eq_true rfl⟩) hK hP zkL_0 (by decide) rfl rfl hl.1 rfl (Nat.le_of_ble_eq_true rfl) dL_law_195 ⟨Nat.le_of_ble_eq_true rfl, Nat.le_of_ble_eq_true rfl⟩) hS (fun H locs hP hS => ?_)
        refine lv_aload_n hx hb dL_law_198 rfl (lv_at hl 2 rfl) ?_
        refine lv_aload_n hx hb dL_law_199 rfl (lv_at hl 0 rfl) ?_
        refine lv_iload_n hx hb dL_law_200 rfl (lv_at hl 3 rfl) ?_
        refine lv_iconst (v := 1) hx hb dL_law_201 (by decide) ?_
        refine lv_iadd hx hb dL_law_202 ?_
        refine va_sld hx hb hX hbl hbA hS hi1 dL_law_203 ?_
        refine lv_aload_n hx hb dL_law_204 rfl (lv_at hl 0 rfl) ?_
        refine lv_iload_n hx hb dL_law_205 rfl (lv_at hl 3 rfl) ?_
        refine lv_iconst (v := 2) hx hb dL_law_206 (by decide) ?_
        refine lv_iadd hx hb dL_law_207 ?_
        refine va_sld hx hb hX hbl hbA hS hi2 dL_law_208 ?_
        refine x_calli (r := r) (I2 := I2) (J2 := J2) (x_runV (As := [.int (xs (x3 + 1).toNatClampNeg), .int (xs (x3 + 2).toNatClampNeg)]) (rest := [.int r]) ⟨hx, hb, hml, hown, hts⟩ (c_X9_person l G hG I2 J (xs (x3 + 1).toNatClampNeg) (xs (x3 + 2).toNatClampNeg) hf2) (cwV 2 hts gL_law_X9_person rfl rfl rfl (by decide +kernel) ⟨Nat.le_of_ble_eq_true rfl, Nat.le_of_ble_eq_true rfl⟩) hK hP zkL_359 (by decide) rfl rfl hl.1 rfl (Nat.le_of_ble_eq_true rfl) dL_law_209 ⟨Nat.le_of_ble_eq_true rfl, Nat.le_of_ble_eq_true rfl⟩) hS (fun H locs hP hS => ?_)
        refine lv_icmp_eq (tgt := 1236) hx hb dL_law_212 (by decide) (fun _ => ?_) (fun c9 => absurd rfl c9)
        exact hnext I2 J2 H locs ls hI2 hP hS hl
      · skip
        rcases Classical.em (x = 1) with c1 | c1
        · refine lv_tableIn (off := 185) (tgt := 217) hx hb dL_law_32 (by rw [c1]; decide) (by rw [c1]; decide) (by rw [c1]; decide) (by decide) ?_
          obtain ⟨r, I2, J2, hf1, hf2, hI2⟩ := hst.2.2.1 n I J (xs (x3 + 1).toNatClampNeg) hn512 hI
          refine lv_aload_n hx hb dL_law_217 rfl (lv_at hl 1 rfl) ?_
          refine lv_aload_n hx hb dL_law_218 rfl (lv_at hl 0 rfl) ?_
          refine lv_iload_n hx hb dL_law_219 rfl (lv_at hl 3 rfl) ?_
          refine lv_iconst (v := 1) hx hb dL_law_220 (by decide) ?_
          refine lv_iadd hx hb dL_law_221 ?_
          refine va_sld hx hb hX hbl hbA hS hi1 dL_law_222 ?_
          refine x_calli (r := r) (I2 := I2) (J2 := J) (x_runV (As := [.int (xs (x3 + 1).toNatClampNeg)]) (rest := []) ⟨hx, hb, hml, hown, hts⟩ (c_X8_tool l G hG I J (xs (x3 + 1).toNatClampNeg) hf1) (cwV 1 hts gL_law_X8_tool rfl rfl rfl (by decide +kernel) ⟨Nat.le_of_ble_eq_true rfl, Nat.le_of_ble_eq_true rfl⟩) hK hP zkL_0 (by decide) rfl rfl hl.1 rfl (Nat.le_of_ble_eq_true rfl) dL_law_223 ⟨Nat.le_of_ble_eq_true rfl, Nat.le_of_ble_eq_true rfl⟩) hS (fun H locs hP hS => ?_)
          refine lv_aload_n hx hb dL_law_226 rfl (lv_at hl 2 rfl) ?_
          refine lv_aload_n hx hb dL_law_227 rfl (lv_at hl 0 rfl) ?_
          refine lv_iload_n hx hb dL_law_228 rfl (lv_at hl 3 rfl) ?_
          refine lv_iconst (v := 1) hx hb dL_law_229 (by decide) ?_
          refine lv_iadd hx hb dL_law_230 ?_
          refine va_sld hx hb hX hbl hbA hS hi1 dL_law_231 ?_
          refine x_calli (r := r) (I2 := I2) (J2 := J2) (x_runV (As := [.int (xs (x3 + 1).toNatClampNeg)]) (rest := [.int r]) ⟨hx, hb, hml, hown, hts⟩ (c_X9_tool l G hG I2 J (xs (x3 + 1).toNatClampNeg) hf2) (cwV 1 hts gL_law_X9_tool rfl rfl rfl (by decide +kernel) ⟨Nat.le_of_ble_eq_true rfl, Nat.le_of_ble_eq_true rfl⟩) hK hP zkL_359 (by decide) rfl rfl hl.1 rfl (Nat.le_of_ble_eq_true rfl) dL_law_232 ⟨Nat.le_of_ble_eq_true rfl, Nat.le_of_ble_eq_true rfl⟩) hS (fun H locs hP hS => ?_)
          refine lv_icmp_eq (tgt := 1236) hx hb dL_law_235 (by decide) (fun _ => ?_) (fun c9 => absurd rfl c9)
          exact hnext I2 J2 H locs ls hI2 hP hS hl
        · skip
          rcases Classical.em (x = 2) with c2 | c2
          · refine lv_tableIn (off := 208) (tgt := 240) hx hb dL_law_32 (by rw [c2]; decide) (by rw [c2]; decide) (by rw [c2]; decide) (by decide) ?_
            obtain ⟨r, I2, J2, hf1, hf2, hI2⟩ := hst.2.2.2.1 n I J (xs (x3 + 1).toNatClampNeg) (xs (x3 + 2).toNatClampNeg) (xs (x3 + 3).toNatClampNeg) hn512 hI
            refine lv_aload_n hx hb dL_law_240 rfl (lv_at hl 1 rfl) ?_
            refine lv_aload_n hx hb dL_law_241 rfl (lv_at hl 0 rfl) ?_
            refine lv_iload_n hx hb dL_law_242 rfl (lv_at hl 3 rfl) ?_
            refine lv_iconst (v := 1) hx hb dL_law_243 (by decide) ?_
            refine lv_iadd hx hb dL_law_244 ?_
            refine va_sld hx hb hX hbl hbA hS hi1 dL_law_245 ?_
            refine lv_aload_n hx hb dL_law_246 rfl (lv_at hl 0 rfl) ?_
            refine lv_iload_n hx hb dL_law_247 rfl (lv_at hl 3 rfl) ?_
            refine lv_iconst (v := 2) hx hb dL_law_248 (by decide) ?_
            refine lv_iadd hx hb dL_law_249 ?_
            refine va_sld hx hb hX hbl hbA hS hi2 dL_law_250 ?_
            refine lv_aload_n hx hb dL_law_251 rfl (lv_at hl 0 rfl) ?_
            refine lv_iload_n hx hb dL_law_252 rfl (lv_at hl 3 rfl) ?_
            refine lv_iconst (v := 3) hx hb dL_law_253 (by decide) ?_
            refine lv_iadd hx hb dL_law_254 ?_
            refine va_sld hx hb hX hbl hbA hS hi3 dL_law_255 ?_
            refine x_calli (r := r) (I2 := I2) (J2 := J) (x_runV (As := [.int (xs (x3 + 1).toNatClampNeg), .int (xs (x3 + 2).toNatClampNeg), .int (xs (x3 + 3).toNatClampNeg)]) (rest := []) ⟨hx, hb, hml, hown, hts⟩ (c_X8_wish l G hG I J (xs (x3 + 1).toNatClampNeg) (xs (x3 + 2).toNatClampNeg) (xs (x3 + 3).toNatClampNeg) hf1) (cwV 3 hts gL_law_X8_wish rfl rfl rfl (by decide +kernel) ⟨Nat.le_of_ble_eq_true rfl, Nat.le_of_ble_eq_true rfl⟩) hK hP zkL_0 (by decide) rfl rfl hl.1 rfl (Nat.le_of_ble_eq_true rfl) dL_law_256 ⟨Nat.le_of_ble_eq_true rfl, Nat.le_of_ble_eq_true rfl⟩) hS (fun H locs hP hS => ?_)
            refine lv_aload_n hx hb dL_law_259 rfl (lv_at hl 2 rfl) ?_
            refine lv_aload_n hx hb dL_law_260 rfl (lv_at hl 0 rfl) ?_
            refine lv_iload_n hx hb dL_law_261 rfl (lv_at hl 3 rfl) ?_
            refine lv_iconst (v := 1) hx hb dL_law_262 (by decide) ?_
            refine lv_iadd hx hb dL_law_263 ?_
            refine va_sld hx hb hX hbl hbA hS hi1 dL_law_264 ?_
            refine lv_aload_n hx hb dL_law_265 rfl (lv_at hl 0 rfl) ?_
            refine lv_iload_n hx hb dL_law_266 rfl (lv_at hl 3 rfl) ?_
            refine lv_iconst (v := 2) hx hb dL_law_267 (by decide) ?_
            refine lv_iadd hx hb dL_law_268 ?_
            refine va_sld hx hb hX hbl hbA hS hi2 dL_law_269 ?_
            refine lv_aload_n hx hb dL_law_270 rfl (lv_at hl 0 rfl) ?_
            refine lv_iload_n hx hb dL_law_271 rfl (lv_at hl 3 rfl) ?_
            refine lv_iconst (v := 3) hx hb dL_law_272 (by decide) ?_
            refine lv_iadd hx hb dL_law_273 ?_
            refine va_sld hx hb hX hbl hbA hS hi3 dL_law_274 ?_
            refine x_calli (r := r) (I2 := I2) (J2 := J2) (x_runV (As := [.int (xs (x3 + 1).toNatClampNeg), .int (xs (x3 + 2).toNatClampNeg), .int (xs (x3 + 3).toNatClampNeg)]) (rest := [.int r]) ⟨hx, hb, hml, hown, hts⟩ (c_X9_wish l G hG I2 J (xs (x3 + 1).toNatClampNeg) (xs (x3 + 2).toNatClampNeg) (xs (x3 + 3).toNatClampNeg) hf2) (cwV 3 hts gL_law_X9_wish rfl rfl rfl (by decide +kernel) ⟨Nat.le_of_ble_eq_true rfl, Nat.le_of_ble_eq_true rfl⟩) hK hP zkL_359 (by decide) rfl rfl hl.1 rfl (Nat.le_of_ble_eq_true rfl) dL_law_275 ⟨Nat.le_of_ble_eq_true rfl, Nat.le_of_ble_eq_true rfl⟩) hS (fun H locs hP hS => ?_)
            refine lv_icmp_eq (tgt := 1236) hx hb dL_law_278 (by decide) (fun _ => ?_) (fun c9 => absurd rfl c9)
            exact hnext I2 J2 H locs ls hI2 hP hS hl
          · skip
            rcases Classical.em (x = 3) with c3 | c3
            · refine lv_tableIn (off := 251) (tgt := 283) hx hb dL_law_32 (by rw [c3]; decide) (by rw [c3]; decide) (by rw [c3]; decide) (by decide) ?_
              obtain ⟨r, I2, J2, hf1, hf2, hI2⟩ := hst.2.2.2.2.1 n I J (xs (x3 + 1).toNatClampNeg) (xs (x3 + 2).toNatClampNeg) hn512 hI
              refine lv_aload_n hx hb dL_law_283 rfl (lv_at hl 1 rfl) ?_
              refine lv_aload_n hx hb dL_law_284 rfl (lv_at hl 0 rfl) ?_
              refine lv_iload_n hx hb dL_law_285 rfl (lv_at hl 3 rfl) ?_
              refine lv_iconst (v := 1) hx hb dL_law_286 (by decide) ?_
              refine lv_iadd hx hb dL_law_287 ?_
              refine va_sld hx hb hX hbl hbA hS hi1 dL_law_288 ?_
              refine lv_aload_n hx hb dL_law_289 rfl (lv_at hl 0 rfl) ?_
              refine lv_iload_n hx hb dL_law_290 rfl (lv_at hl 3 rfl) ?_
              refine lv_iconst (v := 2) hx hb dL_law_291 (by decide) ?_
              refine lv_iadd hx hb dL_law_292 ?_
              refine va_sld hx hb hX hbl hbA hS hi2 dL_law_293 ?_
              refine x_calli (r := r) (I2 := I2) (J2 := J) (x_runV (As := [.int (xs (x3 + 1).toNatClampNeg), .int (xs (x3 + 2).toNatClampNeg)]) (rest := []) ⟨hx, hb, hml, hown, hts⟩ (c_X8_fund l G hG I J (xs (x3 + 1).toNatClampNeg) (xs (x3 + 2).toNatClampNeg) hf1) (cwV 2 hts gL_law_X8_fund rfl rfl rfl (by decide +kernel) ⟨Nat.le_of_ble_eq_true rfl, Nat.le_of_ble_eq_true rfl⟩) hK hP zkL_0 (by decide) rfl rfl hl.1 rfl (Nat.le_of_ble_eq_true rfl) dL_law_294 ⟨Nat.le_of_ble_eq_true rfl, Nat.le_of_ble_eq_true rfl⟩) hS (fun H locs hP hS => ?_)
              refine lv_aload_n hx hb dL_law_297 rfl (lv_at hl 2 rfl) ?_
              refine lv_aload_n hx hb dL_law_298 rfl (lv_at hl 0 rfl) ?_
              refine lv_iload_n hx hb dL_law_299 rfl (lv_at hl 3 rfl) ?_
              refine lv_iconst (v := 1) hx hb dL_law_300 (by decide) ?_
              refine lv_iadd hx hb dL_law_301 ?_
              refine va_sld hx hb hX hbl hbA hS hi1 dL_law_302 ?_
              refine lv_aload_n hx hb dL_law_303 rfl (lv_at hl 0 rfl) ?_
              refine lv_iload_n hx hb dL_law_304 rfl (lv_at hl 3 rfl) ?_
              refine lv_iconst (v := 2) hx hb dL_law_305 (by decide) ?_
              refine lv_iadd hx hb dL_law_306 ?_
              refine va_sld hx hb hX hbl hbA hS hi2 dL_law_307 ?_
              refine x_calli (r := r) (I2 := I2) (J2 := J2) (x_runV (As := [.int (xs (x3 + 1).toNatClampNeg), .int (xs (x3 + 2).toNatClampNeg)]) (rest := [.int r]) ⟨hx, hb, hml, hown, hts⟩ (c_X9_fund l G hG I2 J (xs (x3 + 1).toNatClampNeg) (xs (x3 + 2).toNatClampNeg) hf2) (cwV 2 hts gL_law_X9_fund rfl rfl rfl (by decide +kernel) ⟨Nat.le_of_ble_eq_true rfl, Nat.le_of_ble_eq_true rfl⟩) hK hP zkL_359 (by decide) rfl rfl hl.1 rfl (Nat.le_of_ble_eq_true rfl) dL_law_308 ⟨Nat.le_of_ble_eq_true rfl, Nat.le_of_ble_eq_true rfl⟩) hS (fun H locs hP hS => ?_)
              refine lv_icmp_eq (tgt := 1236) hx hb dL_law_311 (by decide) (fun _ => ?_) (fun c9 => absurd rfl c9)
              exact hnext I2 J2 H locs ls hI2 hP hS hl
            · skip
              rcases Classical.em (x = 4) with c4 | c4
              · refine lv_tableIn (off := 284) (tgt := 316) hx hb dL_law_32 (by rw [c4]; decide) (by rw [c4]; decide) (by rw [c4]; decide) (by decide) ?_
                obtain ⟨r, hf1, hf2, hI2⟩ := hst.2.2.2.2.2.1 n I J (xs (x3 + 1).toNatClampNeg) (xs (x3 + 2).toNatClampNeg) hn512 hI
                refine lv_aload_n hx hb dL_law_316 rfl (lv_at hl 1 rfl) ?_
                refine lv_aload_n hx hb dL_law_317 rfl (lv_at hl 0 rfl) ?_
                refine lv_iload_n hx hb dL_law_318 rfl (lv_at hl 3 rfl) ?_
                refine lv_iconst (v := 1) hx hb dL_law_319 (by decide) ?_
                refine lv_iadd hx hb dL_law_320 ?_
                refine va_sld hx hb hX hbl hbA hS hi1 dL_law_321 ?_
                refine lv_aload_n hx hb dL_law_322 rfl (lv_at hl 0 rfl) ?_
                refine lv_iload_n hx hb dL_law_323 rfl (lv_at hl 3 rfl) ?_
                refine lv_iconst (v := 2) hx hb dL_law_324 (by decide) ?_
                refine lv_iadd hx hb dL_law_325 ?_
                refine va_sld hx hb hX hbl hbA hS hi2 dL_law_326 ?_
                refine x_calli (r := r) (I2 := I) (J2 := J) (x_runV (As := [.int (xs (x3 + 1).toNatClampNeg), .int (xs (x3 + 2).toNatClampNeg)]) (rest := []) ⟨hx, hb, hml, hown, hts⟩ (c_X8_personOf l G hG I J (xs (x3 + 1).toNatClampNeg) (xs (x3 + 2).toNatClampNeg) hf1) (cwV 2 hts gL_law_X8_personOf rfl rfl rfl (by decide +kernel) ⟨Nat.le_of_ble_eq_true rfl, Nat.le_of_ble_eq_true rfl⟩) hK hP zkL_0 (by decide) rfl rfl hl.1 rfl (Nat.le_of_ble_eq_true rfl) dL_law_327 ⟨Nat.le_of_ble_eq_true rfl, Nat.le_of_ble_eq_true rfl⟩) hS (fun H locs hP hS => ?_)
                refine lv_aload_n hx hb dL_law_330 rfl (lv_at hl 2 rfl) ?_
                refine lv_aload_n hx hb dL_law_331 rfl (lv_at hl 0 rfl) ?_
                refine lv_iload_n hx hb dL_law_332 rfl (lv_at hl 3 rfl) ?_
                refine lv_iconst (v := 1) hx hb dL_law_333 (by decide) ?_
                refine lv_iadd hx hb dL_law_334 ?_
                refine va_sld hx hb hX hbl hbA hS hi1 dL_law_335 ?_
                refine lv_aload_n hx hb dL_law_336 rfl (lv_at hl 0 rfl) ?_
                refine lv_iload_n hx hb dL_law_337 rfl (lv_at hl 3 rfl) ?_
                refine lv_iconst (v := 2) hx hb dL_law_338 (by decide) ?_
                refine lv_iadd hx hb dL_law_339 ?_
                refine va_sld hx hb hX hbl hbA hS hi2 dL_law_340 ?_
                refine x_calli (r := r) (I2 := I) (J2 := J) (x_runV (As := [.int (xs (x3 + 1).toNatClampNeg), .int (xs (x3 + 2).toNatClampNeg)]) (rest := [.int r]) ⟨hx, hb, hml, hown, hts⟩ (c_X9_personOf l G hG I J (xs (x3 + 1).toNatClampNeg) (xs (x3 + 2).toNatClampNeg) hf2) (cwV 2 hts gL_law_X9_personOf rfl rfl rfl (by decide +kernel) ⟨Nat.le_of_ble_eq_true rfl, Nat.le_of_ble_eq_true rfl⟩) hK hP zkL_359 (by decide) rfl rfl hl.1 rfl (Nat.le_of_ble_eq_true rfl) dL_law_341 ⟨Nat.le_of_ble_eq_true rfl, Nat.le_of_ble_eq_true rfl⟩) hS (fun H locs hP hS => ?_)
                refine lv_icmp_eq (tgt := 1236) hx hb dL_law_344 (by decide) (fun _ => ?_) (fun c9 => absurd rfl c9)
                exact hnext I J H locs ls hI2 hP hS hl
              · skip
                rcases Classical.em (x = 5) with c5 | c5
                · refine lv_tableIn (off := 317) (tgt := 349) hx hb dL_law_32 (by rw [c5]; decide) (by rw [c5]; decide) (by rw [c5]; decide) (by decide) ?_
                  obtain ⟨r, hf1, hf2, hI2⟩ := hst.2.2.2.2.2.2.1 n I J (xs (x3 + 1).toNatClampNeg) (xs (x3 + 2).toNatClampNeg) hn512 hI
                  refine lv_aload_n hx hb dL_law_349 rfl (lv_at hl 1 rfl) ?_
                  refine lv_aload_n hx hb dL_law_350 rfl (lv_at hl 0 rfl) ?_
                  refine lv_iload_n hx hb dL_law_351 rfl (lv_at hl 3 rfl) ?_
                  refine lv_iconst (v := 1) hx hb dL_law_352 (by decide) ?_
                  refine lv_iadd hx hb dL_law_353 ?_
                  refine va_sld hx hb hX hbl hbA hS hi1 dL_law_354 ?_
                  refine lv_aload_n hx hb dL_law_355 rfl (lv_at hl 0 rfl) ?_
                  refine lv_iload_n hx hb dL_law_356 rfl (lv_at hl 3 rfl) ?_
                  refine lv_iconst (v := 2) hx hb dL_law_357 (by decide) ?_
                  refine lv_iadd hx hb dL_law_358 ?_
                  refine va_sld hx hb hX hbl hbA hS hi2 dL_law_359 ?_
                  refine x_calli (r := r) (I2 := I) (J2 := J) (x_runV (As := [.int (xs (x3 + 1).toNatClampNeg), .int (xs (x3 + 2).toNatClampNeg)]) (rest := []) ⟨hx, hb, hml, hown, hts⟩ (c_X8_toolOf l G hG I J (xs (x3 + 1).toNatClampNeg) (xs (x3 + 2).toNatClampNeg) hf1) (cwV 2 hts gL_law_X8_toolOf rfl rfl rfl (by decide +kernel) ⟨Nat.le_of_ble_eq_true rfl, Nat.le_of_ble_eq_true rfl⟩) hK hP zkL_0 (by decide) rfl rfl hl.1 rfl (Nat.le_of_ble_eq_true rfl) dL_law_360 ⟨Nat.le_of_ble_eq_true rfl, Nat.le_of_ble_eq_true rfl⟩) hS (fun H locs hP hS => ?_)
                  refine lv_aload_n hx hb dL_law_363 rfl (lv_at hl 2 rfl) ?_
                  refine lv_aload_n hx hb dL_law_364 rfl (lv_at hl 0 rfl) ?_
                  refine lv_iload_n hx hb dL_law_365 rfl (lv_at hl 3 rfl) ?_
                  refine lv_iconst (v := 1) hx hb dL_law_366 (by decide) ?_
                  refine lv_iadd hx hb dL_law_367 ?_
                  refine va_sld hx hb hX hbl hbA hS hi1 dL_law_368 ?_
                  refine lv_aload_n hx hb dL_law_369 rfl (lv_at hl 0 rfl) ?_
                  refine lv_iload_n hx hb dL_law_370 rfl (lv_at hl 3 rfl) ?_
                  refine lv_iconst (v := 2) hx hb dL_law_371 (by decide) ?_
                  refine lv_iadd hx hb dL_law_372 ?_
                  refine va_sld hx hb hX hbl hbA hS hi2 dL_law_373 ?_
                  refine x_calli (r := r) (I2 := I) (J2 := J) (x_runV (As := [.int (xs (x3 + 1).toNatClampNeg), .int (xs (x3 + 2).toNatClampNeg)]) (rest := [.int r]) ⟨hx, hb, hml, hown, hts⟩ (c_X9_toolOf l G hG I J (xs (x3 + 1).toNatClampNeg) (xs (x3 + 2).toNatClampNeg) hf2) (cwV 2 hts gL_law_X9_toolOf rfl rfl rfl (by decide +kernel) ⟨Nat.le_of_ble_eq_true rfl, Nat.le_of_ble_eq_true rfl⟩) hK hP zkL_359 (by decide) rfl rfl hl.1 rfl (Nat.le_of_ble_eq_true rfl) dL_law_374 ⟨Nat.le_of_ble_eq_true rfl, Nat.le_of_ble_eq_true rfl⟩) hS (fun H locs hP hS => ?_)
                  refine lv_icmp_eq (tgt := 1236) hx hb dL_law_377 (by decide) (fun _ => ?_) (fun c9 => absurd rfl c9)
                  exact hnext I J H locs ls hI2 hP hS hl
                · skip
                  rcases Classical.em (x = 6) with c6 | c6
                  · refine lv_tableIn (off := 350) (tgt := 382) hx hb dL_law_32 (by rw [c6]; decide) (by rw [c6]; decide) (by rw [c6]; decide) (by decide) ?_
                    obtain ⟨r, hf1, hf2, hI2⟩ := hst.2.2.2.2.2.2.2.1 n I J (xs (x3 + 1).toNatClampNeg) (xs (x3 + 2).toNatClampNeg) (xs (x3 + 3).toNatClampNeg) hn512 hI
                    refine lv_aload_n hx hb dL_law_382 rfl (lv_at hl 1 rfl) ?_
                    refine lv_aload_n hx hb dL_law_383 rfl (lv_at hl 0 rfl) ?_
                    refine lv_iload_n hx hb dL_law_384 rfl (lv_at hl 3 rfl) ?_
                    refine lv_iconst (v := 1) hx hb dL_law_385 (by decide) ?_
                    refine lv_iadd hx hb dL_law_386 ?_
                    refine va_sld hx hb hX hbl hbA hS hi1 dL_law_387 ?_
                    refine lv_aload_n hx hb dL_law_388 rfl (lv_at hl 0 rfl) ?_
                    refine lv_iload_n hx hb dL_law_389 rfl (lv_at hl 3 rfl) ?_
                    refine lv_iconst (v := 2) hx hb dL_law_390 (by decide) ?_
                    refine lv_iadd hx hb dL_law_391 ?_
                    refine va_sld hx hb hX hbl hbA hS hi2 dL_law_392 ?_
                    refine lv_aload_n hx hb dL_law_393 rfl (lv_at hl 0 rfl) ?_
                    refine lv_iload_n hx hb dL_law_394 rfl (lv_at hl 3 rfl) ?_
                    refine lv_iconst (v := 3) hx hb dL_law_395 (by decide) ?_
                    refine lv_iadd hx hb dL_law_396 ?_
                    refine va_sld hx hb hX hbl hbA hS hi3 dL_law_397 ?_
                    refine x_calli (r := r) (I2 := I) (J2 := J) (x_runV (As := [.int (xs (x3 + 1).toNatClampNeg), .int (xs (x3 + 2).toNatClampNeg), .int (xs (x3 + 3).toNatClampNeg)]) (rest := []) ⟨hx, hb, hml, hown, hts⟩ (c_X8_link l G hG I J (xs (x3 + 1).toNatClampNeg) (xs (x3 + 2).toNatClampNeg) (xs (x3 + 3).toNatClampNeg) hf1) (cwV 3 hts gL_law_X8_link rfl rfl rfl (by decide +kernel) ⟨Nat.le_of_ble_eq_true rfl, Nat.le_of_ble_eq_true rfl⟩) hK hP zkL_0 (by decide) rfl rfl hl.1 rfl (Nat.le_of_ble_eq_true rfl) dL_law_398 ⟨Nat.le_of_ble_eq_true rfl, Nat.le_of_ble_eq_true rfl⟩) hS (fun H locs hP hS => ?_)
                    refine lv_aload_n hx hb dL_law_401 rfl (lv_at hl 2 rfl) ?_
                    refine lv_aload_n hx hb dL_law_402 rfl (lv_at hl 0 rfl) ?_
                    refine lv_iload_n hx hb dL_law_403 rfl (lv_at hl 3 rfl) ?_
                    refine lv_iconst (v := 1) hx hb dL_law_404 (by decide) ?_
                    refine lv_iadd hx hb dL_law_405 ?_
                    refine va_sld hx hb hX hbl hbA hS hi1 dL_law_406 ?_
                    refine lv_aload_n hx hb dL_law_407 rfl (lv_at hl 0 rfl) ?_
                    refine lv_iload_n hx hb dL_law_408 rfl (lv_at hl 3 rfl) ?_
                    refine lv_iconst (v := 2) hx hb dL_law_409 (by decide) ?_
                    refine lv_iadd hx hb dL_law_410 ?_
                    refine va_sld hx hb hX hbl hbA hS hi2 dL_law_411 ?_
                    refine lv_aload_n hx hb dL_law_412 rfl (lv_at hl 0 rfl) ?_
                    refine lv_iload_n hx hb dL_law_413 rfl (lv_at hl 3 rfl) ?_
                    refine lv_iconst (v := 3) hx hb dL_law_414 (by decide) ?_
                    refine lv_iadd hx hb dL_law_415 ?_
                    refine va_sld hx hb hX hbl hbA hS hi3 dL_law_416 ?_
                    refine x_calli (r := r) (I2 := I) (J2 := J) (x_runV (As := [.int (xs (x3 + 1).toNatClampNeg), .int (xs (x3 + 2).toNatClampNeg), .int (xs (x3 + 3).toNatClampNeg)]) (rest := [.int r]) ⟨hx, hb, hml, hown, hts⟩ (c_X9_link l G hG I J (xs (x3 + 1).toNatClampNeg) (xs (x3 + 2).toNatClampNeg) (xs (x3 + 3).toNatClampNeg) hf2) (cwV 3 hts gL_law_X9_link rfl rfl rfl (by decide +kernel) ⟨Nat.le_of_ble_eq_true rfl, Nat.le_of_ble_eq_true rfl⟩) hK hP zkL_359 (by decide) rfl rfl hl.1 rfl (Nat.le_of_ble_eq_true rfl) dL_law_417 ⟨Nat.le_of_ble_eq_true rfl, Nat.le_of_ble_eq_true rfl⟩) hS (fun H locs hP hS => ?_)
                    refine lv_icmp_eq (tgt := 1236) hx hb dL_law_420 (by decide) (fun _ => ?_) (fun c9 => absurd rfl c9)
                    exact hnext I J H locs ls hI2 hP hS hl
                  · skip
                    rcases Classical.em (x = 7) with c7 | c7
                    · refine lv_tableIn (off := 393) (tgt := 425) hx hb dL_law_32 (by rw [c7]; decide) (by rw [c7]; decide) (by rw [c7]; decide) (by decide) ?_
                      obtain ⟨r, hf1, hf2, hI2⟩ := hst.2.2.2.2.2.2.2.2.1 n I J (xs (x3 + 1).toNatClampNeg) (xs (x3 + 2).toNatClampNeg) (xs (x3 + 3).toNatClampNeg) hn512 hI
                      refine lv_aload_n hx hb dL_law_425 rfl (lv_at hl 1 rfl) ?_
                      refine lv_aload_n hx hb dL_law_426 rfl (lv_at hl 0 rfl) ?_
                      refine lv_iload_n hx hb dL_law_427 rfl (lv_at hl 3 rfl) ?_
                      refine lv_iconst (v := 1) hx hb dL_law_428 (by decide) ?_
                      refine lv_iadd hx hb dL_law_429 ?_
                      refine va_sld hx hb hX hbl hbA hS hi1 dL_law_430 ?_
                      refine lv_aload_n hx hb dL_law_431 rfl (lv_at hl 0 rfl) ?_
                      refine lv_iload_n hx hb dL_law_432 rfl (lv_at hl 3 rfl) ?_
                      refine lv_iconst (v := 2) hx hb dL_law_433 (by decide) ?_
                      refine lv_iadd hx hb dL_law_434 ?_
                      refine va_sld hx hb hX hbl hbA hS hi2 dL_law_435 ?_
                      refine lv_aload_n hx hb dL_law_436 rfl (lv_at hl 0 rfl) ?_
                      refine lv_iload_n hx hb dL_law_437 rfl (lv_at hl 3 rfl) ?_
                      refine lv_iconst (v := 3) hx hb dL_law_438 (by decide) ?_
                      refine lv_iadd hx hb dL_law_439 ?_
                      refine va_sld hx hb hX hbl hbA hS hi3 dL_law_440 ?_
                      refine x_calli (r := r) (I2 := I) (J2 := J) (x_runV (As := [.int (xs (x3 + 1).toNatClampNeg), .int (xs (x3 + 2).toNatClampNeg), .int (xs (x3 + 3).toNatClampNeg)]) (rest := []) ⟨hx, hb, hml, hown, hts⟩ (c_X8_seen l G hG I J (xs (x3 + 1).toNatClampNeg) (xs (x3 + 2).toNatClampNeg) (xs (x3 + 3).toNatClampNeg) hf1) (cwV 3 hts gL_law_X8_seen rfl rfl rfl (by decide +kernel) ⟨Nat.le_of_ble_eq_true rfl, Nat.le_of_ble_eq_true rfl⟩) hK hP zkL_0 (by decide) rfl rfl hl.1 rfl (Nat.le_of_ble_eq_true rfl) dL_law_441 ⟨Nat.le_of_ble_eq_true rfl, Nat.le_of_ble_eq_true rfl⟩) hS (fun H locs hP hS => ?_)
                      refine lv_aload_n hx hb dL_law_444 rfl (lv_at hl 2 rfl) ?_
                      refine lv_aload_n hx hb dL_law_445 rfl (lv_at hl 0 rfl) ?_
                      refine lv_iload_n hx hb dL_law_446 rfl (lv_at hl 3 rfl) ?_
                      refine lv_iconst (v := 1) hx hb dL_law_447 (by decide) ?_
                      refine lv_iadd hx hb dL_law_448 ?_
                      refine va_sld hx hb hX hbl hbA hS hi1 dL_law_449 ?_
                      refine lv_aload_n hx hb dL_law_450 rfl (lv_at hl 0 rfl) ?_
                      refine lv_iload_n hx hb dL_law_451 rfl (lv_at hl 3 rfl) ?_
                      refine lv_iconst (v := 2) hx hb dL_law_452 (by decide) ?_
                      refine lv_iadd hx hb dL_law_453 ?_
                      refine va_sld hx hb hX hbl hbA hS hi2 dL_law_454 ?_
                      refine lv_aload_n hx hb dL_law_455 rfl (lv_at hl 0 rfl) ?_
                      refine lv_iload_n hx hb dL_law_456 rfl (lv_at hl 3 rfl) ?_
                      refine lv_iconst (v := 3) hx hb dL_law_457 (by decide) ?_
                      refine lv_iadd hx hb dL_law_458 ?_
                      refine va_sld hx hb hX hbl hbA hS hi3 dL_law_459 ?_
                      refine x_calli (r := r) (I2 := I) (J2 := J) (x_runV (As := [.int (xs (x3 + 1).toNatClampNeg), .int (xs (x3 + 2).toNatClampNeg), .int (xs (x3 + 3).toNatClampNeg)]) (rest := [.int r]) ⟨hx, hb, hml, hown, hts⟩ (c_X9_seen l G hG I J (xs (x3 + 1).toNatClampNeg) (xs (x3 + 2).toNatClampNeg) (xs (x3 + 3).toNatClampNeg) hf2) (cwV 3 hts gL_law_X9_seen rfl rfl rfl (by decide +kernel) ⟨Nat.le_of_ble_eq_true rfl, Nat.le_of_ble_eq_true rfl⟩) hK hP zkL_359 (by decide) rfl rfl hl.1 rfl (Nat.le_of_ble_eq_true rfl) dL_law_460 ⟨Nat.le_of_ble_eq_true rfl, Nat.le_of_ble_eq_true rfl⟩) hS (fun H locs hP hS => ?_)
                      refine lv_icmp_eq (tgt := 1236) hx hb dL_law_463 (by decide) (fun _ => ?_) (fun c9 => absurd rfl c9)
                      exact hnext I J H locs ls hI2 hP hS hl
                    · skip
                      rcases Classical.em (x = 8) with c8 | c8
                      · refine lv_tableIn (off := 436) (tgt := 468) hx hb dL_law_32 (by rw [c8]; decide) (by rw [c8]; decide) (by rw [c8]; decide) (by decide) ?_
                        obtain ⟨r, hf1, hf2, hI2⟩ := hst.2.2.2.2.2.2.2.2.2.1 n I J (xs (x3 + 1).toNatClampNeg) (xs (x3 + 2).toNatClampNeg) (xs (x3 + 3).toNatClampNeg) hn512 hI
                        refine lv_aload_n hx hb dL_law_468 rfl (lv_at hl 1 rfl) ?_
                        refine lv_aload_n hx hb dL_law_469 rfl (lv_at hl 0 rfl) ?_
                        refine lv_iload_n hx hb dL_law_470 rfl (lv_at hl 3 rfl) ?_
                        refine lv_iconst (v := 1) hx hb dL_law_471 (by decide) ?_
                        refine lv_iadd hx hb dL_law_472 ?_
                        refine va_sld hx hb hX hbl hbA hS hi1 dL_law_473 ?_
                        refine lv_aload_n hx hb dL_law_474 rfl (lv_at hl 0 rfl) ?_
                        refine lv_iload_n hx hb dL_law_475 rfl (lv_at hl 3 rfl) ?_
                        refine lv_iconst (v := 2) hx hb dL_law_476 (by decide) ?_
                        refine lv_iadd hx hb dL_law_477 ?_
                        refine va_sld hx hb hX hbl hbA hS hi2 dL_law_478 ?_
                        refine lv_aload_n hx hb dL_law_479 rfl (lv_at hl 0 rfl) ?_
                        refine lv_iload_n hx hb dL_law_480 rfl (lv_at hl 3 rfl) ?_
                        refine lv_iconst (v := 3) hx hb dL_law_481 (by decide) ?_
                        refine lv_iadd hx hb dL_law_482 ?_
                        refine va_sld hx hb hX hbl hbA hS hi3 dL_law_483 ?_
                        refine x_calli (r := r) (I2 := I) (J2 := J) (x_runV (As := [.int (xs (x3 + 1).toNatClampNeg), .int (xs (x3 + 2).toNatClampNeg), .int (xs (x3 + 3).toNatClampNeg)]) (rest := []) ⟨hx, hb, hml, hown, hts⟩ (c_X8_claimOf l G hG I J (xs (x3 + 1).toNatClampNeg) (xs (x3 + 2).toNatClampNeg) (xs (x3 + 3).toNatClampNeg) hf1) (cwV 3 hts gL_law_X8_claimOf rfl rfl rfl (by decide +kernel) ⟨Nat.le_of_ble_eq_true rfl, Nat.le_of_ble_eq_true rfl⟩) hK hP zkL_0 (by decide) rfl rfl hl.1 rfl (Nat.le_of_ble_eq_true rfl) dL_law_484 ⟨Nat.le_of_ble_eq_true rfl, Nat.le_of_ble_eq_true rfl⟩) hS (fun H locs hP hS => ?_)
                        refine lv_aload_n hx hb dL_law_487 rfl (lv_at hl 2 rfl) ?_
                        refine lv_aload_n hx hb dL_law_488 rfl (lv_at hl 0 rfl) ?_
                        refine lv_iload_n hx hb dL_law_489 rfl (lv_at hl 3 rfl) ?_
                        refine lv_iconst (v := 1) hx hb dL_law_490 (by decide) ?_
                        refine lv_iadd hx hb dL_law_491 ?_
                        refine va_sld hx hb hX hbl hbA hS hi1 dL_law_492 ?_
                        refine lv_aload_n hx hb dL_law_493 rfl (lv_at hl 0 rfl) ?_
                        refine lv_iload_n hx hb dL_law_494 rfl (lv_at hl 3 rfl) ?_
                        refine lv_iconst (v := 2) hx hb dL_law_495 (by decide) ?_
                        refine lv_iadd hx hb dL_law_496 ?_
                        refine va_sld hx hb hX hbl hbA hS hi2 dL_law_497 ?_
                        refine lv_aload_n hx hb dL_law_498 rfl (lv_at hl 0 rfl) ?_
                        refine lv_iload_n hx hb dL_law_499 rfl (lv_at hl 3 rfl) ?_
                        refine lv_iconst (v := 3) hx hb dL_law_500 (by decide) ?_
                        refine lv_iadd hx hb dL_law_501 ?_
                        refine va_sld hx hb hX hbl hbA hS hi3 dL_law_502 ?_
                        refine x_calli (r := r) (I2 := I) (J2 := J) (x_runV (As := [.int (xs (x3 + 1).toNatClampNeg), .int (xs (x3 + 2).toNatClampNeg), .int (xs (x3 + 3).toNatClampNeg)]) (rest := [.int r]) ⟨hx, hb, hml, hown, hts⟩ (c_X9_claimOf l G hG I J (xs (x3 + 1).toNatClampNeg) (xs (x3 + 2).toNatClampNeg) (xs (x3 + 3).toNatClampNeg) hf2) (cwV 3 hts gL_law_X9_claimOf rfl rfl rfl (by decide +kernel) ⟨Nat.le_of_ble_eq_true rfl, Nat.le_of_ble_eq_true rfl⟩) hK hP zkL_359 (by decide) rfl rfl hl.1 rfl (Nat.le_of_ble_eq_true rfl) dL_law_503 ⟨Nat.le_of_ble_eq_true rfl, Nat.le_of_ble_eq_true rfl⟩) hS (fun H locs hP hS => ?_)
                        refine lv_icmp_eq (tgt := 1236) hx hb dL_law_506 (by decide) (fun _ => ?_) (fun c9 => absurd rfl c9)
                        exact hnext I J H locs ls hI2 hP hS hl
                      · skip
                        rcases Classical.em (x = 9) with c9 | c9
                        · refine lv_tableIn (off := 479) (tgt := 511) hx hb dL_law_32 (by rw [c9]; decide) (by rw [c9]; decide) (by rw [c9]; decide) (by decide) ?_
                          obtain ⟨r, hf1, hf2, hI2⟩ := hst.2.2.2.2.2.2.2.2.2.2.1 n I J (xs (x3 + 1).toNatClampNeg) hn512 hI
                          refine lv_aload_n hx hb dL_law_511 rfl (lv_at hl 1 rfl) ?_
                          refine lv_aload_n hx hb dL_law_512 rfl (lv_at hl 0 rfl) ?_
                          refine lv_iload_n hx hb dL_law_513 rfl (lv_at hl 3 rfl) ?_
                          refine lv_iconst (v := 1) hx hb dL_law_514 (by decide) ?_
                          refine lv_iadd hx hb dL_law_515 ?_
                          refine va_sld hx hb hX hbl hbA hS hi1 dL_law_516 ?_
                          refine x_calli (r := r) (I2 := I) (J2 := J) (x_runV (As := [.int (xs (x3 + 1).toNatClampNeg)]) (rest := []) ⟨hx, hb, hml, hown, hts⟩ (c_X8_ranked l G hG I J (xs (x3 + 1).toNatClampNeg) hf1) (cwV 1 hts gL_law_X8_ranked rfl rfl rfl (by decide +kernel) ⟨Nat.le_of_ble_eq_true rfl, Nat.le_of_ble_eq_true rfl⟩) hK hP zkL_0 (by decide) rfl rfl hl.1 rfl (Nat.le_of_ble_eq_true rfl) dL_law_517 ⟨Nat.le_of_ble_eq_true rfl, Nat.le_of_ble_eq_true rfl⟩) hS (fun H locs hP hS => ?_)
                          refine lv_aload_n hx hb dL_law_520 rfl (lv_at hl 2 rfl) ?_
                          refine lv_aload_n hx hb dL_law_521 rfl (lv_at hl 0 rfl) ?_
                          refine lv_iload_n hx hb dL_law_522 rfl (lv_at hl 3 rfl) ?_
                          refine lv_iconst (v := 1) hx hb dL_law_523 (by decide) ?_
                          refine lv_iadd hx hb dL_law_524 ?_
                          refine va_sld hx hb hX hbl hbA hS hi1 dL_law_525 ?_
                          refine x_calli (r := r) (I2 := I) (J2 := J) (x_runV (As := [.int (xs (x3 + 1).toNatClampNeg)]) (rest := [.int r]) ⟨hx, hb, hml, hown, hts⟩ (c_X9_ranked l G hG I J (xs (x3 + 1).toNatClampNeg) hf2) (cwV 1 hts gL_law_X9_ranked rfl rfl rfl (by decide +kernel) ⟨Nat.le_of_ble_eq_true rfl, Nat.le_of_ble_eq_true rfl⟩) hK hP zkL_359 (by decide) rfl rfl hl.1 rfl (Nat.le_of_ble_eq_true rfl) dL_law_526 ⟨Nat.le_of_ble_eq_true rfl, Nat.le_of_ble_eq_true rfl⟩) hS (fun H locs hP hS => ?_)
                          refine lv_icmp_eq (tgt := 1236) hx hb dL_law_529 (by decide) (fun _ => ?_) (fun c9 => absurd rfl c9)
                          exact hnext I J H locs ls hI2 hP hS hl
                        · skip
                          rcases Classical.em (x = 10) with c10 | c10
                          · refine lv_tableIn (off := 502) (tgt := 534) hx hb dL_law_32 (by rw [c10]; decide) (by rw [c10]; decide) (by rw [c10]; decide) (by decide) ?_
                            obtain ⟨r, I2, J2, hf1, hf2, hI2⟩ := hst.2.2.2.2.2.2.2.2.2.2.2.1 n I J (xs (x3 + 1).toNatClampNeg) (xs (x3 + 2).toNatClampNeg) (xs (x3 + 3).toNatClampNeg) hn512 hI
                            refine lv_aload_n hx hb dL_law_534 rfl (lv_at hl 1 rfl) ?_
                            refine lv_aload_n hx hb dL_law_535 rfl (lv_at hl 0 rfl) ?_
                            refine lv_iload_n hx hb dL_law_536 rfl (lv_at hl 3 rfl) ?_
                            refine lv_iconst (v := 1) hx hb dL_law_537 (by decide) ?_
                            refine lv_iadd hx hb dL_law_538 ?_
                            refine va_sld hx hb hX hbl hbA hS hi1 dL_law_539 ?_
                            refine lv_aload_n hx hb dL_law_540 rfl (lv_at hl 0 rfl) ?_
                            refine lv_iload_n hx hb dL_law_541 rfl (lv_at hl 3 rfl) ?_
                            refine lv_iconst (v := 2) hx hb dL_law_542 (by decide) ?_
                            refine lv_iadd hx hb dL_law_543 ?_
                            refine va_sld hx hb hX hbl hbA hS hi2 dL_law_544 ?_
                            refine lv_aload_n hx hb dL_law_545 rfl (lv_at hl 0 rfl) ?_
                            refine lv_iload_n hx hb dL_law_546 rfl (lv_at hl 3 rfl) ?_
                            refine lv_iconst (v := 3) hx hb dL_law_547 (by decide) ?_
                            refine lv_iadd hx hb dL_law_548 ?_
                            refine va_sld hx hb hX hbl hbA hS hi3 dL_law_549 ?_
                            refine x_calli (r := r) (I2 := I2) (J2 := J) (x_runV (As := [.int (xs (x3 + 1).toNatClampNeg), .int (xs (x3 + 2).toNatClampNeg), .int (xs (x3 + 3).toNatClampNeg)]) (rest := []) ⟨hx, hb, hml, hown, hts⟩ (c_X8_lease l G hG I J (xs (x3 + 1).toNatClampNeg) (xs (x3 + 2).toNatClampNeg) (xs (x3 + 3).toNatClampNeg) hf1) (cwV 3 hts gL_law_X8_lease rfl rfl rfl (by decide +kernel) ⟨Nat.le_of_ble_eq_true rfl, Nat.le_of_ble_eq_true rfl⟩) hK hP zkL_0 (by decide) rfl rfl hl.1 rfl (Nat.le_of_ble_eq_true rfl) dL_law_550 ⟨Nat.le_of_ble_eq_true rfl, Nat.le_of_ble_eq_true rfl⟩) hS (fun H locs hP hS => ?_)
                            refine lv_aload_n hx hb dL_law_553 rfl (lv_at hl 2 rfl) ?_
                            refine lv_aload_n hx hb dL_law_554 rfl (lv_at hl 0 rfl) ?_
                            refine lv_iload_n hx hb dL_law_555 rfl (lv_at hl 3 rfl) ?_
                            refine lv_iconst (v := 1) hx hb dL_law_556 (by decide) ?_
                            refine lv_iadd hx hb dL_law_557 ?_
                            refine va_sld hx hb hX hbl hbA hS hi1 dL_law_558 ?_
                            refine lv_aload_n hx hb dL_law_559 rfl (lv_at hl 0 rfl) ?_
                            refine lv_iload_n hx hb dL_law_560 rfl (lv_at hl 3 rfl) ?_
                            refine lv_iconst (v := 2) hx hb dL_law_561 (by decide) ?_
                            refine lv_iadd hx hb dL_law_562 ?_
                            refine va_sld hx hb hX hbl hbA hS hi2 dL_law_563 ?_
                            refine lv_aload_n hx hb dL_law_564 rfl (lv_at hl 0 rfl) ?_
                            refine lv_iload_n hx hb dL_law_565 rfl (lv_at hl 3 rfl) ?_
                            refine lv_iconst (v := 3) hx hb dL_law_566 (by decide) ?_
                            refine lv_iadd hx hb dL_law_567 ?_
                            refine va_sld hx hb hX hbl hbA hS hi3 dL_law_568 ?_
                            refine x_calli (r := r) (I2 := I2) (J2 := J2) (x_runV (As := [.int (xs (x3 + 1).toNatClampNeg), .int (xs (x3 + 2).toNatClampNeg), .int (xs (x3 + 3).toNatClampNeg)]) (rest := [.int r]) ⟨hx, hb, hml, hown, hts⟩ (c_X9_lease l G hG I2 J (xs (x3 + 1).toNatClampNeg) (xs (x3 + 2).toNatClampNeg) (xs (x3 + 3).toNatClampNeg) hf2) (cwV 3 hts gL_law_X9_lease rfl rfl rfl (by decide +kernel) ⟨Nat.le_of_ble_eq_true rfl, Nat.le_of_ble_eq_true rfl⟩) hK hP zkL_359 (by decide) rfl rfl hl.1 rfl (Nat.le_of_ble_eq_true rfl) dL_law_569 ⟨Nat.le_of_ble_eq_true rfl, Nat.le_of_ble_eq_true rfl⟩) hS (fun H locs hP hS => ?_)
                            refine lv_icmp_eq (tgt := 1236) hx hb dL_law_572 (by decide) (fun _ => ?_) (fun c9 => absurd rfl c9)
                            exact hnext I2 J2 H locs ls hI2 hP hS hl
                          · skip
                            rcases Classical.em (x = 11) with c11 | c11
                            · refine lv_tableIn (off := 545) (tgt := 577) hx hb dL_law_32 (by rw [c11]; decide) (by rw [c11]; decide) (by rw [c11]; decide) (by decide) ?_
                              obtain ⟨r, I2, J2, hf1, hf2, hI2⟩ := hst.2.2.2.2.2.2.2.2.2.2.2.2.1 n I J (xs (x3 + 1).toNatClampNeg) (xs (x3 + 2).toNatClampNeg) (xs (x3 + 3).toNatClampNeg) hn512 hI
                              refine lv_aload_n hx hb dL_law_577 rfl (lv_at hl 1 rfl) ?_
                              refine lv_aload_n hx hb dL_law_578 rfl (lv_at hl 0 rfl) ?_
                              refine lv_iload_n hx hb dL_law_579 rfl (lv_at hl 3 rfl) ?_
                              refine lv_iconst (v := 1) hx hb dL_law_580 (by decide) ?_
                              refine lv_iadd hx hb dL_law_581 ?_
                              refine va_sld hx hb hX hbl hbA hS hi1 dL_law_582 ?_
                              refine lv_aload_n hx hb dL_law_583 rfl (lv_at hl 0 rfl) ?_
                              refine lv_iload_n hx hb dL_law_584 rfl (lv_at hl 3 rfl) ?_
                              refine lv_iconst (v := 2) hx hb dL_law_585 (by decide) ?_
                              refine lv_iadd hx hb dL_law_586 ?_
                              refine va_sld hx hb hX hbl hbA hS hi2 dL_law_587 ?_
                              refine lv_aload_n hx hb dL_law_588 rfl (lv_at hl 0 rfl) ?_
                              refine lv_iload_n hx hb dL_law_589 rfl (lv_at hl 3 rfl) ?_
                              refine lv_iconst (v := 3) hx hb dL_law_590 (by decide) ?_
                              refine lv_iadd hx hb dL_law_591 ?_
                              refine va_sld hx hb hX hbl hbA hS hi3 dL_law_592 ?_
                              refine x_calli (r := r) (I2 := I2) (J2 := J) (x_runV (As := [.int (xs (x3 + 1).toNatClampNeg), .int (xs (x3 + 2).toNatClampNeg), .int (xs (x3 + 3).toNatClampNeg)]) (rest := []) ⟨hx, hb, hml, hown, hts⟩ (c_X8_claim l G hG I J (xs (x3 + 1).toNatClampNeg) (xs (x3 + 2).toNatClampNeg) (xs (x3 + 3).toNatClampNeg) hf1) (cwV 3 hts gL_law_X8_claim rfl rfl rfl (by decide +kernel) ⟨Nat.le_of_ble_eq_true rfl, Nat.le_of_ble_eq_true rfl⟩) hK hP zkL_0 (by decide) rfl rfl hl.1 rfl (Nat.le_of_ble_eq_true rfl) dL_law_593 ⟨Nat.le_of_ble_eq_true rfl, Nat.le_of_ble_eq_true rfl⟩) hS (fun H locs hP hS => ?_)
                              refine lv_aload_n hx hb dL_law_596 rfl (lv_at hl 2 rfl) ?_
                              refine lv_aload_n hx hb dL_law_597 rfl (lv_at hl 0 rfl) ?_
                              refine lv_iload_n hx hb dL_law_598 rfl (lv_at hl 3 rfl) ?_
                              refine lv_iconst (v := 1) hx hb dL_law_599 (by decide) ?_
                              refine lv_iadd hx hb dL_law_600 ?_
                              refine va_sld hx hb hX hbl hbA hS hi1 dL_law_601 ?_
                              refine lv_aload_n hx hb dL_law_602 rfl (lv_at hl 0 rfl) ?_
                              refine lv_iload_n hx hb dL_law_603 rfl (lv_at hl 3 rfl) ?_
                              refine lv_iconst (v := 2) hx hb dL_law_604 (by decide) ?_
                              refine lv_iadd hx hb dL_law_605 ?_
                              refine va_sld hx hb hX hbl hbA hS hi2 dL_law_606 ?_
                              refine lv_aload_n hx hb dL_law_607 rfl (lv_at hl 0 rfl) ?_
                              refine lv_iload_n hx hb dL_law_608 rfl (lv_at hl 3 rfl) ?_
                              refine lv_iconst (v := 3) hx hb dL_law_609 (by decide) ?_
                              refine lv_iadd hx hb dL_law_610 ?_
                              refine va_sld hx hb hX hbl hbA hS hi3 dL_law_611 ?_
                              refine x_calli (r := r) (I2 := I2) (J2 := J2) (x_runV (As := [.int (xs (x3 + 1).toNatClampNeg), .int (xs (x3 + 2).toNatClampNeg), .int (xs (x3 + 3).toNatClampNeg)]) (rest := [.int r]) ⟨hx, hb, hml, hown, hts⟩ (c_X9_claim l G hG I2 J (xs (x3 + 1).toNatClampNeg) (xs (x3 + 2).toNatClampNeg) (xs (x3 + 3).toNatClampNeg) hf2) (cwV 3 hts gL_law_X9_claim rfl rfl rfl (by decide +kernel) ⟨Nat.le_of_ble_eq_true rfl, Nat.le_of_ble_eq_true rfl⟩) hK hP zkL_359 (by decide) rfl rfl hl.1 rfl (Nat.le_of_ble_eq_true rfl) dL_law_612 ⟨Nat.le_of_ble_eq_true rfl, Nat.le_of_ble_eq_true rfl⟩) hS (fun H locs hP hS => ?_)
                              refine lv_icmp_eq (tgt := 1236) hx hb dL_law_615 (by decide) (fun _ => ?_) (fun c9 => absurd rfl c9)
                              exact hnext I2 J2 H locs ls hI2 hP hS hl
                            · skip
                              rcases Classical.em (x = 12) with c12 | c12
                              · refine lv_tableIn (off := 588) (tgt := 620) hx hb dL_law_32 (by rw [c12]; decide) (by rw [c12]; decide) (by rw [c12]; decide) (by decide) ?_
                                obtain ⟨r, I2, J2, hf1, hf2, hI2⟩ := hst.2.2.2.2.2.2.2.2.2.2.2.2.2.1 n I J (xs (x3 + 1).toNatClampNeg) (xs (x3 + 2).toNatClampNeg) hn512 hI
                                refine lv_aload_n hx hb dL_law_620 rfl (lv_at hl 1 rfl) ?_
                                refine lv_aload_n hx hb dL_law_621 rfl (lv_at hl 0 rfl) ?_
                                refine lv_iload_n hx hb dL_law_622 rfl (lv_at hl 3 rfl) ?_
                                refine lv_iconst (v := 1) hx hb dL_law_623 (by decide) ?_
                                refine lv_iadd hx hb dL_law_624 ?_
                                refine va_sld hx hb hX hbl hbA hS hi1 dL_law_625 ?_
                                refine lv_aload_n hx hb dL_law_626 rfl (lv_at hl 0 rfl) ?_
                                refine lv_iload_n hx hb dL_law_627 rfl (lv_at hl 3 rfl) ?_
                                refine lv_iconst (v := 2) hx hb dL_law_628 (by decide) ?_
                                refine lv_iadd hx hb dL_law_629 ?_
                                refine va_sld hx hb hX hbl hbA hS hi2 dL_law_630 ?_
                                refine x_calli (r := r) (I2 := I2) (J2 := J) (x_runV (As := [.int (xs (x3 + 1).toNatClampNeg), .int (xs (x3 + 2).toNatClampNeg)]) (rest := []) ⟨hx, hb, hml, hown, hts⟩ (c_X8_waive l G hG I J (xs (x3 + 1).toNatClampNeg) (xs (x3 + 2).toNatClampNeg) hf1) (cwV 2 hts gL_law_X8_waive rfl rfl rfl (by decide +kernel) ⟨Nat.le_of_ble_eq_true rfl, Nat.le_of_ble_eq_true rfl⟩) hK hP zkL_0 (by decide) rfl rfl hl.1 rfl (Nat.le_of_ble_eq_true rfl) dL_law_631 ⟨Nat.le_of_ble_eq_true rfl, Nat.le_of_ble_eq_true rfl⟩) hS (fun H locs hP hS => ?_)
                                refine lv_aload_n hx hb dL_law_634 rfl (lv_at hl 2 rfl) ?_
                                refine lv_aload_n hx hb dL_law_635 rfl (lv_at hl 0 rfl) ?_
                                refine lv_iload_n hx hb dL_law_636 rfl (lv_at hl 3 rfl) ?_
                                refine lv_iconst (v := 1) hx hb dL_law_637 (by decide) ?_
                                refine lv_iadd hx hb dL_law_638 ?_
                                refine va_sld hx hb hX hbl hbA hS hi1 dL_law_639 ?_
                                refine lv_aload_n hx hb dL_law_640 rfl (lv_at hl 0 rfl) ?_
                                refine lv_iload_n hx hb dL_law_641 rfl (lv_at hl 3 rfl) ?_
                                refine lv_iconst (v := 2) hx hb dL_law_642 (by decide) ?_
                                refine lv_iadd hx hb dL_law_643 ?_
                                refine va_sld hx hb hX hbl hbA hS hi2 dL_law_644 ?_
                                refine x_calli (r := r) (I2 := I2) (J2 := J2) (x_runV (As := [.int (xs (x3 + 1).toNatClampNeg), .int (xs (x3 + 2).toNatClampNeg)]) (rest := [.int r]) ⟨hx, hb, hml, hown, hts⟩ (c_X9_waive l G hG I2 J (xs (x3 + 1).toNatClampNeg) (xs (x3 + 2).toNatClampNeg) hf2) (cwV 2 hts gL_law_X9_waive rfl rfl rfl (by decide +kernel) ⟨Nat.le_of_ble_eq_true rfl, Nat.le_of_ble_eq_true rfl⟩) hK hP zkL_359 (by decide) rfl rfl hl.1 rfl (Nat.le_of_ble_eq_true rfl) dL_law_645 ⟨Nat.le_of_ble_eq_true rfl, Nat.le_of_ble_eq_true rfl⟩) hS (fun H locs hP hS => ?_)
                                refine lv_icmp_eq (tgt := 1236) hx hb dL_law_648 (by decide) (fun _ => ?_) (fun c9 => absurd rfl c9)
                                exact hnext I2 J2 H locs ls hI2 hP hS hl
                              · skip
                                rcases Classical.em (x = 13) with c13 | c13
                                · refine lv_tableIn (off := 621) (tgt := 653) hx hb dL_law_32 (by rw [c13]; decide) (by rw [c13]; decide) (by rw [c13]; decide) (by decide) ?_
                                  obtain ⟨r, I2, J2, hf1, hf2, hI2⟩ := hst.2.2.2.2.2.2.2.2.2.2.2.2.2.2.1 n I J (xs (x3 + 1).toNatClampNeg) hn512 hI
                                  refine lv_aload_n hx hb dL_law_653 rfl (lv_at hl 1 rfl) ?_
                                  refine lv_aload_n hx hb dL_law_654 rfl (lv_at hl 0 rfl) ?_
                                  refine lv_iload_n hx hb dL_law_655 rfl (lv_at hl 3 rfl) ?_
                                  refine lv_iconst (v := 1) hx hb dL_law_656 (by decide) ?_
                                  refine lv_iadd hx hb dL_law_657 ?_
                                  refine va_sld hx hb hX hbl hbA hS hi1 dL_law_658 ?_
                                  refine x_calli (r := r) (I2 := I2) (J2 := J) (x_runV (As := [.int (xs (x3 + 1).toNatClampNeg)]) (rest := []) ⟨hx, hb, hml, hown, hts⟩ (c_X8_returned l G hG I J (xs (x3 + 1).toNatClampNeg) hf1) (cwV 1 hts gL_law_X8_returned rfl rfl rfl (by decide +kernel) ⟨Nat.le_of_ble_eq_true rfl, Nat.le_of_ble_eq_true rfl⟩) hK hP zkL_0 (by decide) rfl rfl hl.1 rfl (Nat.le_of_ble_eq_true rfl) dL_law_659 ⟨Nat.le_of_ble_eq_true rfl, Nat.le_of_ble_eq_true rfl⟩) hS (fun H locs hP hS => ?_)
                                  refine lv_aload_n hx hb dL_law_662 rfl (lv_at hl 2 rfl) ?_
                                  refine lv_aload_n hx hb dL_law_663 rfl (lv_at hl 0 rfl) ?_
                                  refine lv_iload_n hx hb dL_law_664 rfl (lv_at hl 3 rfl) ?_
                                  refine lv_iconst (v := 1) hx hb dL_law_665 (by decide) ?_
                                  refine lv_iadd hx hb dL_law_666 ?_
                                  refine va_sld hx hb hX hbl hbA hS hi1 dL_law_667 ?_
                                  refine x_calli (r := r) (I2 := I2) (J2 := J2) (x_runV (As := [.int (xs (x3 + 1).toNatClampNeg)]) (rest := [.int r]) ⟨hx, hb, hml, hown, hts⟩ (c_X9_returned l G hG I2 J (xs (x3 + 1).toNatClampNeg) hf2) (cwV 1 hts gL_law_X9_returned rfl rfl rfl (by decide +kernel) ⟨Nat.le_of_ble_eq_true rfl, Nat.le_of_ble_eq_true rfl⟩) hK hP zkL_359 (by decide) rfl rfl hl.1 rfl (Nat.le_of_ble_eq_true rfl) dL_law_668 ⟨Nat.le_of_ble_eq_true rfl, Nat.le_of_ble_eq_true rfl⟩) hS (fun H locs hP hS => ?_)
                                  refine lv_icmp_eq (tgt := 1236) hx hb dL_law_671 (by decide) (fun _ => ?_) (fun c9 => absurd rfl c9)
                                  exact hnext I2 J2 H locs ls hI2 hP hS hl
                                · skip
                                  rcases Classical.em (x = 14) with c14 | c14
                                  · refine lv_tableIn (off := 644) (tgt := 676) hx hb dL_law_32 (by rw [c14]; decide) (by rw [c14]; decide) (by rw [c14]; decide) (by decide) ?_
                                    obtain ⟨r, I2, J2, hf1, hf2, hI2⟩ := hst.2.2.2.2.2.2.2.2.2.2.2.2.2.2.2.1 n I J (xs (x3 + 1).toNatClampNeg) (xs (x3 + 2).toNatClampNeg) hn512 hI
                                    refine lv_aload_n hx hb dL_law_676 rfl (lv_at hl 1 rfl) ?_
                                    refine lv_aload_n hx hb dL_law_677 rfl (lv_at hl 0 rfl) ?_
                                    refine lv_iload_n hx hb dL_law_678 rfl (lv_at hl 3 rfl) ?_
                                    refine lv_iconst (v := 1) hx hb dL_law_679 (by decide) ?_
                                    refine lv_iadd hx hb dL_law_680 ?_
                                    refine va_sld hx hb hX hbl hbA hS hi1 dL_law_681 ?_
                                    refine lv_aload_n hx hb dL_law_682 rfl (lv_at hl 0 rfl) ?_
                                    refine lv_iload_n hx hb dL_law_683 rfl (lv_at hl 3 rfl) ?_
                                    refine lv_iconst (v := 2) hx hb dL_law_684 (by decide) ?_
                                    refine lv_iadd hx hb dL_law_685 ?_
                                    refine va_sld hx hb hX hbl hbA hS hi2 dL_law_686 ?_
                                    refine x_calli (r := r) (I2 := I2) (J2 := J) (x_runV (As := [.int (xs (x3 + 1).toNatClampNeg), .int (xs (x3 + 2).toNatClampNeg)]) (rest := []) ⟨hx, hb, hml, hown, hts⟩ (c_X8_pass l G hG I J (xs (x3 + 1).toNatClampNeg) (xs (x3 + 2).toNatClampNeg) hf1) (cwV 2 hts gL_law_X8_pass rfl rfl rfl (by decide +kernel) ⟨Nat.le_of_ble_eq_true rfl, Nat.le_of_ble_eq_true rfl⟩) hK hP zkL_0 (by decide) rfl rfl hl.1 rfl (Nat.le_of_ble_eq_true rfl) dL_law_687 ⟨Nat.le_of_ble_eq_true rfl, Nat.le_of_ble_eq_true rfl⟩) hS (fun H locs hP hS => ?_)
                                    refine lv_aload_n hx hb dL_law_690 rfl (lv_at hl 2 rfl) ?_
                                    refine lv_aload_n hx hb dL_law_691 rfl (lv_at hl 0 rfl) ?_
                                    refine lv_iload_n hx hb dL_law_692 rfl (lv_at hl 3 rfl) ?_
                                    refine lv_iconst (v := 1) hx hb dL_law_693 (by decide) ?_
                                    refine lv_iadd hx hb dL_law_694 ?_
                                    refine va_sld hx hb hX hbl hbA hS hi1 dL_law_695 ?_
                                    refine lv_aload_n hx hb dL_law_696 rfl (lv_at hl 0 rfl) ?_
                                    refine lv_iload_n hx hb dL_law_697 rfl (lv_at hl 3 rfl) ?_
                                    refine lv_iconst (v := 2) hx hb dL_law_698 (by decide) ?_
                                    refine lv_iadd hx hb dL_law_699 ?_
                                    refine va_sld hx hb hX hbl hbA hS hi2 dL_law_700 ?_
                                    refine x_calli (r := r) (I2 := I2) (J2 := J2) (x_runV (As := [.int (xs (x3 + 1).toNatClampNeg), .int (xs (x3 + 2).toNatClampNeg)]) (rest := [.int r]) ⟨hx, hb, hml, hown, hts⟩ (c_X9_pass l G hG I2 J (xs (x3 + 1).toNatClampNeg) (xs (x3 + 2).toNatClampNeg) hf2) (cwV 2 hts gL_law_X9_pass rfl rfl rfl (by decide +kernel) ⟨Nat.le_of_ble_eq_true rfl, Nat.le_of_ble_eq_true rfl⟩) hK hP zkL_359 (by decide) rfl rfl hl.1 rfl (Nat.le_of_ble_eq_true rfl) dL_law_701 ⟨Nat.le_of_ble_eq_true rfl, Nat.le_of_ble_eq_true rfl⟩) hS (fun H locs hP hS => ?_)
                                    refine lv_icmp_eq (tgt := 1236) hx hb dL_law_704 (by decide) (fun _ => ?_) (fun c9 => absurd rfl c9)
                                    exact hnext I2 J2 H locs ls hI2 hP hS hl
                                  · skip
                                    rcases Classical.em (x = 15) with c15 | c15
                                    · refine lv_tableIn (off := 677) (tgt := 709) hx hb dL_law_32 (by rw [c15]; decide) (by rw [c15]; decide) (by rw [c15]; decide) (by decide) ?_
                                      obtain ⟨r, I2, J2, hf1, hf2, hI2⟩ := hst.2.2.2.2.2.2.2.2.2.2.2.2.2.2.2.2.1 n I J (xs (x3 + 1).toNatClampNeg) (xs (x3 + 2).toNatClampNeg) hn512 hI
                                      refine lv_aload_n hx hb dL_law_709 rfl (lv_at hl 1 rfl) ?_
                                      refine lv_aload_n hx hb dL_law_710 rfl (lv_at hl 0 rfl) ?_
                                      refine lv_iload_n hx hb dL_law_711 rfl (lv_at hl 3 rfl) ?_
                                      refine lv_iconst (v := 1) hx hb dL_law_712 (by decide) ?_
                                      refine lv_iadd hx hb dL_law_713 ?_
                                      refine va_sld hx hb hX hbl hbA hS hi1 dL_law_714 ?_
                                      refine lv_aload_n hx hb dL_law_715 rfl (lv_at hl 0 rfl) ?_
                                      refine lv_iload_n hx hb dL_law_716 rfl (lv_at hl 3 rfl) ?_
                                      refine lv_iconst (v := 2) hx hb dL_law_717 (by decide) ?_
                                      refine lv_iadd hx hb dL_law_718 ?_
                                      refine va_sld hx hb hX hbl hbA hS hi2 dL_law_719 ?_
                                      refine x_calli (r := r) (I2 := I2) (J2 := J) (x_runV (As := [.int (xs (x3 + 1).toNatClampNeg), .int (xs (x3 + 2).toNatClampNeg)]) (rest := []) ⟨hx, hb, hml, hown, hts⟩ (c_X8_swap l G hG I J (xs (x3 + 1).toNatClampNeg) (xs (x3 + 2).toNatClampNeg) hf1) (cwV 2 hts gL_law_X8_swap rfl rfl rfl (by decide +kernel) ⟨Nat.le_of_ble_eq_true rfl, Nat.le_of_ble_eq_true rfl⟩) hK hP zkL_0 (by decide) rfl rfl hl.1 rfl (Nat.le_of_ble_eq_true rfl) dL_law_720 ⟨Nat.le_of_ble_eq_true rfl, Nat.le_of_ble_eq_true rfl⟩) hS (fun H locs hP hS => ?_)
                                      refine lv_aload_n hx hb dL_law_723 rfl (lv_at hl 2 rfl) ?_
                                      refine lv_aload_n hx hb dL_law_724 rfl (lv_at hl 0 rfl) ?_
                                      refine lv_iload_n hx hb dL_law_725 rfl (lv_at hl 3 rfl) ?_
                                      refine lv_iconst (v := 1) hx hb dL_law_726 (by decide) ?_
                                      refine lv_iadd hx hb dL_law_727 ?_
                                      refine va_sld hx hb hX hbl hbA hS hi1 dL_law_728 ?_
                                      refine lv_aload_n hx hb dL_law_729 rfl (lv_at hl 0 rfl) ?_
                                      refine lv_iload_n hx hb dL_law_730 rfl (lv_at hl 3 rfl) ?_
                                      refine lv_iconst (v := 2) hx hb dL_law_731 (by decide) ?_
                                      refine lv_iadd hx hb dL_law_732 ?_
                                      refine va_sld hx hb hX hbl hbA hS hi2 dL_law_733 ?_
                                      refine x_calli (r := r) (I2 := I2) (J2 := J2) (x_runV (As := [.int (xs (x3 + 1).toNatClampNeg), .int (xs (x3 + 2).toNatClampNeg)]) (rest := [.int r]) ⟨hx, hb, hml, hown, hts⟩ (c_X9_swap l G hG I2 J (xs (x3 + 1).toNatClampNeg) (xs (x3 + 2).toNatClampNeg) hf2) (cwV 2 hts gL_law_X9_swap rfl rfl rfl (by decide +kernel) ⟨Nat.le_of_ble_eq_true rfl, Nat.le_of_ble_eq_true rfl⟩) hK hP zkL_359 (by decide) rfl rfl hl.1 rfl (Nat.le_of_ble_eq_true rfl) dL_law_734 ⟨Nat.le_of_ble_eq_true rfl, Nat.le_of_ble_eq_true rfl⟩) hS (fun H locs hP hS => ?_)
                                      refine lv_icmp_eq (tgt := 1236) hx hb dL_law_737 (by decide) (fun _ => ?_) (fun c9 => absurd rfl c9)
                                      exact hnext I2 J2 H locs ls hI2 hP hS hl
                                    · skip
                                      rcases Classical.em (x = 16) with c16 | c16
                                      · refine lv_tableIn (off := 710) (tgt := 742) hx hb dL_law_32 (by rw [c16]; decide) (by rw [c16]; decide) (by rw [c16]; decide) (by decide) ?_
                                        obtain ⟨r, I2, J2, hf1, hf2, hI2⟩ := hst.2.2.2.2.2.2.2.2.2.2.2.2.2.2.2.2.2.1 n I J (xs (x3 + 1).toNatClampNeg) (xs (x3 + 2).toNatClampNeg) hn512 hI
                                        refine lv_aload_n hx hb dL_law_742 rfl (lv_at hl 1 rfl) ?_
                                        refine lv_aload_n hx hb dL_law_743 rfl (lv_at hl 0 rfl) ?_
                                        refine lv_iload_n hx hb dL_law_744 rfl (lv_at hl 3 rfl) ?_
                                        refine lv_iconst (v := 1) hx hb dL_law_745 (by decide) ?_
                                        refine lv_iadd hx hb dL_law_746 ?_
                                        refine va_sld hx hb hX hbl hbA hS hi1 dL_law_747 ?_
                                        refine lv_aload_n hx hb dL_law_748 rfl (lv_at hl 0 rfl) ?_
                                        refine lv_iload_n hx hb dL_law_749 rfl (lv_at hl 3 rfl) ?_
                                        refine lv_iconst (v := 2) hx hb dL_law_750 (by decide) ?_
                                        refine lv_iadd hx hb dL_law_751 ?_
                                        refine va_sld hx hb hX hbl hbA hS hi2 dL_law_752 ?_
                                        refine x_calli (r := r) (I2 := I2) (J2 := J) (x_runV (As := [.int (xs (x3 + 1).toNatClampNeg), .int (xs (x3 + 2).toNatClampNeg)]) (rest := []) ⟨hx, hb, hml, hown, hts⟩ (c_X8_use l G hG I J (xs (x3 + 1).toNatClampNeg) (xs (x3 + 2).toNatClampNeg) hf1) (cwV 2 hts gL_law_X8_use rfl rfl rfl (by decide +kernel) ⟨Nat.le_of_ble_eq_true rfl, Nat.le_of_ble_eq_true rfl⟩) hK hP zkL_0 (by decide) rfl rfl hl.1 rfl (Nat.le_of_ble_eq_true rfl) dL_law_753 ⟨Nat.le_of_ble_eq_true rfl, Nat.le_of_ble_eq_true rfl⟩) hS (fun H locs hP hS => ?_)
                                        refine lv_aload_n hx hb dL_law_756 rfl (lv_at hl 2 rfl) ?_
                                        refine lv_aload_n hx hb dL_law_757 rfl (lv_at hl 0 rfl) ?_
                                        refine lv_iload_n hx hb dL_law_758 rfl (lv_at hl 3 rfl) ?_
                                        refine lv_iconst (v := 1) hx hb dL_law_759 (by decide) ?_
                                        refine lv_iadd hx hb dL_law_760 ?_
                                        refine va_sld hx hb hX hbl hbA hS hi1 dL_law_761 ?_
                                        refine lv_aload_n hx hb dL_law_762 rfl (lv_at hl 0 rfl) ?_
                                        refine lv_iload_n hx hb dL_law_763 rfl (lv_at hl 3 rfl) ?_
                                        refine lv_iconst (v := 2) hx hb dL_law_764 (by decide) ?_
                                        refine lv_iadd hx hb dL_law_765 ?_
                                        refine va_sld hx hb hX hbl hbA hS hi2 dL_law_766 ?_
                                        refine x_calli (r := r) (I2 := I2) (J2 := J2) (x_runV (As := [.int (xs (x3 + 1).toNatClampNeg), .int (xs (x3 + 2).toNatClampNeg)]) (rest := [.int r]) ⟨hx, hb, hml, hown, hts⟩ (c_X9_use l G hG I2 J (xs (x3 + 1).toNatClampNeg) (xs (x3 + 2).toNatClampNeg) hf2) (cwV 2 hts gL_law_X9_use rfl rfl rfl (by decide +kernel) ⟨Nat.le_of_ble_eq_true rfl, Nat.le_of_ble_eq_true rfl⟩) hK hP zkL_359 (by decide) rfl rfl hl.1 rfl (Nat.le_of_ble_eq_true rfl) dL_law_767 ⟨Nat.le_of_ble_eq_true rfl, Nat.le_of_ble_eq_true rfl⟩) hS (fun H locs hP hS => ?_)
                                        refine lv_icmp_eq (tgt := 1236) hx hb dL_law_770 (by decide) (fun _ => ?_) (fun c9 => absurd rfl c9)
                                        exact hnext I2 J2 H locs ls hI2 hP hS hl
                                      · skip
                                        rcases Classical.em (x = 17) with c17 | c17
                                        · refine lv_tableIn (off := 743) (tgt := 775) hx hb dL_law_32 (by rw [c17]; decide) (by rw [c17]; decide) (by rw [c17]; decide) (by decide) ?_
                                          obtain ⟨r, I2, J2, hf1, hf2, hI2⟩ := hst.2.2.2.2.2.2.2.2.2.2.2.2.2.2.2.2.2.2.1 n I J (xs (x3 + 1).toNatClampNeg) hn512 hI
                                          refine lv_aload_n hx hb dL_law_775 rfl (lv_at hl 1 rfl) ?_
                                          refine lv_aload_n hx hb dL_law_776 rfl (lv_at hl 0 rfl) ?_
                                          refine lv_iload_n hx hb dL_law_777 rfl (lv_at hl 3 rfl) ?_
                                          refine lv_iconst (v := 1) hx hb dL_law_778 (by decide) ?_
                                          refine lv_iadd hx hb dL_law_779 ?_
                                          refine va_sld hx hb hX hbl hbA hS hi1 dL_law_780 ?_
                                          refine x_calli (r := r) (I2 := I2) (J2 := J) (x_runV (As := [.int (xs (x3 + 1).toNatClampNeg)]) (rest := []) ⟨hx, hb, hml, hown, hts⟩ (c_X8_look l G hG I J (xs (x3 + 1).toNatClampNeg) hf1) (cwV 1 hts gL_law_X8_look rfl rfl rfl (by decide +kernel) ⟨Nat.le_of_ble_eq_true rfl, Nat.le_of_ble_eq_true rfl⟩) hK hP zkL_0 (by decide) rfl rfl hl.1 rfl (Nat.le_of_ble_eq_true rfl) dL_law_781 ⟨Nat.le_of_ble_eq_true rfl, Nat.le_of_ble_eq_true rfl⟩) hS (fun H locs hP hS => ?_)
                                          refine lv_aload_n hx hb dL_law_784 rfl (lv_at hl 2 rfl) ?_
                                          refine lv_aload_n hx hb dL_law_785 rfl (lv_at hl 0 rfl) ?_
                                          refine lv_iload_n hx hb dL_law_786 rfl (lv_at hl 3 rfl) ?_
                                          refine lv_iconst (v := 1) hx hb dL_law_787 (by decide) ?_
                                          refine lv_iadd hx hb dL_law_788 ?_
                                          refine va_sld hx hb hX hbl hbA hS hi1 dL_law_789 ?_
                                          refine x_calli (r := r) (I2 := I2) (J2 := J2) (x_runV (As := [.int (xs (x3 + 1).toNatClampNeg)]) (rest := [.int r]) ⟨hx, hb, hml, hown, hts⟩ (c_X9_look l G hG I2 J (xs (x3 + 1).toNatClampNeg) hf2) (cwV 1 hts gL_law_X9_look rfl rfl rfl (by decide +kernel) ⟨Nat.le_of_ble_eq_true rfl, Nat.le_of_ble_eq_true rfl⟩) hK hP zkL_359 (by decide) rfl rfl hl.1 rfl (Nat.le_of_ble_eq_true rfl) dL_law_790 ⟨Nat.le_of_ble_eq_true rfl, Nat.le_of_ble_eq_true rfl⟩) hS (fun H locs hP hS => ?_)
                                          refine lv_icmp_eq (tgt := 1236) hx hb dL_law_793 (by decide) (fun _ => ?_) (fun c9 => absurd rfl c9)
                                          exact hnext I2 J2 H locs ls hI2 hP hS hl
                                        · skip
                                          rcases Classical.em (x = 18) with c18 | c18
                                          · refine lv_tableIn (off := 766) (tgt := 798) hx hb dL_law_32 (by rw [c18]; decide) (by rw [c18]; decide) (by rw [c18]; decide) (by decide) ?_
                                            obtain ⟨r, I2, J2, hf1, hf2, hI2⟩ := hst.2.2.2.2.2.2.2.2.2.2.2.2.2.2.2.2.2.2.2.1 n I J (xs (x3 + 1).toNatClampNeg) hn512 hI
                                            refine lv_aload_n hx hb dL_law_798 rfl (lv_at hl 1 rfl) ?_
                                            refine lv_aload_n hx hb dL_law_799 rfl (lv_at hl 0 rfl) ?_
                                            refine lv_iload_n hx hb dL_law_800 rfl (lv_at hl 3 rfl) ?_
                                            refine lv_iconst (v := 1) hx hb dL_law_801 (by decide) ?_
                                            refine lv_iadd hx hb dL_law_802 ?_
                                            refine va_sld hx hb hX hbl hbA hS hi1 dL_law_803 ?_
                                            refine x_calli (r := r) (I2 := I2) (J2 := J) (x_runV (As := [.int (xs (x3 + 1).toNatClampNeg)]) (rest := []) ⟨hx, hb, hml, hown, hts⟩ (c_X8_days l G hG I J (xs (x3 + 1).toNatClampNeg) hf1) (cwV 1 hts gL_law_X8_days rfl rfl rfl (by decide +kernel) ⟨Nat.le_of_ble_eq_true rfl, Nat.le_of_ble_eq_true rfl⟩) hK hP zkL_0 (by decide) rfl rfl hl.1 rfl (Nat.le_of_ble_eq_true rfl) dL_law_804 ⟨Nat.le_of_ble_eq_true rfl, Nat.le_of_ble_eq_true rfl⟩) hS (fun H locs hP hS => ?_)
                                            refine lv_aload_n hx hb dL_law_807 rfl (lv_at hl 2 rfl) ?_
                                            refine lv_aload_n hx hb dL_law_808 rfl (lv_at hl 0 rfl) ?_
                                            refine lv_iload_n hx hb dL_law_809 rfl (lv_at hl 3 rfl) ?_
                                            refine lv_iconst (v := 1) hx hb dL_law_810 (by decide) ?_
                                            refine lv_iadd hx hb dL_law_811 ?_
                                            refine va_sld hx hb hX hbl hbA hS hi1 dL_law_812 ?_
                                            refine x_calli (r := r) (I2 := I2) (J2 := J2) (x_runV (As := [.int (xs (x3 + 1).toNatClampNeg)]) (rest := [.int r]) ⟨hx, hb, hml, hown, hts⟩ (c_X9_days l G hG I2 J (xs (x3 + 1).toNatClampNeg) hf2) (cwV 1 hts gL_law_X9_days rfl rfl rfl (by decide +kernel) ⟨Nat.le_of_ble_eq_true rfl, Nat.le_of_ble_eq_true rfl⟩) hK hP zkL_359 (by decide) rfl rfl hl.1 rfl (Nat.le_of_ble_eq_true rfl) dL_law_813 ⟨Nat.le_of_ble_eq_true rfl, Nat.le_of_ble_eq_true rfl⟩) hS (fun H locs hP hS => ?_)
                                            refine lv_icmp_eq (tgt := 1236) hx hb dL_law_816 (by decide) (fun _ => ?_) (fun c9 => absurd rfl c9)
                                            exact hnext I2 J2 H locs ls hI2 hP hS hl
                                          · skip
                                            rcases Classical.em (x = 19) with c19 | c19
                                            · refine lv_tableIn (off := 789) (tgt := 821) hx hb dL_law_32 (by rw [c19]; decide) (by rw [c19]; decide) (by rw [c19]; decide) (by decide) ?_
                                              obtain ⟨r, hf1, hf2, hI2⟩ := hst.2.2.2.2.2.2.2.2.2.2.2.2.2.2.2.2.2.2.2.2.1 n I J (xs (x3 + 1).toNatClampNeg) hn512 hI
                                              refine lv_aload_n hx hb dL_law_821 rfl (lv_at hl 1 rfl) ?_
                                              refine lv_aload_n hx hb dL_law_822 rfl (lv_at hl 0 rfl) ?_
                                              refine lv_iload_n hx hb dL_law_823 rfl (lv_at hl 3 rfl) ?_
                                              refine lv_iconst (v := 1) hx hb dL_law_824 (by decide) ?_
                                              refine lv_iadd hx hb dL_law_825 ?_
                                              refine va_sld hx hb hX hbl hbA hS hi1 dL_law_826 ?_
                                              refine x_calli (r := r) (I2 := I) (J2 := J) (x_runV (As := [.int (xs (x3 + 1).toNatClampNeg)]) (rest := []) ⟨hx, hb, hml, hown, hts⟩ (c_X8_why l G hG I J (xs (x3 + 1).toNatClampNeg) hf1) (cwV 1 hts gL_law_X8_why rfl rfl rfl (by decide +kernel) ⟨Nat.le_of_ble_eq_true rfl, Nat.le_of_ble_eq_true rfl⟩) hK hP zkL_0 (by decide) rfl rfl hl.1 rfl (Nat.le_of_ble_eq_true rfl) dL_law_827 ⟨Nat.le_of_ble_eq_true rfl, Nat.le_of_ble_eq_true rfl⟩) hS (fun H locs hP hS => ?_)
                                              refine lv_aload_n hx hb dL_law_830 rfl (lv_at hl 2 rfl) ?_
                                              refine lv_aload_n hx hb dL_law_831 rfl (lv_at hl 0 rfl) ?_
                                              refine lv_iload_n hx hb dL_law_832 rfl (lv_at hl 3 rfl) ?_
                                              refine lv_iconst (v := 1) hx hb dL_law_833 (by decide) ?_
                                              refine lv_iadd hx hb dL_law_834 ?_
                                              refine va_sld hx hb hX hbl hbA hS hi1 dL_law_835 ?_
                                              refine x_calli (r := r) (I2 := I) (J2 := J) (x_runV (As := [.int (xs (x3 + 1).toNatClampNeg)]) (rest := [.int r]) ⟨hx, hb, hml, hown, hts⟩ (c_X9_why l G hG I J (xs (x3 + 1).toNatClampNeg) hf2) (cwV 1 hts gL_law_X9_why rfl rfl rfl (by decide +kernel) ⟨Nat.le_of_ble_eq_true rfl, Nat.le_of_ble_eq_true rfl⟩) hK hP zkL_359 (by decide) rfl rfl hl.1 rfl (Nat.le_of_ble_eq_true rfl) dL_law_836 ⟨Nat.le_of_ble_eq_true rfl, Nat.le_of_ble_eq_true rfl⟩) hS (fun H locs hP hS => ?_)
                                              refine lv_icmp_eq (tgt := 1236) hx hb dL_law_839 (by decide) (fun _ => ?_) (fun c9 => absurd rfl c9)
                                              exact hnext I J H locs ls hI2 hP hS hl
                                            · skip
                                              rcases Classical.em (x = 20) with c20 | c20
                                              · refine lv_tableIn (off := 812) (tgt := 844) hx hb dL_law_32 (by rw [c20]; decide) (by rw [c20]; decide) (by rw [c20]; decide) (by decide) ?_
                                                obtain ⟨r, I2, J2, hf1, hf2, hI2⟩ := hst.2.2.2.2.2.2.2.2.2.2.2.2.2.2.2.2.2.2.2.2.2.1 n I J (xs (x3 + 1).toNatClampNeg) (xs (x3 + 2).toNatClampNeg) hn512 hI
                                                refine lv_aload_n hx hb dL_law_844 rfl (lv_at hl 1 rfl) ?_
                                                refine lv_aload_n hx hb dL_law_845 rfl (lv_at hl 0 rfl) ?_
                                                refine lv_iload_n hx hb dL_law_846 rfl (lv_at hl 3 rfl) ?_
                                                refine lv_iconst (v := 1) hx hb dL_law_847 (by decide) ?_
                                                refine lv_iadd hx hb dL_law_848 ?_
                                                refine va_sld hx hb hX hbl hbA hS hi1 dL_law_849 ?_
                                                refine lv_aload_n hx hb dL_law_850 rfl (lv_at hl 0 rfl) ?_
                                                refine lv_iload_n hx hb dL_law_851 rfl (lv_at hl 3 rfl) ?_
                                                refine lv_iconst (v := 2) hx hb dL_law_852 (by decide) ?_
                                                refine lv_iadd hx hb dL_law_853 ?_
                                                refine va_sld hx hb hX hbl hbA hS hi2 dL_law_854 ?_
                                                refine x_calli (r := r) (I2 := I2) (J2 := J) (x_runV (As := [.int (xs (x3 + 1).toNatClampNeg), .int (xs (x3 + 2).toNatClampNeg)]) (rest := []) ⟨hx, hb, hml, hown, hts⟩ (c_X8_told l G hG I J (xs (x3 + 1).toNatClampNeg) (xs (x3 + 2).toNatClampNeg) hf1) (cwV 2 hts gL_law_X8_told rfl rfl rfl (by decide +kernel) ⟨Nat.le_of_ble_eq_true rfl, Nat.le_of_ble_eq_true rfl⟩) hK hP zkL_0 (by decide) rfl rfl hl.1 rfl (Nat.le_of_ble_eq_true rfl) dL_law_855 ⟨Nat.le_of_ble_eq_true rfl, Nat.le_of_ble_eq_true rfl⟩) hS (fun H locs hP hS => ?_)
                                                refine lv_aload_n hx hb dL_law_858 rfl (lv_at hl 2 rfl) ?_
                                                refine lv_aload_n hx hb dL_law_859 rfl (lv_at hl 0 rfl) ?_
                                                refine lv_iload_n hx hb dL_law_860 rfl (lv_at hl 3 rfl) ?_
                                                refine lv_iconst (v := 1) hx hb dL_law_861 (by decide) ?_
                                                refine lv_iadd hx hb dL_law_862 ?_
                                                refine va_sld hx hb hX hbl hbA hS hi1 dL_law_863 ?_
                                                refine lv_aload_n hx hb dL_law_864 rfl (lv_at hl 0 rfl) ?_
                                                refine lv_iload_n hx hb dL_law_865 rfl (lv_at hl 3 rfl) ?_
                                                refine lv_iconst (v := 2) hx hb dL_law_866 (by decide) ?_
                                                refine lv_iadd hx hb dL_law_867 ?_
                                                refine va_sld hx hb hX hbl hbA hS hi2 dL_law_868 ?_
                                                refine x_calli (r := r) (I2 := I2) (J2 := J2) (x_runV (As := [.int (xs (x3 + 1).toNatClampNeg), .int (xs (x3 + 2).toNatClampNeg)]) (rest := [.int r]) ⟨hx, hb, hml, hown, hts⟩ (c_X9_told l G hG I2 J (xs (x3 + 1).toNatClampNeg) (xs (x3 + 2).toNatClampNeg) hf2) (cwV 2 hts gL_law_X9_told rfl rfl rfl (by decide +kernel) ⟨Nat.le_of_ble_eq_true rfl, Nat.le_of_ble_eq_true rfl⟩) hK hP zkL_359 (by decide) rfl rfl hl.1 rfl (Nat.le_of_ble_eq_true rfl) dL_law_869 ⟨Nat.le_of_ble_eq_true rfl, Nat.le_of_ble_eq_true rfl⟩) hS (fun H locs hP hS => ?_)
                                                refine lv_icmp_eq (tgt := 1236) hx hb dL_law_872 (by decide) (fun _ => ?_) (fun c9 => absurd rfl c9)
                                                exact hnext I2 J2 H locs ls hI2 hP hS hl
                                              · skip
                                                rcases Classical.em (x = 21) with c21 | c21
                                                · refine lv_tableIn (off := 845) (tgt := 877) hx hb dL_law_32 (by rw [c21]; decide) (by rw [c21]; decide) (by rw [c21]; decide) (by decide) ?_
                                                  obtain ⟨r, I2, J2, hf1, hf2, hI2⟩ := hst.2.2.2.2.2.2.2.2.2.2.2.2.2.2.2.2.2.2.2.2.2.2.1 n I J (xs (x3 + 1).toNatClampNeg) (xs (x3 + 2).toNatClampNeg) hn512 hI
                                                  refine lv_aload_n hx hb dL_law_877 rfl (lv_at hl 1 rfl) ?_
                                                  refine lv_aload_n hx hb dL_law_878 rfl (lv_at hl 0 rfl) ?_
                                                  refine lv_iload_n hx hb dL_law_879 rfl (lv_at hl 3 rfl) ?_
                                                  refine lv_iconst (v := 1) hx hb dL_law_880 (by decide) ?_
                                                  refine lv_iadd hx hb dL_law_881 ?_
                                                  refine va_sld hx hb hX hbl hbA hS hi1 dL_law_882 ?_
                                                  refine lv_aload_n hx hb dL_law_883 rfl (lv_at hl 0 rfl) ?_
                                                  refine lv_iload_n hx hb dL_law_884 rfl (lv_at hl 3 rfl) ?_
                                                  refine lv_iconst (v := 2) hx hb dL_law_885 (by decide) ?_
                                                  refine lv_iadd hx hb dL_law_886 ?_
                                                  refine va_sld hx hb hX hbl hbA hS hi2 dL_law_887 ?_
                                                  refine x_calli (r := r) (I2 := I2) (J2 := J) (x_runV (As := [.int (xs (x3 + 1).toNatClampNeg), .int (xs (x3 + 2).toNatClampNeg)]) (rest := []) ⟨hx, hb, hml, hown, hts⟩ (c_X8_share l G hG I J (xs (x3 + 1).toNatClampNeg) (xs (x3 + 2).toNatClampNeg) hf1) (cwV 2 hts gL_law_X8_share rfl rfl rfl (by decide +kernel) ⟨Nat.le_of_ble_eq_true rfl, Nat.le_of_ble_eq_true rfl⟩) hK hP zkL_0 (by decide) rfl rfl hl.1 rfl (Nat.le_of_ble_eq_true rfl) dL_law_888 ⟨Nat.le_of_ble_eq_true rfl, Nat.le_of_ble_eq_true rfl⟩) hS (fun H locs hP hS => ?_)
                                                  refine lv_aload_n hx hb dL_law_891 rfl (lv_at hl 2 rfl) ?_
                                                  refine lv_aload_n hx hb dL_law_892 rfl (lv_at hl 0 rfl) ?_
                                                  refine lv_iload_n hx hb dL_law_893 rfl (lv_at hl 3 rfl) ?_
                                                  refine lv_iconst (v := 1) hx hb dL_law_894 (by decide) ?_
                                                  refine lv_iadd hx hb dL_law_895 ?_
                                                  refine va_sld hx hb hX hbl hbA hS hi1 dL_law_896 ?_
                                                  refine lv_aload_n hx hb dL_law_897 rfl (lv_at hl 0 rfl) ?_
                                                  refine lv_iload_n hx hb dL_law_898 rfl (lv_at hl 3 rfl) ?_
                                                  refine lv_iconst (v := 2) hx hb dL_law_899 (by decide) ?_
                                                  refine lv_iadd hx hb dL_law_900 ?_
                                                  refine va_sld hx hb hX hbl hbA hS hi2 dL_law_901 ?_
                                                  refine x_calli (r := r) (I2 := I2) (J2 := J2) (x_runV (As := [.int (xs (x3 + 1).toNatClampNeg), .int (xs (x3 + 2).toNatClampNeg)]) (rest := [.int r]) ⟨hx, hb, hml, hown, hts⟩ (c_X9_share l G hG I2 J (xs (x3 + 1).toNatClampNeg) (xs (x3 + 2).toNatClampNeg) hf2) (cwV 2 hts gL_law_X9_share rfl rfl rfl (by decide +kernel) ⟨Nat.le_of_ble_eq_true rfl, Nat.le_of_ble_eq_true rfl⟩) hK hP zkL_359 (by decide) rfl rfl hl.1 rfl (Nat.le_of_ble_eq_true rfl) dL_law_902 ⟨Nat.le_of_ble_eq_true rfl, Nat.le_of_ble_eq_true rfl⟩) hS (fun H locs hP hS => ?_)
                                                  refine lv_icmp_eq (tgt := 1236) hx hb dL_law_905 (by decide) (fun _ => ?_) (fun c9 => absurd rfl c9)
                                                  exact hnext I2 J2 H locs ls hI2 hP hS hl
                                                · skip
                                                  rcases Classical.em (x = 22) with c22 | c22
                                                  · refine lv_tableIn (off := 878) (tgt := 910) hx hb dL_law_32 (by rw [c22]; decide) (by rw [c22]; decide) (by rw [c22]; decide) (by decide) ?_
                                                    obtain ⟨r, J2, hf1, hf2, hI2⟩ := hst.2.2.2.2.2.2.2.2.2.2.2.2.2.2.2.2.2.2.2.2.2.2.2.1 n I J (xs (x3 + 1).toNatClampNeg) hn512 hI
                                                    refine lv_aload_n hx hb dL_law_910 rfl (lv_at hl 1 rfl) ?_
                                                    refine lv_aload_n hx hb dL_law_911 rfl (lv_at hl 0 rfl) ?_
                                                    refine lv_iload_n hx hb dL_law_912 rfl (lv_at hl 3 rfl) ?_
                                                    refine lv_iconst (v := 1) hx hb dL_law_913 (by decide) ?_
                                                    refine lv_iadd hx hb dL_law_914 ?_
                                                    refine va_sld hx hb hX hbl hbA hS hi1 dL_law_915 ?_
                                                    refine x_calli (r := r) (I2 := I) (J2 := J) (x_runV (As := [.int (xs (x3 + 1).toNatClampNeg)]) (rest := []) ⟨hx, hb, hml, hown, hts⟩ (c_X8_swaps l G hG I J (xs (x3 + 1).toNatClampNeg) hf1) (cwV 1 hts gL_law_X8_swaps rfl rfl rfl (by decide +kernel) ⟨Nat.le_of_ble_eq_true rfl, Nat.le_of_ble_eq_true rfl⟩) hK hP zkL_0 (by decide) rfl rfl hl.1 rfl (Nat.le_of_ble_eq_true rfl) dL_law_916 ⟨Nat.le_of_ble_eq_true rfl, Nat.le_of_ble_eq_true rfl⟩) hS (fun H locs hP hS => ?_)
                                                    refine lv_aload_n hx hb dL_law_919 rfl (lv_at hl 2 rfl) ?_
                                                    refine lv_aload_n hx hb dL_law_920 rfl (lv_at hl 0 rfl) ?_
                                                    refine lv_iload_n hx hb dL_law_921 rfl (lv_at hl 3 rfl) ?_
                                                    refine lv_iconst (v := 1) hx hb dL_law_922 (by decide) ?_
                                                    refine lv_iadd hx hb dL_law_923 ?_
                                                    refine va_sld hx hb hX hbl hbA hS hi1 dL_law_924 ?_
                                                    refine x_calli (r := r) (I2 := I) (J2 := J2) (x_runV (As := [.int (xs (x3 + 1).toNatClampNeg)]) (rest := [.int r]) ⟨hx, hb, hml, hown, hts⟩ (c_X9_swaps l G hG I J (xs (x3 + 1).toNatClampNeg) hf2) (cwV 1 hts gL_law_X9_swaps rfl rfl rfl (by decide +kernel) ⟨Nat.le_of_ble_eq_true rfl, Nat.le_of_ble_eq_true rfl⟩) hK hP zkL_359 (by decide) rfl rfl hl.1 rfl (Nat.le_of_ble_eq_true rfl) dL_law_925 ⟨Nat.le_of_ble_eq_true rfl, Nat.le_of_ble_eq_true rfl⟩) hS (fun H locs hP hS => ?_)
                                                    refine lv_icmp_eq (tgt := 1236) hx hb dL_law_928 (by decide) (fun _ => ?_) (fun c9 => absurd rfl c9)
                                                    exact hnext I J2 H locs ls hI2 hP hS hl
                                                  · skip
                                                    rcases Classical.em (x = 23) with c23 | c23
                                                    · refine lv_tableIn (off := 901) (tgt := 933) hx hb dL_law_32 (by rw [c23]; decide) (by rw [c23]; decide) (by rw [c23]; decide) (by decide) ?_
                                                      obtain ⟨r, hf1, hf2, hI2⟩ := hst.2.2.2.2.2.2.2.2.2.2.2.2.2.2.2.2.2.2.2.2.2.2.2.2.1 n I J (xs (x3 + 1).toNatClampNeg) (xs (x3 + 2).toNatClampNeg) hn512 hI
                                                      refine lv_aload_n hx hb dL_law_933 rfl (lv_at hl 1 rfl) ?_
                                                      refine lv_aload_n hx hb dL_law_934 rfl (lv_at hl 0 rfl) ?_
                                                      refine lv_iload_n hx hb dL_law_935 rfl (lv_at hl 3 rfl) ?_
                                                      refine lv_iconst (v := 1) hx hb dL_law_936 (by decide) ?_
                                                      refine lv_iadd hx hb dL_law_937 ?_
                                                      refine va_sld hx hb hX hbl hbA hS hi1 dL_law_938 ?_
                                                      refine lv_aload_n hx hb dL_law_939 rfl (lv_at hl 0 rfl) ?_
                                                      refine lv_iload_n hx hb dL_law_940 rfl (lv_at hl 3 rfl) ?_
                                                      refine lv_iconst (v := 2) hx hb dL_law_941 (by decide) ?_
                                                      refine lv_iadd hx hb dL_law_942 ?_
                                                      refine va_sld hx hb hX hbl hbA hS hi2 dL_law_943 ?_
                                                      refine x_calli (r := r) (I2 := I) (J2 := J) (x_runV (As := [.int (xs (x3 + 1).toNatClampNeg), .int (xs (x3 + 2).toNatClampNeg)]) (rest := []) ⟨hx, hb, hml, hown, hts⟩ (c_X8_ahead l G hG I J (xs (x3 + 1).toNatClampNeg) (xs (x3 + 2).toNatClampNeg) hf1) (cwV 2 hts gL_law_X8_ahead rfl rfl rfl (by decide +kernel) ⟨Nat.le_of_ble_eq_true rfl, Nat.le_of_ble_eq_true rfl⟩) hK hP zkL_0 (by decide) rfl rfl hl.1 rfl (Nat.le_of_ble_eq_true rfl) dL_law_944 ⟨Nat.le_of_ble_eq_true rfl, Nat.le_of_ble_eq_true rfl⟩) hS (fun H locs hP hS => ?_)
                                                      refine lv_aload_n hx hb dL_law_947 rfl (lv_at hl 2 rfl) ?_
                                                      refine lv_aload_n hx hb dL_law_948 rfl (lv_at hl 0 rfl) ?_
                                                      refine lv_iload_n hx hb dL_law_949 rfl (lv_at hl 3 rfl) ?_
                                                      refine lv_iconst (v := 1) hx hb dL_law_950 (by decide) ?_
                                                      refine lv_iadd hx hb dL_law_951 ?_
                                                      refine va_sld hx hb hX hbl hbA hS hi1 dL_law_952 ?_
                                                      refine lv_aload_n hx hb dL_law_953 rfl (lv_at hl 0 rfl) ?_
                                                      refine lv_iload_n hx hb dL_law_954 rfl (lv_at hl 3 rfl) ?_
                                                      refine lv_iconst (v := 2) hx hb dL_law_955 (by decide) ?_
                                                      refine lv_iadd hx hb dL_law_956 ?_
                                                      refine va_sld hx hb hX hbl hbA hS hi2 dL_law_957 ?_
                                                      refine x_calli (r := r) (I2 := I) (J2 := J) (x_runV (As := [.int (xs (x3 + 1).toNatClampNeg), .int (xs (x3 + 2).toNatClampNeg)]) (rest := [.int r]) ⟨hx, hb, hml, hown, hts⟩ (c_X9_ahead l G hG I J (xs (x3 + 1).toNatClampNeg) (xs (x3 + 2).toNatClampNeg) hf2) (cwV 2 hts gL_law_X9_ahead rfl rfl rfl (by decide +kernel) ⟨Nat.le_of_ble_eq_true rfl, Nat.le_of_ble_eq_true rfl⟩) hK hP zkL_359 (by decide) rfl rfl hl.1 rfl (Nat.le_of_ble_eq_true rfl) dL_law_958 ⟨Nat.le_of_ble_eq_true rfl, Nat.le_of_ble_eq_true rfl⟩) hS (fun H locs hP hS => ?_)
                                                      refine lv_icmp_eq (tgt := 1236) hx hb dL_law_961 (by decide) (fun _ => ?_) (fun c9 => absurd rfl c9)
                                                      exact hnext I J H locs ls hI2 hP hS hl
                                                    · skip
                                                      rcases Classical.em (x = 24) with c24 | c24
                                                      · refine lv_tableIn (off := 934) (tgt := 966) hx hb dL_law_32 (by rw [c24]; decide) (by rw [c24]; decide) (by rw [c24]; decide) (by decide) ?_
                                                        obtain ⟨r, hf1, hf2, hI2⟩ := hst.2.2.2.2.2.2.2.2.2.2.2.2.2.2.2.2.2.2.2.2.2.2.2.2.2.1 n I J (xs (x3 + 1).toNatClampNeg) (xs (x3 + 2).toNatClampNeg) hn512 hI
                                                        refine lv_aload_n hx hb dL_law_966 rfl (lv_at hl 1 rfl) ?_
                                                        refine lv_aload_n hx hb dL_law_967 rfl (lv_at hl 0 rfl) ?_
                                                        refine lv_iload_n hx hb dL_law_968 rfl (lv_at hl 3 rfl) ?_
                                                        refine lv_iconst (v := 1) hx hb dL_law_969 (by decide) ?_
                                                        refine lv_iadd hx hb dL_law_970 ?_
                                                        refine va_sld hx hb hX hbl hbA hS hi1 dL_law_971 ?_
                                                        refine lv_aload_n hx hb dL_law_972 rfl (lv_at hl 0 rfl) ?_
                                                        refine lv_iload_n hx hb dL_law_973 rfl (lv_at hl 3 rfl) ?_
                                                        refine lv_iconst (v := 2) hx hb dL_law_974 (by decide) ?_
                                                        refine lv_iadd hx hb dL_law_975 ?_
                                                        refine va_sld hx hb hX hbl hbA hS hi2 dL_law_976 ?_
                                                        refine x_calli (r := r) (I2 := I) (J2 := J) (x_runV (As := [.int (xs (x3 + 1).toNatClampNeg), .int (xs (x3 + 2).toNatClampNeg)]) (rest := []) ⟨hx, hb, hml, hown, hts⟩ (c_X8_judge l G hG I J (xs (x3 + 1).toNatClampNeg) (xs (x3 + 2).toNatClampNeg) hf1) (cwV 2 hts gL_law_X8_judge rfl rfl rfl (by decide +kernel) ⟨Nat.le_of_ble_eq_true rfl, Nat.le_of_ble_eq_true rfl⟩) hK hP zkL_0 (by decide) rfl rfl hl.1 rfl (Nat.le_of_ble_eq_true rfl) dL_law_977 ⟨Nat.le_of_ble_eq_true rfl, Nat.le_of_ble_eq_true rfl⟩) hS (fun H locs hP hS => ?_)
                                                        refine lv_aload_n hx hb dL_law_980 rfl (lv_at hl 2 rfl) ?_
                                                        refine lv_aload_n hx hb dL_law_981 rfl (lv_at hl 0 rfl) ?_
                                                        refine lv_iload_n hx hb dL_law_982 rfl (lv_at hl 3 rfl) ?_
                                                        refine lv_iconst (v := 1) hx hb dL_law_983 (by decide) ?_
                                                        refine lv_iadd hx hb dL_law_984 ?_
                                                        refine va_sld hx hb hX hbl hbA hS hi1 dL_law_985 ?_
                                                        refine lv_aload_n hx hb dL_law_986 rfl (lv_at hl 0 rfl) ?_
                                                        refine lv_iload_n hx hb dL_law_987 rfl (lv_at hl 3 rfl) ?_
                                                        refine lv_iconst (v := 2) hx hb dL_law_988 (by decide) ?_
                                                        refine lv_iadd hx hb dL_law_989 ?_
                                                        refine va_sld hx hb hX hbl hbA hS hi2 dL_law_990 ?_
                                                        refine x_calli (r := r) (I2 := I) (J2 := J) (x_runV (As := [.int (xs (x3 + 1).toNatClampNeg), .int (xs (x3 + 2).toNatClampNeg)]) (rest := [.int r]) ⟨hx, hb, hml, hown, hts⟩ (c_X9_judge l G hG I J (xs (x3 + 1).toNatClampNeg) (xs (x3 + 2).toNatClampNeg) hf2) (cwV 2 hts gL_law_X9_judge rfl rfl rfl (by decide +kernel) ⟨Nat.le_of_ble_eq_true rfl, Nat.le_of_ble_eq_true rfl⟩) hK hP zkL_359 (by decide) rfl rfl hl.1 rfl (Nat.le_of_ble_eq_true rfl) dL_law_991 ⟨Nat.le_of_ble_eq_true rfl, Nat.le_of_ble_eq_true rfl⟩) hS (fun H locs hP hS => ?_)
                                                        refine lv_icmp_eq (tgt := 1236) hx hb dL_law_994 (by decide) (fun _ => ?_) (fun c9 => absurd rfl c9)
                                                        exact hnext I J H locs ls hI2 hP hS hl
                                                      · skip
                                                        rcases Classical.em (x = 25) with c25 | c25
                                                        · refine lv_tableIn (off := 967) (tgt := 999) hx hb dL_law_32 (by rw [c25]; decide) (by rw [c25]; decide) (by rw [c25]; decide) (by decide) ?_
                                                          obtain ⟨r, I2, J2, hf1, hf2, hI2⟩ := hst.2.2.2.2.2.2.2.2.2.2.2.2.2.2.2.2.2.2.2.2.2.2.2.2.2.2.1 n I J (xs (x3 + 1).toNatClampNeg) hn512 hI
                                                          refine lv_aload_n hx hb dL_law_999 rfl (lv_at hl 1 rfl) ?_
                                                          refine lv_aload_n hx hb dL_law_1000 rfl (lv_at hl 0 rfl) ?_
                                                          refine lv_iload_n hx hb dL_law_1001 rfl (lv_at hl 3 rfl) ?_
                                                          refine lv_iconst (v := 1) hx hb dL_law_1002 (by decide) ?_
                                                          refine lv_iadd hx hb dL_law_1003 ?_
                                                          refine va_sld hx hb hX hbl hbA hS hi1 dL_law_1004 ?_
                                                          refine x_calli (r := r) (I2 := I2) (J2 := J) (x_runV (As := [.int (xs (x3 + 1).toNatClampNeg)]) (rest := []) ⟨hx, hb, hml, hown, hts⟩ (c_X8_feed l G hG I J (xs (x3 + 1).toNatClampNeg) hf1) (cwV 1 hts gL_law_X8_feed rfl rfl rfl (by decide +kernel) ⟨Nat.le_of_ble_eq_true rfl, Nat.le_of_ble_eq_true rfl⟩) hK hP zkL_0 (by decide) rfl rfl hl.1 rfl (Nat.le_of_ble_eq_true rfl) dL_law_1005 ⟨Nat.le_of_ble_eq_true rfl, Nat.le_of_ble_eq_true rfl⟩) hS (fun H locs hP hS => ?_)
                                                          refine lv_aload_n hx hb dL_law_1008 rfl (lv_at hl 2 rfl) ?_
                                                          refine lv_aload_n hx hb dL_law_1009 rfl (lv_at hl 0 rfl) ?_
                                                          refine lv_iload_n hx hb dL_law_1010 rfl (lv_at hl 3 rfl) ?_
                                                          refine lv_iconst (v := 1) hx hb dL_law_1011 (by decide) ?_
                                                          refine lv_iadd hx hb dL_law_1012 ?_
                                                          refine va_sld hx hb hX hbl hbA hS hi1 dL_law_1013 ?_
                                                          refine x_calli (r := r) (I2 := I2) (J2 := J2) (x_runV (As := [.int (xs (x3 + 1).toNatClampNeg)]) (rest := [.int r]) ⟨hx, hb, hml, hown, hts⟩ (c_X9_feed l G hG I2 J (xs (x3 + 1).toNatClampNeg) hf2) (cwV 1 hts gL_law_X9_feed rfl rfl rfl (by decide +kernel) ⟨Nat.le_of_ble_eq_true rfl, Nat.le_of_ble_eq_true rfl⟩) hK hP zkL_359 (by decide) rfl rfl hl.1 rfl (Nat.le_of_ble_eq_true rfl) dL_law_1014 ⟨Nat.le_of_ble_eq_true rfl, Nat.le_of_ble_eq_true rfl⟩) hS (fun H locs hP hS => ?_)
                                                          refine lv_icmp_eq (tgt := 1236) hx hb dL_law_1017 (by decide) (fun _ => ?_) (fun c9 => absurd rfl c9)
                                                          exact hnext I2 J2 H locs ls hI2 hP hS hl
                                                        · skip
                                                          rcases Classical.em (x = 26) with c26 | c26
                                                          · refine lv_tableIn (off := 990) (tgt := 1022) hx hb dL_law_32 (by rw [c26]; decide) (by rw [c26]; decide) (by rw [c26]; decide) (by decide) ?_
                                                            obtain ⟨r, I2, J2, hf1, hf2, hI2⟩ := hst.2.2.2.2.2.2.2.2.2.2.2.2.2.2.2.2.2.2.2.2.2.2.2.2.2.2.2.1 n I J  hn512 hI
                                                            refine lv_aload_n hx hb dL_law_1022 rfl (lv_at hl 1 rfl) ?_
                                                            refine x_calli (r := r) (I2 := I2) (J2 := J) (x_runV (As := []) (rest := []) ⟨hx, hb, hml, hown, hts⟩ (c_X8_script l G hG I J hf1) (cwV 0 hts gL_law_X8_script rfl rfl rfl (by decide +kernel) ⟨Nat.le_of_ble_eq_true rfl, Nat.le_of_ble_eq_true rfl⟩) hK hP zkL_0 (by decide) rfl rfl hl.1 rfl (Nat.le_of_ble_eq_true rfl) dL_law_1023 ⟨Nat.le_of_ble_eq_true rfl, Nat.le_of_ble_eq_true rfl⟩) hS (fun H locs hP hS => ?_)
                                                            refine lv_aload_n hx hb dL_law_1026 rfl (lv_at hl 2 rfl) ?_
                                                            refine x_calli (r := r) (I2 := I2) (J2 := J2) (x_runV (As := []) (rest := [.int r]) ⟨hx, hb, hml, hown, hts⟩ (c_X9_script l G hG I2 J hf2) (cwV 0 hts gL_law_X9_script rfl rfl rfl (by decide +kernel) ⟨Nat.le_of_ble_eq_true rfl, Nat.le_of_ble_eq_true rfl⟩) hK hP zkL_359 (by decide) rfl rfl hl.1 rfl (Nat.le_of_ble_eq_true rfl) dL_law_1027 ⟨Nat.le_of_ble_eq_true rfl, Nat.le_of_ble_eq_true rfl⟩) hS (fun H locs hP hS => ?_)
                                                            refine lv_icmp_eq (tgt := 1236) hx hb dL_law_1030 (by decide) (fun _ => ?_) (fun c9 => absurd rfl c9)
                                                            exact hnext I2 J2 H locs ls hI2 hP hS hl
                                                          · skip
                                                            rcases Classical.em (x = 27) with c27 | c27
                                                            · refine lv_tableIn (off := 1003) (tgt := 1035) hx hb dL_law_32 (by rw [c27]; decide) (by rw [c27]; decide) (by rw [c27]; decide) (by decide) ?_
                                                              obtain ⟨r, I2, J2, hf1, hf2, hI2⟩ := hst.2.2.2.2.2.2.2.2.2.2.2.2.2.2.2.2.2.2.2.2.2.2.2.2.2.2.2.2.1 n I J  hn512 hI
                                                              refine lv_aload_n hx hb dL_law_1035 rfl (lv_at hl 1 rfl) ?_
                                                              refine x_calli (r := r) (I2 := I2) (J2 := J) (x_runV (As := []) (rest := []) ⟨hx, hb, hml, hown, hts⟩ (c_X8_image l G hG I J hf1) (cwV 0 hts gL_law_X8_image rfl rfl rfl (by decide +kernel) ⟨Nat.le_of_ble_eq_true rfl, Nat.le_of_ble_eq_true rfl⟩) hK hP zkL_0 (by decide) rfl rfl hl.1 rfl (Nat.le_of_ble_eq_true rfl) dL_law_1036 ⟨Nat.le_of_ble_eq_true rfl, Nat.le_of_ble_eq_true rfl⟩) hS (fun H locs hP hS => ?_)
                                                              refine lv_aload_n hx hb dL_law_1039 rfl (lv_at hl 2 rfl) ?_
                                                              refine x_calli (r := r) (I2 := I2) (J2 := J2) (x_runV (As := []) (rest := [.int r]) ⟨hx, hb, hml, hown, hts⟩ (c_X9_image l G hG I2 J hf2) (cwV 0 hts gL_law_X9_image rfl rfl rfl (by decide +kernel) ⟨Nat.le_of_ble_eq_true rfl, Nat.le_of_ble_eq_true rfl⟩) hK hP zkL_359 (by decide) rfl rfl hl.1 rfl (Nat.le_of_ble_eq_true rfl) dL_law_1040 ⟨Nat.le_of_ble_eq_true rfl, Nat.le_of_ble_eq_true rfl⟩) hS (fun H locs hP hS => ?_)
                                                              refine lv_icmp_eq (tgt := 1236) hx hb dL_law_1043 (by decide) (fun _ => ?_) (fun c9 => absurd rfl c9)
                                                              exact hnext I2 J2 H locs ls hI2 hP hS hl
                                                            · skip
                                                              rcases Classical.em (x = 28) with c28 | c28
                                                              · refine lv_tableIn (off := 1016) (tgt := 1048) hx hb dL_law_32 (by rw [c28]; decide) (by rw [c28]; decide) (by rw [c28]; decide) (by decide) ?_
                                                                obtain ⟨r, I2, J2, hf1, hf2, hI2⟩ := hst.2.2.2.2.2.2.2.2.2.2.2.2.2.2.2.2.2.2.2.2.2.2.2.2.2.2.2.2.2.1 n I J  hn512 hI
                                                                refine lv_aload_n hx hb dL_law_1048 rfl (lv_at hl 1 rfl) ?_
                                                                refine x_calli (r := r) (I2 := I2) (J2 := J) (x_runV (As := []) (rest := []) ⟨hx, hb, hml, hown, hts⟩ (c_X8_back l G hG I J hf1) (cwV 0 hts gL_law_X8_back rfl rfl rfl (by decide +kernel) ⟨Nat.le_of_ble_eq_true rfl, Nat.le_of_ble_eq_true rfl⟩) hK hP zkL_0 (by decide) rfl rfl hl.1 rfl (Nat.le_of_ble_eq_true rfl) dL_law_1049 ⟨Nat.le_of_ble_eq_true rfl, Nat.le_of_ble_eq_true rfl⟩) hS (fun H locs hP hS => ?_)
                                                                refine lv_aload_n hx hb dL_law_1052 rfl (lv_at hl 2 rfl) ?_
                                                                refine x_calli (r := r) (I2 := I2) (J2 := J2) (x_runV (As := []) (rest := [.int r]) ⟨hx, hb, hml, hown, hts⟩ (c_X9_back l G hG I2 J hf2) (cwV 0 hts gL_law_X9_back rfl rfl rfl (by decide +kernel) ⟨Nat.le_of_ble_eq_true rfl, Nat.le_of_ble_eq_true rfl⟩) hK hP zkL_359 (by decide) rfl rfl hl.1 rfl (Nat.le_of_ble_eq_true rfl) dL_law_1053 ⟨Nat.le_of_ble_eq_true rfl, Nat.le_of_ble_eq_true rfl⟩) hS (fun H locs hP hS => ?_)
                                                                refine lv_icmp_eq (tgt := 1236) hx hb dL_law_1056 (by decide) (fun _ => ?_) (fun c9 => absurd rfl c9)
                                                                exact hnext I2 J2 H locs ls hI2 hP hS hl
                                                              · skip
                                                                rcases Classical.em (x = 29) with c29 | c29
                                                                · refine lv_tableIn (off := 1029) (tgt := 1061) hx hb dL_law_32 (by rw [c29]; decide) (by rw [c29]; decide) (by rw [c29]; decide) (by decide) ?_
                                                                  obtain ⟨r, I2, J2, hf1, hf2, hI2⟩ := hst.2.2.2.2.2.2.2.2.2.2.2.2.2.2.2.2.2.2.2.2.2.2.2.2.2.2.2.2.2.2.1 n I J (xs (x3 + 1).toNatClampNeg) (xs (x3 + 2).toNatClampNeg) (xs (x3 + 3).toNatClampNeg) hn512 hI
                                                                  refine lv_aload_n hx hb dL_law_1061 rfl (lv_at hl 1 rfl) ?_
                                                                  refine lv_aload_n hx hb dL_law_1062 rfl (lv_at hl 0 rfl) ?_
                                                                  refine lv_iload_n hx hb dL_law_1063 rfl (lv_at hl 3 rfl) ?_
                                                                  refine lv_iconst (v := 1) hx hb dL_law_1064 (by decide) ?_
                                                                  refine lv_iadd hx hb dL_law_1065 ?_
                                                                  refine va_sld hx hb hX hbl hbA hS hi1 dL_law_1066 ?_
                                                                  refine lv_aload_n hx hb dL_law_1067 rfl (lv_at hl 0 rfl) ?_
                                                                  refine lv_iload_n hx hb dL_law_1068 rfl (lv_at hl 3 rfl) ?_
                                                                  refine lv_iconst (v := 2) hx hb dL_law_1069 (by decide) ?_
                                                                  refine lv_iadd hx hb dL_law_1070 ?_
                                                                  refine va_sld hx hb hX hbl hbA hS hi2 dL_law_1071 ?_
                                                                  refine lv_aload_n hx hb dL_law_1072 rfl (lv_at hl 0 rfl) ?_
                                                                  refine lv_iload_n hx hb dL_law_1073 rfl (lv_at hl 3 rfl) ?_
                                                                  refine lv_iconst (v := 3) hx hb dL_law_1074 (by decide) ?_
                                                                  refine lv_iadd hx hb dL_law_1075 ?_
                                                                  refine va_sld hx hb hX hbl hbA hS hi3 dL_law_1076 ?_
                                                                  refine x_calli (r := r) (I2 := I2) (J2 := J) (x_runV (As := [.int (xs (x3 + 1).toNatClampNeg), .int (xs (x3 + 2).toNatClampNeg), .int (xs (x3 + 3).toNatClampNeg)]) (rest := []) ⟨hx, hb, hml, hown, hts⟩ (c_X8_hold l G hG I J (xs (x3 + 1).toNatClampNeg) (xs (x3 + 2).toNatClampNeg) (xs (x3 + 3).toNatClampNeg) hf1) (cwV 3 hts gL_law_X8_hold rfl rfl rfl (by decide +kernel) ⟨Nat.le_of_ble_eq_true rfl, Nat.le_of_ble_eq_true rfl⟩) hK hP zkL_0 (by decide) rfl rfl hl.1 rfl (Nat.le_of_ble_eq_true rfl) dL_law_1077 ⟨Nat.le_of_ble_eq_true rfl, Nat.le_of_ble_eq_true rfl⟩) hS (fun H locs hP hS => ?_)
                                                                  refine lv_aload_n hx hb dL_law_1080 rfl (lv_at hl 2 rfl) ?_
                                                                  refine lv_aload_n hx hb dL_law_1081 rfl (lv_at hl 0 rfl) ?_
                                                                  refine lv_iload_n hx hb dL_law_1082 rfl (lv_at hl 3 rfl) ?_
                                                                  refine lv_iconst (v := 1) hx hb dL_law_1083 (by decide) ?_
                                                                  refine lv_iadd hx hb dL_law_1084 ?_
                                                                  refine va_sld hx hb hX hbl hbA hS hi1 dL_law_1085 ?_
                                                                  refine lv_aload_n hx hb dL_law_1086 rfl (lv_at hl 0 rfl) ?_
                                                                  refine lv_iload_n hx hb dL_law_1087 rfl (lv_at hl 3 rfl) ?_
                                                                  refine lv_iconst (v := 2) hx hb dL_law_1088 (by decide) ?_
                                                                  refine lv_iadd hx hb dL_law_1089 ?_
                                                                  refine va_sld hx hb hX hbl hbA hS hi2 dL_law_1090 ?_
                                                                  refine lv_aload_n hx hb dL_law_1091 rfl (lv_at hl 0 rfl) ?_
                                                                  refine lv_iload_n hx hb dL_law_1092 rfl (lv_at hl 3 rfl) ?_
                                                                  refine lv_iconst (v := 3) hx hb dL_law_1093 (by decide) ?_
                                                                  refine lv_iadd hx hb dL_law_1094 ?_
                                                                  refine va_sld hx hb hX hbl hbA hS hi3 dL_law_1095 ?_
                                                                  refine x_calli (r := r) (I2 := I2) (J2 := J2) (x_runV (As := [.int (xs (x3 + 1).toNatClampNeg), .int (xs (x3 + 2).toNatClampNeg), .int (xs (x3 + 3).toNatClampNeg)]) (rest := [.int r]) ⟨hx, hb, hml, hown, hts⟩ (c_X9_hold l G hG I2 J (xs (x3 + 1).toNatClampNeg) (xs (x3 + 2).toNatClampNeg) (xs (x3 + 3).toNatClampNeg) hf2) (cwV 3 hts gL_law_X9_hold rfl rfl rfl (by decide +kernel) ⟨Nat.le_of_ble_eq_true rfl, Nat.le_of_ble_eq_true rfl⟩) hK hP zkL_359 (by decide) rfl rfl hl.1 rfl (Nat.le_of_ble_eq_true rfl) dL_law_1096 ⟨Nat.le_of_ble_eq_true rfl, Nat.le_of_ble_eq_true rfl⟩) hS (fun H locs hP hS => ?_)
                                                                  refine lv_icmp_eq (tgt := 1236) hx hb dL_law_1099 (by decide) (fun _ => ?_) (fun c9 => absurd rfl c9)
                                                                  exact hnext I2 J2 H locs ls hI2 hP hS hl
                                                                · skip
                                                                  rcases Classical.em (x = 30) with c30 | c30
                                                                  · refine lv_tableIn (off := 1072) (tgt := 1104) hx hb dL_law_32 (by rw [c30]; decide) (by rw [c30]; decide) (by rw [c30]; decide) (by decide) ?_
                                                                    obtain ⟨r, I2, J2, hf1, hf2, hI2⟩ := hst.2.2.2.2.2.2.2.2.2.2.2.2.2.2.2.2.2.2.2.2.2.2.2.2.2.2.2.2.2.2.2.1 n I J (xs (x3 + 1).toNatClampNeg) (xs (x3 + 2).toNatClampNeg) hn512 hI
                                                                    refine lv_aload_n hx hb dL_law_1104 rfl (lv_at hl 1 rfl) ?_
                                                                    refine lv_aload_n hx hb dL_law_1105 rfl (lv_at hl 0 rfl) ?_
                                                                    refine lv_iload_n hx hb dL_law_1106 rfl (lv_at hl 3 rfl) ?_
                                                                    refine lv_iconst (v := 1) hx hb dL_law_1107 (by decide) ?_
                                                                    refine lv_iadd hx hb dL_law_1108 ?_
                                                                    refine va_sld hx hb hX hbl hbA hS hi1 dL_law_1109 ?_
                                                                    refine lv_aload_n hx hb dL_law_1110 rfl (lv_at hl 0 rfl) ?_
                                                                    refine lv_iload_n hx hb dL_law_1111 rfl (lv_at hl 3 rfl) ?_
                                                                    refine lv_iconst (v := 2) hx hb dL_law_1112 (by decide) ?_
                                                                    refine lv_iadd hx hb dL_law_1113 ?_
                                                                    refine va_sld hx hb hX hbl hbA hS hi2 dL_law_1114 ?_
                                                                    refine x_calli (r := r) (I2 := I2) (J2 := J) (x_runV (As := [.int (xs (x3 + 1).toNatClampNeg), .int (xs (x3 + 2).toNatClampNeg)]) (rest := []) ⟨hx, hb, hml, hown, hts⟩ (c_X8_row l G hG I J (xs (x3 + 1).toNatClampNeg) (xs (x3 + 2).toNatClampNeg) hf1) (cwV 2 hts gL_law_X8_row rfl rfl rfl (by decide +kernel) ⟨Nat.le_of_ble_eq_true rfl, Nat.le_of_ble_eq_true rfl⟩) hK hP zkL_0 (by decide) rfl rfl hl.1 rfl (Nat.le_of_ble_eq_true rfl) dL_law_1115 ⟨Nat.le_of_ble_eq_true rfl, Nat.le_of_ble_eq_true rfl⟩) hS (fun H locs hP hS => ?_)
                                                                    refine lv_aload_n hx hb dL_law_1118 rfl (lv_at hl 2 rfl) ?_
                                                                    refine lv_aload_n hx hb dL_law_1119 rfl (lv_at hl 0 rfl) ?_
                                                                    refine lv_iload_n hx hb dL_law_1120 rfl (lv_at hl 3 rfl) ?_
                                                                    refine lv_iconst (v := 1) hx hb dL_law_1121 (by decide) ?_
                                                                    refine lv_iadd hx hb dL_law_1122 ?_
                                                                    refine va_sld hx hb hX hbl hbA hS hi1 dL_law_1123 ?_
                                                                    refine lv_aload_n hx hb dL_law_1124 rfl (lv_at hl 0 rfl) ?_
                                                                    refine lv_iload_n hx hb dL_law_1125 rfl (lv_at hl 3 rfl) ?_
                                                                    refine lv_iconst (v := 2) hx hb dL_law_1126 (by decide) ?_
                                                                    refine lv_iadd hx hb dL_law_1127 ?_
                                                                    refine va_sld hx hb hX hbl hbA hS hi2 dL_law_1128 ?_
                                                                    refine x_calli (r := r) (I2 := I2) (J2 := J2) (x_runV (As := [.int (xs (x3 + 1).toNatClampNeg), .int (xs (x3 + 2).toNatClampNeg)]) (rest := [.int r]) ⟨hx, hb, hml, hown, hts⟩ (c_X9_row l G hG I2 J (xs (x3 + 1).toNatClampNeg) (xs (x3 + 2).toNatClampNeg) hf2) (cwV 2 hts gL_law_X9_row rfl rfl rfl (by decide +kernel) ⟨Nat.le_of_ble_eq_true rfl, Nat.le_of_ble_eq_true rfl⟩) hK hP zkL_359 (by decide) rfl rfl hl.1 rfl (Nat.le_of_ble_eq_true rfl) dL_law_1129 ⟨Nat.le_of_ble_eq_true rfl, Nat.le_of_ble_eq_true rfl⟩) hS (fun H locs hP hS => ?_)
                                                                    refine lv_icmp_eq (tgt := 1236) hx hb dL_law_1132 (by decide) (fun _ => ?_) (fun c9 => absurd rfl c9)
                                                                    exact hnext I2 J2 H locs ls hI2 hP hS hl
                                                                  · skip
                                                                    rcases Classical.em (x = 31) with c31 | c31
                                                                    · refine lv_tableIn (off := 1105) (tgt := 1137) hx hb dL_law_32 (by rw [c31]; decide) (by rw [c31]; decide) (by rw [c31]; decide) (by decide) ?_
                                                                      obtain ⟨r, I2, J2, hf1, hf2, hI2⟩ := hst.2.2.2.2.2.2.2.2.2.2.2.2.2.2.2.2.2.2.2.2.2.2.2.2.2.2.2.2.2.2.2.2.1 n I J (xs (x3 + 1).toNatClampNeg) (xs (x3 + 2).toNatClampNeg) (xs (x3 + 3).toNatClampNeg) hn512 hI
                                                                      refine lv_aload_n hx hb dL_law_1137 rfl (lv_at hl 1 rfl) ?_
                                                                      refine lv_aload_n hx hb dL_law_1138 rfl (lv_at hl 0 rfl) ?_
                                                                      refine lv_iload_n hx hb dL_law_1139 rfl (lv_at hl 3 rfl) ?_
                                                                      refine lv_iconst (v := 1) hx hb dL_law_1140 (by decide) ?_
                                                                      refine lv_iadd hx hb dL_law_1141 ?_
                                                                      refine va_sld hx hb hX hbl hbA hS hi1 dL_law_1142 ?_
                                                                      refine lv_aload_n hx hb dL_law_1143 rfl (lv_at hl 0 rfl) ?_
                                                                      refine lv_iload_n hx hb dL_law_1144 rfl (lv_at hl 3 rfl) ?_
                                                                      refine lv_iconst (v := 2) hx hb dL_law_1145 (by decide) ?_
                                                                      refine lv_iadd hx hb dL_law_1146 ?_
                                                                      refine va_sld hx hb hX hbl hbA hS hi2 dL_law_1147 ?_
                                                                      refine lv_aload_n hx hb dL_law_1148 rfl (lv_at hl 0 rfl) ?_
                                                                      refine lv_iload_n hx hb dL_law_1149 rfl (lv_at hl 3 rfl) ?_
                                                                      refine lv_iconst (v := 3) hx hb dL_law_1150 (by decide) ?_
                                                                      refine lv_iadd hx hb dL_law_1151 ?_
                                                                      refine va_sld hx hb hX hbl hbA hS hi3 dL_law_1152 ?_
                                                                      refine x_calli (r := r) (I2 := I2) (J2 := J) (x_runV (As := [.int (xs (x3 + 1).toNatClampNeg), .int (xs (x3 + 2).toNatClampNeg), .int (xs (x3 + 3).toNatClampNeg)]) (rest := []) ⟨hx, hb, hml, hown, hts⟩ (c_X8_put l G hG I J (xs (x3 + 1).toNatClampNeg) (xs (x3 + 2).toNatClampNeg) (xs (x3 + 3).toNatClampNeg) hf1) (cwV 3 hts gL_law_X8_put rfl rfl rfl (by decide +kernel) ⟨Nat.le_of_ble_eq_true rfl, Nat.le_of_ble_eq_true rfl⟩) hK hP zkL_0 (by decide) rfl rfl hl.1 rfl (Nat.le_of_ble_eq_true rfl) dL_law_1153 ⟨Nat.le_of_ble_eq_true rfl, Nat.le_of_ble_eq_true rfl⟩) hS (fun H locs hP hS => ?_)
                                                                      refine lv_aload_n hx hb dL_law_1156 rfl (lv_at hl 2 rfl) ?_
                                                                      refine lv_aload_n hx hb dL_law_1157 rfl (lv_at hl 0 rfl) ?_
                                                                      refine lv_iload_n hx hb dL_law_1158 rfl (lv_at hl 3 rfl) ?_
                                                                      refine lv_iconst (v := 1) hx hb dL_law_1159 (by decide) ?_
                                                                      refine lv_iadd hx hb dL_law_1160 ?_
                                                                      refine va_sld hx hb hX hbl hbA hS hi1 dL_law_1161 ?_
                                                                      refine lv_aload_n hx hb dL_law_1162 rfl (lv_at hl 0 rfl) ?_
                                                                      refine lv_iload_n hx hb dL_law_1163 rfl (lv_at hl 3 rfl) ?_
                                                                      refine lv_iconst (v := 2) hx hb dL_law_1164 (by decide) ?_
                                                                      refine lv_iadd hx hb dL_law_1165 ?_
                                                                      refine va_sld hx hb hX hbl hbA hS hi2 dL_law_1166 ?_
                                                                      refine lv_aload_n hx hb dL_law_1167 rfl (lv_at hl 0 rfl) ?_
                                                                      refine lv_iload_n hx hb dL_law_1168 rfl (lv_at hl 3 rfl) ?_
                                                                      refine lv_iconst (v := 3) hx hb dL_law_1169 (by decide) ?_
                                                                      refine lv_iadd hx hb dL_law_1170 ?_
                                                                      refine va_sld hx hb hX hbl hbA hS hi3 dL_law_1171 ?_
                                                                      refine x_calli (r := r) (I2 := I2) (J2 := J2) (x_runV (As := [.int (xs (x3 + 1).toNatClampNeg), .int (xs (x3 + 2).toNatClampNeg), .int (xs (x3 + 3).toNatClampNeg)]) (rest := [.int r]) ⟨hx, hb, hml, hown, hts⟩ (c_X9_put l G hG I2 J (xs (x3 + 1).toNatClampNeg) (xs (x3 + 2).toNatClampNeg) (xs (x3 + 3).toNatClampNeg) hf2) (cwV 3 hts gL_law_X9_put rfl rfl rfl (by decide +kernel) ⟨Nat.le_of_ble_eq_true rfl, Nat.le_of_ble_eq_true rfl⟩) hK hP zkL_359 (by decide) rfl rfl hl.1 rfl (Nat.le_of_ble_eq_true rfl) dL_law_1172 ⟨Nat.le_of_ble_eq_true rfl, Nat.le_of_ble_eq_true rfl⟩) hS (fun H locs hP hS => ?_)
                                                                      refine lv_icmp_eq (tgt := 1236) hx hb dL_law_1175 (by decide) (fun _ => ?_) (fun c9 => absurd rfl c9)
                                                                      exact hnext I2 J2 H locs ls hI2 hP hS hl
                                                                    · skip
                                                                      rcases Classical.em (x = 32) with c32 | c32
                                                                      · refine lv_tableIn (off := 1148) (tgt := 1180) hx hb dL_law_32 (by rw [c32]; decide) (by rw [c32]; decide) (by rw [c32]; decide) (by decide) ?_
                                                                        obtain ⟨r, hf1, hf2, hI2⟩ := hst.2.2.2.2.2.2.2.2.2.2.2.2.2.2.2.2.2.2.2.2.2.2.2.2.2.2.2.2.2.2.2.2.2.1 n I J (xs (x3 + 1).toNatClampNeg) (xs (x3 + 2).toNatClampNeg) hn512 hI
                                                                        refine lv_aload_n hx hb dL_law_1180 rfl (lv_at hl 1 rfl) ?_
                                                                        refine lv_aload_n hx hb dL_law_1181 rfl (lv_at hl 0 rfl) ?_
                                                                        refine lv_iload_n hx hb dL_law_1182 rfl (lv_at hl 3 rfl) ?_
                                                                        refine lv_iconst (v := 1) hx hb dL_law_1183 (by decide) ?_
                                                                        refine lv_iadd hx hb dL_law_1184 ?_
                                                                        refine va_sld hx hb hX hbl hbA hS hi1 dL_law_1185 ?_
                                                                        refine lv_aload_n hx hb dL_law_1186 rfl (lv_at hl 0 rfl) ?_
                                                                        refine lv_iload_n hx hb dL_law_1187 rfl (lv_at hl 3 rfl) ?_
                                                                        refine lv_iconst (v := 2) hx hb dL_law_1188 (by decide) ?_
                                                                        refine lv_iadd hx hb dL_law_1189 ?_
                                                                        refine va_sld hx hb hX hbl hbA hS hi2 dL_law_1190 ?_
                                                                        refine x_calli (r := r) (I2 := I) (J2 := J) (x_runV (As := [.int (xs (x3 + 1).toNatClampNeg), .int (xs (x3 + 2).toNatClampNeg)]) (rest := []) ⟨hx, hb, hml, hown, hts⟩ (c_X8_tells l G hG I J (xs (x3 + 1).toNatClampNeg) (xs (x3 + 2).toNatClampNeg) hf1) (cwV 2 hts gL_law_X8_tells rfl rfl rfl (by decide +kernel) ⟨Nat.le_of_ble_eq_true rfl, Nat.le_of_ble_eq_true rfl⟩) hK hP zkL_0 (by decide) rfl rfl hl.1 rfl (Nat.le_of_ble_eq_true rfl) dL_law_1191 ⟨Nat.le_of_ble_eq_true rfl, Nat.le_of_ble_eq_true rfl⟩) hS (fun H locs hP hS => ?_)
                                                                        refine lv_aload_n hx hb dL_law_1194 rfl (lv_at hl 2 rfl) ?_
                                                                        refine lv_aload_n hx hb dL_law_1195 rfl (lv_at hl 0 rfl) ?_
                                                                        refine lv_iload_n hx hb dL_law_1196 rfl (lv_at hl 3 rfl) ?_
                                                                        refine lv_iconst (v := 1) hx hb dL_law_1197 (by decide) ?_
                                                                        refine lv_iadd hx hb dL_law_1198 ?_
                                                                        refine va_sld hx hb hX hbl hbA hS hi1 dL_law_1199 ?_
                                                                        refine lv_aload_n hx hb dL_law_1200 rfl (lv_at hl 0 rfl) ?_
                                                                        refine lv_iload_n hx hb dL_law_1201 rfl (lv_at hl 3 rfl) ?_
                                                                        refine lv_iconst (v := 2) hx hb dL_law_1202 (by decide) ?_
                                                                        refine lv_iadd hx hb dL_law_1203 ?_
                                                                        refine va_sld hx hb hX hbl hbA hS hi2 dL_law_1204 ?_
                                                                        refine x_calli (r := r) (I2 := I) (J2 := J) (x_runV (As := [.int (xs (x3 + 1).toNatClampNeg), .int (xs (x3 + 2).toNatClampNeg)]) (rest := [.int r]) ⟨hx, hb, hml, hown, hts⟩ (c_X9_tells l G hG I J (xs (x3 + 1).toNatClampNeg) (xs (x3 + 2).toNatClampNeg) hf2) (cwV 2 hts gL_law_X9_tells rfl rfl rfl (by decide +kernel) ⟨Nat.le_of_ble_eq_true rfl, Nat.le_of_ble_eq_true rfl⟩) hK hP zkL_359 (by decide) rfl rfl hl.1 rfl (Nat.le_of_ble_eq_true rfl) dL_law_1205 ⟨Nat.le_of_ble_eq_true rfl, Nat.le_of_ble_eq_true rfl⟩) hS (fun H locs hP hS => ?_)
                                                                        refine lv_icmp_eq (tgt := 1236) hx hb dL_law_1208 (by decide) (fun _ => ?_) (fun c9 => absurd rfl c9)
                                                                        exact hnext I J H locs ls hI2 hP hS hl
                                                                      · skip
                                                                        rcases Classical.em (x = 33) with c33 | c33
                                                                        · refine lv_tableIn (off := 1181) (tgt := 1213) hx hb dL_law_32 (by rw [c33]; decide) (by rw [c33]; decide) (by rw [c33]; decide) (by decide) ?_
                                                                          obtain ⟨r, hf1, hf2, hI2⟩ := hst.2.2.2.2.2.2.2.2.2.2.2.2.2.2.2.2.2.2.2.2.2.2.2.2.2.2.2.2.2.2.2.2.2.2 n I J (xs (x3 + 1).toNatClampNeg) hn512 hI
                                                                          refine lv_aload_n hx hb dL_law_1213 rfl (lv_at hl 1 rfl) ?_
                                                                          refine lv_aload_n hx hb dL_law_1214 rfl (lv_at hl 0 rfl) ?_
                                                                          refine lv_iload_n hx hb dL_law_1215 rfl (lv_at hl 3 rfl) ?_
                                                                          refine lv_iconst (v := 1) hx hb dL_law_1216 (by decide) ?_
                                                                          refine lv_iadd hx hb dL_law_1217 ?_
                                                                          refine va_sld hx hb hX hbl hbA hS hi1 dL_law_1218 ?_
                                                                          refine x_calli (r := r) (I2 := I) (J2 := J) (x_runV (As := [.int (xs (x3 + 1).toNatClampNeg)]) (rest := []) ⟨hx, hb, hml, hown, hts⟩ (c_X8_count l G hG I J (xs (x3 + 1).toNatClampNeg) hf1) (cwV 1 hts gL_law_X8_count rfl rfl rfl (by decide +kernel) ⟨Nat.le_of_ble_eq_true rfl, Nat.le_of_ble_eq_true rfl⟩) hK hP zkL_0 (by decide) rfl rfl hl.1 rfl (Nat.le_of_ble_eq_true rfl) dL_law_1219 ⟨Nat.le_of_ble_eq_true rfl, Nat.le_of_ble_eq_true rfl⟩) hS (fun H locs hP hS => ?_)
                                                                          refine lv_aload_n hx hb dL_law_1222 rfl (lv_at hl 2 rfl) ?_
                                                                          refine lv_aload_n hx hb dL_law_1223 rfl (lv_at hl 0 rfl) ?_
                                                                          refine lv_iload_n hx hb dL_law_1224 rfl (lv_at hl 3 rfl) ?_
                                                                          refine lv_iconst (v := 1) hx hb dL_law_1225 (by decide) ?_
                                                                          refine lv_iadd hx hb dL_law_1226 ?_
                                                                          refine va_sld hx hb hX hbl hbA hS hi1 dL_law_1227 ?_
                                                                          refine x_calli (r := r) (I2 := I) (J2 := J) (x_runV (As := [.int (xs (x3 + 1).toNatClampNeg)]) (rest := [.int r]) ⟨hx, hb, hml, hown, hts⟩ (c_X9_count l G hG I J (xs (x3 + 1).toNatClampNeg) hf2) (cwV 1 hts gL_law_X9_count rfl rfl rfl (by decide +kernel) ⟨Nat.le_of_ble_eq_true rfl, Nat.le_of_ble_eq_true rfl⟩) hK hP zkL_359 (by decide) rfl rfl hl.1 rfl (Nat.le_of_ble_eq_true rfl) dL_law_1228 ⟨Nat.le_of_ble_eq_true rfl, Nat.le_of_ble_eq_true rfl⟩) hS (fun H locs hP hS => ?_)
                                                                          refine lv_icmp_eq (tgt := 1236) hx hb dL_law_1231 (by decide) (fun _ => ?_) (fun c9 => absurd rfl c9)
                                                                          exact hnext I J H locs ls hI2 hP hS hl
                                                                        · skip
                                                                          rcases z_sw x 0 33 34 (by decide) with h | ⟨k9, hk9, e9⟩
                                                                          · exact lv_tableOut hx hb dL_law_32 h (by decide) (hnext I J H locs ls (hst.1 n I J hI) hP hS hl)
                                                                          · match k9, hk9, e9 with
                                                                            | 0, _, e => exact absurd (e.trans (by decide)) c0
                                                                            | 1, _, e => exact absurd (e.trans (by decide)) c1
                                                                            | 2, _, e => exact absurd (e.trans (by decide)) c2
                                                                            | 3, _, e => exact absurd (e.trans (by decide)) c3
                                                                            | 4, _, e => exact absurd (e.trans (by decide)) c4
                                                                            | 5, _, e => exact absurd (e.trans (by decide)) c5
                                                                            | 6, _, e => exact absurd (e.trans (by decide)) c6
                                                                            | 7, _, e => exact absurd (e.trans (by decide)) c7
                                                                            | 8, _, e => exact absurd (e.trans (by decide)) c8
                                                                            | 9, _, e => exact absurd (e.trans (by decide)) c9
                                                                            | 10, _, e => exact absurd (e.trans (by decide)) c10
                                                                            | 11, _, e => exact absurd (e.trans (by decide)) c11
                                                                            | 12, _, e => exact absurd (e.trans (by decide)) c12
                                                                            | 13, _, e => exact absurd (e.trans (by decide)) c13
                                                                            | 14, _, e => exact absurd (e.trans (by decide)) c14
                                                                            | 15, _, e => exact absurd (e.trans (by decide)) c15
                                                                            | 16, _, e => exact absurd (e.trans (by decide)) c16
                                                                            | 17, _, e => exact absurd (e.trans (by decide)) c17
                                                                            | 18, _, e => exact absurd (e.trans (by decide)) c18
                                                                            | 19, _, e => exact absurd (e.trans (by decide)) c19
                                                                            | 20, _, e => exact absurd (e.trans (by decide)) c20
                                                                            | 21, _, e => exact absurd (e.trans (by decide)) c21
                                                                            | 22, _, e => exact absurd (e.trans (by decide)) c22
                                                                            | 23, _, e => exact absurd (e.trans (by decide)) c23
                                                                            | 24, _, e => exact absurd (e.trans (by decide)) c24
                                                                            | 25, _, e => exact absurd (e.trans (by decide)) c25
                                                                            | 26, _, e => exact absurd (e.trans (by decide)) c26
                                                                            | 27, _, e => exact absurd (e.trans (by decide)) c27
                                                                            | 28, _, e => exact absurd (e.trans (by decide)) c28
                                                                            | 29, _, e => exact absurd (e.trans (by decide)) c29
                                                                            | 30, _, e => exact absurd (e.trans (by decide)) c30
                                                                            | 31, _, e => exact absurd (e.trans (by decide)) c31
                                                                            | 32, _, e => exact absurd (e.trans (by decide)) c32
                                                                            | 33, _, e => exact absurd (e.trans (by decide)) c33
                                                                            | _ + 34, hk, _ => exact absurd hk (by omega)
