/-! FAIR 11: the acts -/
-- between the calls: class and reference agree, and the reference is fair
def KQ (n C : Nat) (I J : zM) : Prop := ∃ B0 B, B0 ≤ 64 * n ∧ B ≤ 16 * n ∧ PV B0 I J ∧ FF C B J
theorem KQ_fair {n C : Nat} {I J : zM} (hn : n < 512) (hC : C < 2 ^ 31) (h : KQ n C I J) : f_L_isFair I (nI C) = some 1 := by
  obtain ⟨B0, B, b0, b, ⟨np, nt, hR, hH, m1, m2, m3, hT, hI, b1, b2⟩, hF⟩ := h
  exact k_fair (by omega) m1 hR hH hT hC (by omega) (FF_at hR hF)
theorem KQ_coins {n C : Nat} {I J : zM} (hn : n < 512) (h : KQ n C I J) : f_X8_swaps I 3 = some (nI C) := by
  obtain ⟨B0, B, b0, b, ⟨np, nt, hR, hH, m1, m2, m3, hT, hI, b1, b2⟩, hF⟩ := h
  exact u_coins (by omega) m1 hR (FF_at hR hF)
theorem KQ_deed {n C : Nat} {I J : zM} {fI fJ : Option (Int32 × zM)} (C2 : Int32 → Nat) (hn : n < 512) (h : ∀ B, B + 64 ≤ 2 ^ 20 → Deed2 I J 1 B fI fJ) (hf : ∀ r, fI = some r → FM 1 110 I r.2) (hk : ∀ (B0 B np nt : Nat) (r : Int32) (N : zM), B0 ≤ 2 ^ 20 → B ≤ 2 ^ 20 → MT I 1 → RO I 1 (J 1) np nt B0 → FF C B J → fJ = some (r, N) → FF (C2 r) (B + 12) N) (hP : KQ n C I J) : ∃ (r : Int32) (I2 J2 : zM), fI = some (r, I2) ∧ fJ = some (r, J2) ∧ KQ (n + 1) (C2 r) I2 J2 ∧ J2 4 = J 4 ∧ J2 0 4 = J 0 4 := by
  obtain ⟨B0, B, h0, hB, hV, hF⟩ := hP
  have hV0 := hV
  obtain ⟨np, nt, hR, hH, m1, m2, m3, hT, hI, b1, b2⟩ := hV
  obtain ⟨r, I2, J2, np2, nt2, q1, q2, q3, q4, q5, q6, q7⟩ := h B0 (by omega) np nt m1 hR
  obtain ⟨r', I2', J2', e1, e2, e3⟩ := St_m (St_deed (h B0 (by omega)) hf) (show B0 + 2 ≤ B0 + 64 by omega) hV0
  have ej := k_e (e2.symm.trans q2)
  obtain ⟨er, eJ⟩ := ej
  subst er
  subst eJ
  refine ⟨r', I2', J2', e1, e2, ⟨B0 + 64, B + 12, by omega, by omega, e3, hk B0 B np nt r' J2' (by omega) (by omega) m1 hR hF q2⟩, q7.1 4 (by decide) (by decide) (by decide) (by decide), q7.2 4 (by decide)⟩
theorem s_wish {n C : Nat} {I J : zM} (hn : n < 512) (a b c : Int32) (hP : KQ n C I J) : ∃ (r : Int32) (I2 J2 : zM), f_X8_wish I a b c = some (r, I2) ∧ f_X9_wish J a b c = some (r, J2) ∧ KQ (n + 1) C I2 J2 ∧ J2 4 = J 4 ∧ J2 0 4 = J 0 4 :=
  KQ_deed (fun _ => C) hn (fun B hB => by
    unfold f_X8_wish
    rw [zb_eta]
    exact Deed.two (d_wish a b c)) (fun r hr => by
    unfold f_X8_wish at hr
    rw [zb_eta] at hr
    exact fm_X2_setWish 1 110 (by decide +kernel) (by decide) hr) (fun B0 B np nt r N h0 hB hM hR hF h => FF_m (FF_k hR hF (k_wish hR h)) (by omega)) hP
theorem s_lease {n C : Nat} {I J : zM} (hn : n < 512) (a b c : Int32) (hP : KQ n C I J) : ∃ (r : Int32) (I2 J2 : zM), f_X8_lease I a b c = some (r, I2) ∧ f_X9_lease J a b c = some (r, J2) ∧ KQ (n + 1) C I2 J2 ∧ J2 4 = J 4 ∧ J2 0 4 = J 0 4 :=
  KQ_deed (fun _ => C) hn (fun B hB => by
    unfold f_X8_lease
    rw [zb_eta]
    exact Deed.two (d_lease (by omega) a b c)) (fun r hr => by
    unfold f_X8_lease at hr
    rw [zb_eta] at hr
    exact fm_X2_leaseTo 1 110 (by decide +kernel) (by decide) hr) (fun B0 B np nt r N h0 hB hM hR hF h => FF_m (k_lease hR hF h) (by omega)) hP
theorem s_claim {n C : Nat} {I J : zM} (hn : n < 512) (a b c : Int32) (hP : KQ n C I J) : ∃ (r : Int32) (I2 J2 : zM), f_X8_claim I a b c = some (r, I2) ∧ f_X9_claim J a b c = some (r, J2) ∧ KQ (n + 1) C I2 J2 ∧ J2 4 = J 4 ∧ J2 0 4 = J 0 4 :=
  KQ_deed (fun _ => C) hn (fun B hB => Deed.two (d_claim (by omega) a b c)) (fun r hr => by
    unfold f_X8_claim at hr
    split at hr
    · rw [zb_eta] at hr
      exact fm_X2_enterClaim 1 110 (by decide +kernel) (by decide) hr
    · cases hr
      exact FM_r) (fun B0 B np nt r N h0 hB hM hR hF h => FF_m (FF_k hR hF (k_claim hR h)) (by omega)) hP
theorem s_waive {n C : Nat} {I J : zM} (hn : n < 512) (a b : Int32) (hP : KQ n C I J) : ∃ (r : Int32) (I2 J2 : zM), f_X8_waive I a b = some (r, I2) ∧ f_X9_waive J a b = some (r, J2) ∧ KQ (n + 1) C I2 J2 ∧ J2 4 = J 4 ∧ J2 0 4 = J 0 4 :=
  KQ_deed (fun _ => C) hn (fun B hB => by
    unfold f_X8_waive
    rw [zb_eta]
    exact Deed.two (d_waive a b)) (fun r hr => by
    unfold f_X8_waive at hr
    rw [zb_eta] at hr
    exact fm_X2_dropClaim 1 110 (by decide +kernel) (by decide) hr) (fun B0 B np nt r N h0 hB hM hR hF h => FF_m (FF_k hR hF (k_waive hR h)) (by omega)) hP
theorem s_pass {n C : Nat} {I J : zM} (hn : n < 512) (hC : C < 2 ^ 31) (a b : Int32) (hP : KQ n C I J) : ∃ (r : Int32) (I2 J2 : zM), f_X8_pass I a b = some (r, I2) ∧ f_X9_pass J a b = some (r, J2) ∧ KQ (n + 1) C I2 J2 ∧ J2 4 = J 4 ∧ J2 0 4 = J 0 4 :=
  KQ_deed (fun _ => C) hn (fun B hB => by
    unfold f_X8_pass
    rw [zb_eta]
    exact Deed.two (d_pass (by omega) a b)) (fun r hr => by
    unfold f_X8_pass at hr
    rw [zb_eta] at hr
    exact fm_X2_passOn 1 110 (by decide +kernel) (by decide) hr) (fun B0 B np nt r N h0 hB hM hR hF h => FF_m (k_pass hR hC hF h) (by omega)) hP
theorem s_swap {n C : Nat} {I J : zM} (hn : n < 512) (hC : C < 2 ^ 31) (a b : Int32) (hP : KQ n C I J) : ∃ (r : Int32) (I2 J2 : zM), f_X8_swap I a b = some (r, I2) ∧ f_X9_swap J a b = some (r, J2) ∧ KQ (n + 1) C I2 J2 ∧ J2 4 = J 4 ∧ J2 0 4 = J 0 4 :=
  KQ_deed (fun _ => C) hn (fun B hB => by
    unfold f_X8_swap
    rw [zb_eta]
    exact d_swap (by omega) a b) (fun r hr => by
    unfold f_X8_swap at hr
    rw [zb_eta] at hr
    exact fm_X2_exchange 1 110 (by decide +kernel) (by decide) hr) (fun B0 B np nt r N h0 hB hM hR hF h => FF_m (k_swap hR hC hF h) (by omega)) hP
theorem s_use {n C : Nat} {I J : zM} (hn : n < 512) (a b : Int32) (hP : KQ n C I J) : ∃ (r : Int32) (I2 J2 : zM), f_X8_use I a b = some (r, I2) ∧ f_X9_use J a b = some (r, J2) ∧ KQ (n + 1) C I2 J2 ∧ J2 4 = J 4 ∧ J2 0 4 = J 0 4 :=
  KQ_deed (fun _ => C) hn (fun B hB => by
    unfold f_X8_use
    rw [zb_eta]
    exact Deed.two (d_use a b)) (fun r hr => by
    unfold f_X8_use at hr
    rw [zb_eta] at hr
    exact fm_X2_wearDown 1 110 (by decide +kernel) (by decide) hr) (fun B0 B np nt r N h0 hB hM hR hF h => FF_m (FF_k hR hF (k_use hR h)) (by omega)) hP
theorem s_look {n C : Nat} {I J : zM} (hn : n < 512) (hC : C < 2 ^ 31) (a : Int32) (hP : KQ n C I J) : ∃ (r : Int32) (I2 J2 : zM), f_X8_look I a = some (r, I2) ∧ f_X9_look J a = some (r, J2) ∧ KQ (n + 1) C I2 J2 ∧ J2 4 = J 4 ∧ J2 0 4 = J 0 4 :=
  KQ_deed (fun _ => C) hn (fun B hB => by
    unfold f_X8_look
    rw [zb_eta]
    exact Deed.two (d_look (by omega) a)) (fun r hr => by
    unfold f_X8_look at hr
    rw [zb_eta] at hr
    exact fm_X2_lookAt 1 110 (by decide +kernel) (by decide) hr) (fun B0 B np nt r N h0 hB hM hR hF h => k_look h0 hM hR hC hF h) hP
theorem s_days {n C : Nat} {I J : zM} (hn : n < 512) (a : Int32) (hP : KQ n C I J) : ∃ (r : Int32) (I2 J2 : zM), f_X8_days I a = some (r, I2) ∧ f_X9_days J a = some (r, J2) ∧ KQ (n + 1) C I2 J2 ∧ J2 4 = J 4 ∧ J2 0 4 = J 0 4 :=
  KQ_deed (fun _ => C) hn (fun B hB => by
    unfold f_X8_days
    rw [zb_eta]
    exact Deed.two (d_days (by omega) a)) (fun r hr => by
    unfold f_X8_days at hr
    rw [zb_eta] at hr
    exact fm_X2_passDays 1 110 (by decide +kernel) (by decide) hr) (fun B0 B np nt r N h0 hB hM hR hF h => FF_m (k_days hR hB hF h) (by omega)) hP
theorem s_tool {n C : Nat} {I J : zM} (hn : n < 512) (a : Int32) (hP : KQ n C I J) : ∃ (r : Int32) (I2 J2 : zM), f_X8_tool I a = some (r, I2) ∧ f_X9_tool J a = some (r, J2) ∧ KQ (n + 1) C I2 J2 ∧ J2 4 = J 4 ∧ J2 0 4 = J 0 4 :=
  KQ_deed (fun _ => C) hn (fun B hB => by
    unfold f_X8_tool
    rw [zb_eta]
    exact Deed.two (d_tool a)) (fun r hr => by
    unfold f_X8_tool at hr
    rw [zb_eta] at hr
    exact fm_X2_enterTool 1 110 (by decide +kernel) (by decide) hr) (fun B0 B np nt r N h0 hB hM hR hF h => FF_m (k_tool hR hF h) (by omega)) hP
theorem s_person {n C k : Nat} {I J : zM} (hn : n < 512) (hC : C + 10000 < 2 ^ 31) (hk : k ≤ 9999) (a : Int32) (hP : KQ n C I J) : ∃ (r : Int32) (I2 J2 : zM), f_X8_person I a (nI k) = some (r, I2) ∧ f_X9_person J a (nI k) = some (r, J2) ∧ KQ (n + 1) (if r < 0 then C else C + k) I2 J2 ∧ J2 4 = J 4 ∧ J2 0 4 = J 0 4 :=
  KQ_deed (fun r => if r < 0 then C else C + k) hn (fun B hB => by
    unfold f_X8_person
    rw [zb_eta]
    exact Deed.two (d_person zL1 a (nI k))) (fun r hr => by
    unfold f_X8_person at hr
    rw [zb_eta] at hr
    exact fm_X2_enterPerson 1 110 (by decide +kernel) (by decide) hr) (fun B0 B np nt r N h0 hB hM hR hF h => FF_m (k_person hR hC hk hF h) (by omega)) hP
theorem s_fund {n C k : Nat} {I J : zM} (hn : n < 512) (hC : C + 1000 < 2 ^ 31) (hk : k ≤ 999) (a : Int32) (hP : KQ n C I J) : ∃ (r : Int32) (I2 J2 : zM), f_X8_fund I a (nI k) = some (r, I2) ∧ f_X9_fund J a (nI k) = some (r, J2) ∧ KQ (n + 1) (if r < 0 then C else C + k) I2 J2 ∧ J2 4 = J 4 ∧ J2 0 4 = J 0 4 :=
  KQ_deed (fun r => if r < 0 then C else C + k) hn (fun B hB => by
    unfold f_X8_fund
    rw [zb_eta]
    exact Deed.two (d_fund a (nI k))) (fun r hr => by
    unfold f_X8_fund at hr
    rw [zb_eta] at hr
    exact fm_X2_bringCoins 1 110 (by decide +kernel) (by decide) hr) (fun B0 B np nt r N h0 hB hM hR hF h => FF_m (k_fund hR hB hC hk hF h) (by omega)) hP
theorem s_returned {n C : Nat} {I J : zM} (hn : n < 512) (hC : C < 2 ^ 31) (a : Int32) (hP : KQ n C I J) : ∃ (r : Int32) (I2 J2 : zM), f_X8_returned I a = some (r, I2) ∧ f_X9_returned J a = some (r, J2) ∧ KQ (n + 1) C I2 J2 ∧ J2 4 = J 4 ∧ J2 0 4 = J 0 4 :=
  KQ_deed (fun _ => C) hn (fun B hB => by
    unfold f_X8_returned
    rw [zb_eta]
    exact Deed.two (d_returned (by omega) a)) (fun r hr => by
    unfold f_X8_returned at hr
    rw [zb_eta] at hr
    exact fm_X2_giveBack 1 110 (by decide +kernel) (by decide) hr) (fun B0 B np nt r N h0 hB hM hR hF h => (k_returned h0 hM hR hC hF h).1) hP
-- a cell of the script
theorem k_cell {L : Nat} (hL : L ≤ 260) (xs : Nat → Int32) (I : zM) (x : Int32) : ∃ v, f_L_cell L xs I x = some v := by
  unfold f_L_cell
  by_cases h : Int32.ofNat L = 0
  · rw [if_pos h]
    exact ⟨_, rfl⟩
  · have hL0 : 0 < L := by
      rcases Nat.eq_zero_or_pos L with e | e
      · exact absurd (by rw [e]; rfl) h
      · exact e
    obtain ⟨j, hj, ej⟩ := pk_andE x (m := 65535) 16 (by decide)
    have e : nI j - nI j / Int32.ofNat L * Int32.ofNat L = nI (j % L) := pk_rem (by omega) hL0 (by omega)
    have hlt := Nat.mod_lt j hL0
    rw [if_neg h, ej, e, zck_t (show zne (Int32.ofNat L) = true from decide_eq_true h), zck_t (zin_t hlt (by omega))]
    exact ⟨_, rfl⟩
theorem k_act0 {n C : Nat} {J : zM} {fI fJ : Option (Int32 × zM)} (h : ∃ (r : Int32) (I2 J2 : zM), fI = some (r, I2) ∧ fJ = some (r, J2) ∧ KQ (n + 1) C I2 J2 ∧ J2 4 = J 4 ∧ J2 0 4 = J 0 4) : ∃ (k : Nat) (M J2 : zM), k ≤ 255 ∧ zb fI (fun q => some (0, q.2)) = some (nI k, M) ∧ KQ (n + 1) (C + k) M J2 := by
  obtain ⟨r, I2, J2, e1, -, e3, -⟩ := h
  rw [e1, zb_s]
  exact ⟨0, I2, J2, by decide, rfl, e3⟩
theorem k_act1 {n C k : Nat} {J : zM} {fI fJ : Option (Int32 × zM)} (hk : k ≤ 255) (h : ∃ (r : Int32) (I2 J2 : zM), fI = some (r, I2) ∧ fJ = some (r, J2) ∧ KQ (n + 1) (if r < 0 then C else C + k) I2 J2 ∧ J2 4 = J 4 ∧ J2 0 4 = J 0 4) : ∃ (k' : Nat) (M J2 : zM), k' ≤ 255 ∧ zb fI (fun q => if q.1 < 0 then some (0, q.2) else some (nI k, q.2)) = some (nI k', M) ∧ KQ (n + 1) (C + k') M J2 := by
  obtain ⟨r, I2, J2, e1, -, e3, -⟩ := h
  rw [e1, zb_s]
  by_cases c : r < 0
  · rw [if_pos c] at e3
    exact ⟨0, I2, J2, by decide, if_pos c, e3⟩
  · rw [if_neg c] at e3
    exact ⟨k, I2, J2, hk, if_neg c, e3⟩
theorem k_act {n C L : Nat} {I J : zM} (hL : L ≤ 260) (xs : Nat → Int32) (hn : n < 512) (hC : C + 20000 < 2 ^ 31) (x : Int32) (hP : KQ n C I J) : ∃ (k : Nat) (M J2 : zM), k ≤ 255 ∧ f_L_act L xs I x = some (nI k, M) ∧ KQ (n + 1) (C + k) M J2 := by
  obtain ⟨v, hv⟩ := k_cell hL xs I x
  unfold f_L_act
  rw [hv, zb_s, zlet_s, zlet_s, zlet_s]
  generalize (v >>> ((4 : Int32) &&& 31)) &&& 65535 = y
  generalize y &&& 7 = p
  generalize (y >>> ((3 : Int32) &&& 31)) &&& 7 = t
  by_cases c0 : v &&& 15 = 0
  · obtain ⟨j, hj, ej⟩ := pk_andE (y >>> ((6 : Int32) &&& 31)) (m := 255) 8 (by decide)
    rw [if_pos c0, zlet_s, ej]
    exact k_act1 (show j ≤ 255 by omega) (s_person hn (by omega) (by omega) _ hP)
  rw [if_neg c0]
  by_cases c1 : v &&& 15 = 1
  · rw [if_pos c1]
    exact k_act0 (s_tool hn _ hP)
  rw [if_neg c1]
  by_cases c2 : v &&& 15 = 2
  · rw [if_pos c2]
    exact k_act0 (s_lease hn _ _ _ hP)
  rw [if_neg c2]
  by_cases c3 : v &&& 15 = 3
  · rw [if_pos c3]
    exact k_act0 (s_lease hn _ _ _ hP)
  rw [if_neg c3]
  by_cases c4 : v &&& 15 = 4
  · rw [if_pos c4]
    exact k_act0 (s_lease hn _ _ _ hP)
  rw [if_neg c4]
  by_cases c5 : v &&& 15 = 5
  · rw [if_pos c5]
    exact k_act0 (s_claim hn _ _ _ hP)
  rw [if_neg c5]
  by_cases c6 : v &&& 15 = 6
  · rw [if_pos c6]
    exact k_act0 (s_returned hn (by omega) _ hP)
  rw [if_neg c6]
  by_cases c7 : v &&& 15 = 7
  · rw [if_pos c7]
    exact k_act0 (s_returned hn (by omega) _ hP)
  rw [if_neg c7]
  by_cases c8 : v &&& 15 = 8
  · rw [if_pos c8]
    exact k_act0 (s_pass hn (by omega) _ _ hP)
  rw [if_neg c8]
  by_cases c9 : v &&& 15 = 9
  · rw [if_pos c9]
    exact k_act0 (s_swap hn (by omega) _ _ hP)
  rw [if_neg c9]
  by_cases c10 : v &&& 15 = 10
  · rw [if_pos c10]
    exact k_act0 (s_use hn _ _ hP)
  rw [if_neg c10]
  by_cases c11 : v &&& 15 = 11
  · rw [if_pos c11]
    exact k_act0 (s_look hn (by omega) _ hP)
  rw [if_neg c11]
  by_cases c12 : v &&& 15 = 12
  · rw [if_pos c12]
    exact k_act0 (s_days hn _ hP)
  rw [if_neg c12]
  by_cases c13 : v &&& 15 = 13
  · rw [if_pos c13]
    exact k_act0 (s_wish hn _ _ _ hP)
  rw [if_neg c13]
  by_cases c14 : v &&& 15 = 14
  · obtain ⟨j, hj, ej⟩ := pk_andE (y >>> ((3 : Int32) &&& 31)) (m := 63) 6 (by decide)
    rw [if_pos c14, zlet_s, ej, show (1 : Int32) + nI j = nI (1 + j) from nI_add 1 j]
    exact k_act1 (show 1 + j ≤ 255 by omega) (s_fund hn (by omega) (by omega) _ hP)
  rw [if_neg c14]
  exact k_act0 (s_waive hn _ _ hP)
