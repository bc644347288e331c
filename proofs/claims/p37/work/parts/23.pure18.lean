/-! PURE 18: look -/
theorem sub_neg1 {k m : Nat} (hk : k ≤ 99) (hm : m < 2 ^ 31) (h : k < m) : nI k - nI m < 0 := by
  rw [Int32.lt_iff_toInt_lt, Int32.toInt_sub, nI_toInt (by omega), nI_toInt hm]
  have h0 : (0 : Int32).toInt = 0 := by decide
  rw [h0, Int.bmod_eq_of_le (by omega) (by omega)]
  omega
theorem trust_dn {k : Nat} {n : Int32} (hk : k ≤ 99) (hn : 0 < n) (J : zM) : ∃ v, v ≤ 99 ∧ (if nI k - n < 0 then 0 else nI k - n) = nI v ∧ f_X9_cut J (nI k - n) 0 99 = some (nI v) := by
  obtain ⟨m, hm, rfl⟩ := nI_of (x := n) (Int32.not_lt.mpr (Int32.le_of_lt hn))
  unfold f_X9_cut
  by_cases c : k < m
  · have hs := sub_neg1 hk hm c
    refine ⟨0, by omega, if_pos hs, ?_⟩
    rw [if_neg (Int32.not_le.mpr hs)]
    rfl
  · rw [pk_sub (by omega), if_neg (nI_pos (by omega)), if_pos (show (0 : Int32) ≤ nI (k - m) from nI_pos' (by omega)), if_pos (show nI (k - m) ≤ 99 from nI_le (b := 99) (by omega) (by decide))]
    exact ⟨k - m, by omega, rfl, rfl⟩
theorem RO_b {I I2 : zM} {o np nt B : Nat} {A : Nat → Int32} (hR : RO I o A np nt B) (h : FB I I2 (o + 12)) : RO I2 o A np nt B := RO_o hR (fun k a b => h k (by omega) (by omega) (by omega)) (fun k a b => rfl) (RC_c hR.1 (h o (by omega) (by omega) (by omega)) (fun k a b => rfl))
theorem MT_b {I I2 : zM} {o : Nat} (hM : MT I o) (h : FB I I2 (o + 12)) (h2 : TM I2 (o + 13) 12 1) : MT I2 o := ⟨fun t ht => ⟨TM_c (hM.1 t ht).1 (h _ (by omega) (by omega) (by omega)), TM_c (hM.1 t ht).2.1 (h _ (by omega) (by omega) (by omega)), TM_c (hM.1 t ht).2.2 (h _ (by omega) (by omega) (by omega))⟩, h2⟩
theorem nd_get {P : List Nat} (h : P.Nodup) {i j : Nat} (hi : i < P.length) (hj : j < P.length) (e : P[i] = P[j]) : i = j := by
  have hp := List.pairwise_iff_getElem.mp h
  rcases Nat.lt_trichotomy i j with c | c | c
  · exact absurd e (hp i j hi hj c)
  · exact c
  · exact absurd e.symm (hp j i hj hi c)
-- what the one at place y of those blamed pays
def shareV (cost : Int32) (len y : Nat) : Int32 := if y = 0 then cost - cost / nI len * (nI len - 1) else cost / nI len
theorem zne_t {k : Nat} (h : 0 < k) (h2 : k < 2 ^ 31) : zne (nI k) = true := by
  unfold zne
  have := nI_ne0 h h2
  simp [this]
theorem sp_shareC {I J : zM} {h y : Nat} {P : List Nat} (hb : BL I J h P) (hy : y < P.length) (cost : Int32) : f_X0_shareOf I h (nI P[y]) cost = some (shareV cost P.length y) := by
  have hlen := hb.len
  obtain ⟨b1, b2, b3, b4, b5, b6⟩ := hb
  have h12 : P[y] < 12 := b6 _ (List.getElem_mem hy)
  have h0 : P[0] < 12 := b6 _ (List.getElem_mem (by omega))
  unfold f_X0_shareOf f_X0_personAt shareV
  have c0 := sp_cell b1 (i := 0) (j := 0) (by omega) (by decide)
  have c0 : f_X4_cell I (h + 1) 0 0 = _ := c0
  have e0 := (b2 0 P[0] (List.getElem?_eq_getElem (by omega))).1
  rw [show 0 * 1 + 0 = 0 from rfl, e0] at c0
  rw [sp_size b1, zb_s, if_neg (nI_nle (by omega) (by omega)), sp_isBlamed b3 b6 h12, if_pos (List.getElem_mem hy), zb_s, if_neg one0, zck_t (zne_t (by omega) (by omega)), zlet_s, c0, zb_s, zb_s]
  by_cases c : y = 0
  · subst c
    rw [if_pos rfl, if_pos rfl]
  · have hne : ¬ nI P[y] = nI P[0] := fun e => c (nd_get b5 hy (by omega) ((nI_eq (by omega) (by omega)).mp e))
    rw [if_neg hne, if_neg c]
theorem sp_shareR {J : zM} {len y : Nat} (h6 : J 0 6 = nI len) (h0 : 0 < len) (hl : len ≤ 12) (hy : y < len) (cost : Int32) : f_X9_shareOf J cost (nI y) = some (shareV cost len y) := by
  unfold f_X9_shareOf shareV
  rw [h6, zck_t (zne_t h0 (by omega)), zlet_s]
  by_cases c : y = 0
  · subst c
    rw [if_pos (show nI 0 = 0 from rfl), if_pos rfl]
  · rw [if_neg (nI_ne0 (by omega) (by omega)), if_neg c]
theorem l_looks {o np nt B : Nat} (n cost : Int32) (hn : 0 < n) {P : List Nat} (hPn : ∀ q, q ∈ P → q < np) (K : zM → Option (Int32 × zM)) : ∀ (d y fI fJ : Nat) (I J : zM), P.length = y + d → d < fI → d < fJ → MT I o → RO I o (J 1) np nt B → BL I J (o + 12) P → ∃ I2 J2, f_X2_lookAt_l52 o n cost K fI I (nI y) = K I2 ∧ f_X9_looks_l31 n cost fJ J (nI y) = some (nI P.length, J2) ∧ MT I2 o ∧ RO I2 o (J2 1) np nt B ∧ BL I2 J2 (o + 12) P ∧ (∀ a, a ≠ 1 → J2 a = J a) ∧ ∀ k, o + 39 ≤ k → I2 k = I k := by
  intro d
  induction d with
  | zero =>
    intro y fI fJ I J hd hfI hfJ hM hR hb
    obtain ⟨m, rfl⟩ : ∃ m, fI = m + 1 := ⟨fI - 1, by omega⟩
    obtain ⟨m', rfl⟩ : ∃ m, fJ = m + 1 := ⟨fJ - 1, by omega⟩
    have hlen := hb.len
    rw [f_X2_lookAt_l52, f_X9_looks_l31]
    unfold f_X0_size
    rw [sp_size hb.1, zb_s, zb_s, if_pos (nI_le (by omega) (by omega)), hb.2.2.2.1, if_pos (nI_le (by omega) (by omega))]
    exact ⟨I, J, rfl, rfl, hM, hR, hb, fun _ _ => rfl, fun _ _ => rfl⟩
  | succ d ih =>
    intro y fI fJ I J hd hfI hfJ hM hR hb
    obtain ⟨m, rfl⟩ : ∃ m, fI = m + 1 := ⟨fI - 1, by omega⟩
    obtain ⟨m', rfl⟩ : ∃ m, fJ = m + 1 := ⟨fJ - 1, by omega⟩
    have hlen := hb.len
    have hy : y < P.length := by omega
    have hq := hPn P[y] (List.getElem_mem hy)
    have sC := sp_shareC hb hy cost
    have sR := sp_shareR hb.2.2.2.1 (by omega) hlen hy cost
    obtain ⟨b1, b2⟩ := hb.2.1 y P[y] (List.getElem?_eq_getElem hy)
    have hnp := hR.1.1
    have c0 := sp_cell hb.1 (i := y) (j := 0) hy (by decide)
    have c0 : f_X4_cell I (o + 12 + 1) (nI y) 0 = _ := c0
    rw [show y * 1 + 0 = y by omega, b1] at c0
    generalize hqq : P[y] = q at *
    generalize shareV cost P.length y = s at *
    have hp1 := (hR.2.1 q hq).1 1 (by decide)
    have hp4 := (hR.2.1 q hq).1 4 (by decide)
    have hp2 := (hR.2.1 q hq).1 2 (by decide)
    obtain ⟨k, hk, hk2⟩ := (hR.2.1 q hq).2.2.2
    obtain ⟨v, hv, v1, v2⟩ := trust_dn hk hn J
    have v2' : ∀ N : zM, f_X9_cut N (nI k - n) 0 99 = some (nI v) := fun N => v2
    have htill := hR.1.2.2.2.2.2.2.2.1
    -- the common memories
    generalize hw : (if s < I (o + 15 + 2 * q) 1 then s else I (o + 15 + 2 * q) 1) = w
    have hR1 := RO_setP (v := I (o + 15 + 2 * q) 1 - w) hR hq (f := 1) (by decide) (by decide)
    have hR2 := RO_setP (v := I (o + 15 + 2 * q) 4 + (s - w)) hR1 hq (f := 4) (by decide) (by decide)
    have hR3 := RO_till (v := I o 8 + w) hR2
    have hR4 := RO_trust hR3 hq hv
    have hM4 := MT_p (j := 2) (v := nI v) (MT_o (j := 8) (v := I o 8 + w) (MT_p (j := 4) (v := I (o + 15 + 2 * q) 4 + (s - w)) (MT_p (j := 1) (v := I (o + 15 + 2 * q) 1 - w) hM (q := q) (by omega)) (q := q) (by omega))) (q := q) (by omega)
    generalize hI4 : ms (ms (ms (ms I (o + 15 + 2 * q) 1 (I (o + 15 + 2 * q) 1 - w)) (o + 15 + 2 * q) 4 (I (o + 15 + 2 * q) 4 + (s - w))) o 8 (I o 8 + w)) (o + 15 + 2 * q) 2 (nI v) = I4 at hR4 hM4
    generalize hJ4 : ms (ms (ms (ms J 1 (q * 15 + 1) (I (o + 15 + 2 * q) 1 - w)) 1 (q * 15 + 4) (I (o + 15 + 2 * q) 4 + (s - w))) 1 1083 (I o 8 + w)) 1 (q * 15 + 2) (nI v) = J4
    have hJ4' : J4 1 = upd (upd (upd (upd (J 1) (q * 15 + 1) (I (o + 15 + 2 * q) 1 - w)) (q * 15 + 4) (I (o + 15 + 2 * q) 4 + (s - w))) 1083 (I o 8 + w)) (q * 15 + 2) (nI v) := by rw [← hJ4, ms_s, ms_s, ms_s, ms_s]
    rw [← hJ4'] at hR4
    have kJ : ∀ a, a ≠ 1 → J4 a = J a := fun a ha => by rw [← hJ4, ms_n ha, ms_n ha, ms_n ha, ms_n ha]
    have kI : ∀ k, k ≠ o → k ≠ o + 15 + 2 * q → I4 k = I k := fun k h1 h2 => by rw [← hI4, ms_n h2, ms_n h1, ms_n h2, ms_n h2]
    have hb4 : BL I4 J4 (o + 12) P := by
      obtain ⟨x1, x2, x3, x4, x5, x6⟩ := hb
      refine ⟨TB_c x1 (kI _ (by omega) (by omega)), fun i z hi => ?_, ?_, ?_, x5, x6⟩
      · rw [kI _ (by omega) (by omega), kJ 5 (by decide)]
        exact x2 i z hi
      · rw [kI _ (by omega) (by omega)]
        exact x3
      · rw [kJ 0 (by decide)]
        exact x4
    obtain ⟨I2, J2, r1, r2, r3, r4, r5, r6, r7⟩ := ih (y + 1) m m' I4 J4 (by omega) (by omega) (by omega) hM4 hR4 hb4
    refine ⟨I2, J2, ?_, ?_, r3, r4, r5, fun a ha => (r6 a ha).trans (kJ a ha), fun k hk => (r7 k hk).trans (kI k (by omega) (by omega))⟩
    · rw [← r1, f_X2_lookAt_l52]
      unfold f_X0_size f_X0_personAt f_X3_payOrOwe f_X3_loseTrust
      rw [sp_size hb.1, zb_s, zb_s, if_neg (nI_ge (by omega) (by omega)), c0, zb_s, zb_s, sp_personAt I o (by omega), zb_s, zb_s, sC, zb_s]
      simp only [zlet_s, zb_s, hw]
      rw [nI_1]
      have e4 : ms I (o + 15 + 2 * q) 1 (I (o + 15 + 2 * q) 1 - w) (o + 15 + 2 * q) 4 = I (o + 15 + 2 * q) 4 := ms_sn (by decide)
      rw [e4]
      have e2 : ms (ms (ms I (o + 15 + 2 * q) 1 (I (o + 15 + 2 * q) 1 - w)) (o + 15 + 2 * q) 4 (I (o + 15 + 2 * q) 4 + (s - w))) o 8 (I o 8 + w) (o + 15 + 2 * q) 2 = nI k := by
        rw [ms_n (by omega), ms_sn (by decide), ms_sn (by decide), hp2, hk2]
      rw [e2, v1, hI4]
    · have q1 : f_X9_p J (nI q) 1 = some (I (o + 15 + 2 * q) 1) := by rw [hp1]; exact sp_p J (q := q) (f := 1) (by omega)
      have s1 : ∀ z, f_X9_setP J (nI q) 1 z = some (ms J 1 (q * 15 + 1) z) := fun z => sp_setP J (q := q) (f := 1) (by omega) z
      have q4 : ∀ z, f_X9_p (ms J 1 (q * 15 + 1) z) (nI q) 4 = some (I (o + 15 + 2 * q) 4) := fun z => by
        rw [show f_X9_p (ms J 1 (q * 15 + 1) z) (nI q) 4 = some (ms J 1 (q * 15 + 1) z 1 (q * 15 + 4)) from sp_p _ (q := q) (f := 4) (by omega), ms_sn (by omega), hp4]
      have s4 : ∀ N z, f_X9_setP N (nI q) 4 z = some (ms N 1 (q * 15 + 4) z) := fun N z => sp_setP N (q := q) (f := 4) (by omega) z
      have q2 : ∀ a b c, f_X9_p (ms (ms (ms J 1 (q * 15 + 1) a) 1 (q * 15 + 4) b) 1 1083 c) (nI q) 2 = some (nI k) := fun a b c => by
        rw [show f_X9_p (ms (ms (ms J 1 (q * 15 + 1) a) 1 (q * 15 + 4) b) 1 1083 c) (nI q) 2 = some (ms (ms (ms J 1 (q * 15 + 1) a) 1 (q * 15 + 4) b) 1 1083 c 1 (q * 15 + 2)) from sp_p _ (q := q) (f := 2) (by omega), ms_sn (by omega), ms_sn (by omega), ms_sn (by omega), hk2]
      have s2 : ∀ N z, f_X9_setP N (nI q) 2 z = some (ms N 1 (q * 15 + 2) z) := fun N z => sp_setP N (q := q) (f := 2) (by omega) z
      have t83 : ∀ a b, ms (ms J 1 (q * 15 + 1) a) 1 (q * 15 + 4) b 1 1083 = I o 8 := fun a b => by rw [ms_sn (by omega), ms_sn (by omega), htill]
      have assoc : ∀ a b c : Int32, a + b - c = a + (b - c) := fun a b c => by rw [Int32.sub_eq_add_neg, Int32.add_assoc, ← Int32.sub_eq_add_neg]
      rw [← r2, f_X9_looks_l31, hb.2.2.2.1, if_neg (nI_ge (by omega) (by omega)), zck_t (zin_t (by omega) (by decide)), zlet_s, nI_clamp (by omega), b2, sR, zb_s, q1, zb_s]
      by_cases c : s ≤ I (o + 15 + 2 * q) 1
      · have hws : w = s := by
          rw [← hw]
          by_cases c2 : s < I (o + 15 + 2 * q) 1
          · rw [if_pos c2]
          · rw [if_neg c2]
            exact (Int32.le_antisymm c (Int32.not_lt.mp c2)).symm
        rw [hws] at hJ4
        rw [if_pos c, zb_s, s1, zb_s, q4, zb_s, s4, zb_s]
        simp only [zlet_s, t83, q2, zb_s, v2', s2, assoc]
        rw [nI_1, hJ4]
      · have hws : w = I (o + 15 + 2 * q) 1 := by rw [← hw, if_neg (fun h => c (Int32.le_of_lt h))]
        rw [hws] at hJ4
        rw [if_neg c, zb_s, zb_s, s1, zb_s, q4, zb_s, s4, zb_s]
        simp only [zlet_s, t83, q2, zb_s, v2', s2, assoc]
        rw [nI_1, hJ4]
