/-! PURE 23: claim, whole; the claim that is served; the fee -/
theorem bad_claim {I : zM} {o : Nat} {x t y z : Int32} (hp : f_X2_isPerson I o x = some 0 ∨ f_X2_isPerson I o x = some 1) (ht : f_X2_isTool I o t = some 0 ∨ f_X2_isTool I o t = some 1) (h : y < 0 ∨ 9 < y ∨ z < 1 ∨ ¬ z ≤ 30) : f_X2_enterClaim I o x t y z = some (-1, I) := by
  have hj : f_X2_enterClaim_j20 I o x t y z = some (-1, I) := by
    unfold f_X2_enterClaim_j20 f_X2_enterClaim_j21
    rw [if_pos rfl]
  have hj1 : f_X2_enterClaim_j21 I o x t y z 1 = some (-1, I) := by
    unfold f_X2_enterClaim_j21
    rw [if_neg one0]
    by_cases a1 : y < 0
    · rw [if_pos a1]
    · rw [if_neg a1]
      by_cases a2 : 9 < y
      · rw [if_pos a2]
      · rw [if_neg a2]
        by_cases a3 : z < 1
        · rw [if_pos a3]
        · rw [if_neg a3]
          rcases h with h | h | h | h
          · exact absurd h a1
          · exact absurd h a2
          · exact absurd h a3
          · rw [if_neg h]
  unfold f_X2_enterClaim
  rcases hp with hp | hp
  · rw [hp, zb_s, if_pos rfl, hj]
  · rw [hp, zb_s, if_neg one0]
    rcases ht with ht | ht
    · rw [ht, zb_s, if_pos rfl, hj]
    · rw [ht, zb_s, if_neg one0, hj1]
theorem zb_eta {f : Option (Int32 × zM)} : zb f (fun q => some (q.1, q.2)) = f := by
  cases f with
  | none => rfl
  | some q => rfl
theorem d_claim {I J : zM} {B : Nat} (hB : B ≤ 2 ^ 20) (x t v : Int32) : Deed I J 1 B (f_X8_claim I x t v) (f_X9_claim J x t v) := by
  intro np nt hM hR
  obtain ⟨c1, c2, c3, c4, c5, c6, -⟩ := hR.1
  unfold f_X8_claim
  rw [zb_eta]
  have hp := pr_isPerson c3 c4 c1 x
  have ht := pr_isTool c5 c6 c2 t
  have hp2 : f_X2_isPerson I 1 x = some 0 ∨ f_X2_isPerson I 1 x = some 1 := hp.elim (fun h => Or.inl h.1) (fun ⟨q, _, _, h, _⟩ => Or.inr h)
  have ht2 : f_X2_isTool I 1 t = some 0 ∨ f_X2_isTool I 1 t = some 1 := ht.elim (fun h => Or.inl h.1) (fun ⟨q, _, _, h, _⟩ => Or.inr h)
  have bad : (v < 0 ∨ ¬ v ≤ 999 ∨ v - v / 100 * 100 < 1 ∨ ¬ v - v / 100 * 100 ≤ 30) → f_X9_claim J x t v = some (-1, J) := by
    intro h
    unfold f_X9_claim
    rcases hp with ⟨-, e2⟩ | ⟨q, hq, rfl, -, e2⟩
    · rw [e2, zb_s, if_pos rfl]
    · rw [e2, zb_s, if_neg one0]
      rcases ht with ⟨-, e2⟩ | ⟨u, hu, rfl, -, e2⟩
      · rw [e2, zb_s, if_pos rfl]
      · rw [e2, zb_s, if_neg one0, in_e, in_e]
        by_cases a1 : v < 0
        · rw [if_pos a1, zb_s, if_pos rfl]
        · rw [if_neg a1]
          by_cases a2 : v ≤ 999
          · rw [if_pos a2, zb_s, if_neg one0]
            by_cases a3 : v - v / 100 * 100 < 1
            · rw [if_pos a3, zb_s, if_pos rfl]
            · rw [if_neg a3]
              rcases h with h | h | h | h
              · exact absurd h a1
              · exact absurd a2 h
              · exact absurd h a3
              · rw [if_neg h, zb_s, if_pos rfl]
          · rw [if_neg a2, zb_s, if_pos rfl]
  by_cases hv : v < 0
  · rw [if_neg (Int32.not_le.mpr hv)]
    exact dd_same hM hR (-1) rfl (bad (Or.inl hv))
  · rw [if_pos (Int32.not_lt.mp hv)]
    obtain ⟨k, hk, rfl⟩ := nI_of hv
    have ediv : nI k / 100 = nI (k / 100) := pk_div hk (d := 100) (by decide) (by decide)
    have erem : nI k - nI k / 100 * 100 = nI (k % 100) := pk_rem hk (d := 100) (by decide) (by decide)
    rw [erem] at bad
    rw [erem, ediv]
    by_cases g1 : k < 1000
    · by_cases g2 : 1 ≤ k % 100 ∧ k % 100 ≤ 30
      · have h := d_claimN (I := I) (J := J) (o := 1) hB x t (ur := k / 100) (dd := k % 100) (by omega) g2.1 g2.2 np nt hM hR
        rw [show 100 * (k / 100) + k % 100 = k by omega] at h
        exact h
      · refine dd_same hM hR (-1) ?_ ?_
        · refine bad_claim hp2 ht2 (Or.inr (Or.inr ?_))
          rcases Nat.eq_zero_or_pos (k % 100) with h | h
          · rw [h]
            exact Or.inl (by decide)
          · exact Or.inr (nI_ge (a := 30) (by omega) (by omega))
        · refine bad (Or.inr (Or.inr ?_))
          rcases Nat.eq_zero_or_pos (k % 100) with h | h
          · rw [h]
            exact Or.inl (by decide)
          · exact Or.inr (nI_ge (a := 30) (by omega) (by omega))
    · refine dd_same hM hR (-1) ?_ ?_
      · exact bad_claim hp2 ht2 (Or.inr (Or.inl (nI_lt (a := 9) (by omega) (by omega))))
      · exact bad (Or.inr (Or.inl (nI_ge (a := 999) (by omega) hk)))
-- the claim that is served
theorem l_serve {I J : zM} {o np nt B t w x : Nat} (hB : B ≤ 2 ^ 20) (hR : RO I o (J 1) np nt B) (ht : t < nt) {L S : List zCl} (hc : RTc I (o + 39 + 7 * t) (J 1) (180 + t * 90) np B L S) (hw : I (o + 39 + 7 * t) 0 = nI w) (hw2 : J 1 (180 + t * 90 + 0) = nI w) (hx2 : J 1 (180 + t * 90 + 1) = nI x) (hx : x < 9) : ∀ (d y fI fJ : Nat), L.length = y + d → d < fI → d < fJ → (∃ p j c, L[p]? = some c ∧ S[j]? = some c ∧ f_X2_claimServed_l13 I o (o + 39 + 7 * t) fI (nI y) = some (nI p) ∧ f_X9_nextClaim_l2 J (nI t) fJ (nI y) = some (nI j)) ∨ (f_X2_claimServed_l13 I o (o + 39 + 7 * t) fI (nI y) = some (-1) ∧ f_X9_nextClaim_l2 J (nI t) fJ (nI y) = some (-2)) := by
  have hnp := hR.1.1
  have hnt := hR.1.2.1
  have h8 : L.length ≤ 8 := hc.1.2.2.2.1
  have hpl := hc.2.2.2.2.1.length_eq
  intro d
  induction d with
  | zero =>
    intro y fI fJ hd hfI hfJ
    obtain ⟨m, rfl⟩ : ∃ m, fI = m + 1 := ⟨fI - 1, by omega⟩
    obtain ⟨m', rfl⟩ : ∃ m, fJ = m + 1 := ⟨fJ - 1, by omega⟩
    rw [f_X2_claimServed_l13, f_X9_nextClaim_l2, sp_size hc.1, zb_s, if_pos (nI_le (by omega) (by omega)), sp_57 (show t < 10 by omega) hc, zb_s, if_pos (nI_le (by omega) (by omega))]
    exact Or.inr ⟨rfl, rfl⟩
  | succ d ih =>
    intro y fI fJ hd hfI hfJ
    obtain ⟨m, rfl⟩ : ∃ m, fI = m + 1 := ⟨fI - 1, by omega⟩
    obtain ⟨m', rfl⟩ : ∃ m, fJ = m + 1 := ⟨fJ - 1, by omega⟩
    have hy : y < L.length := by omega
    rcases pr_claimAt (show t < 10 by omega) hc hB hnp (k := y) (by omega) with ⟨j, c, k1, k2, k3⟩ | ⟨k1, -⟩
    · have hjl := (List.getElem?_eq_some_iff.mp k1).1
      have hq : c.1 < np := (hc.2.2.2.2.2.2.1 c (List.mem_of_getElem? k2)).1
      have hp1 := (hR.2.1 c.1 hq).1 1 (by decide)
      have q1 : f_X9_p J (nI c.1) 1 = some (I (o + 15 + 2 * c.1) 1) := by rw [hp1]; exact sp_p J (q := c.1) (f := 1) (by omega)
      have t1 : f_X9_t J (nI t) 1 = some (nI x) := by rw [← hx2]; exact sp_t J (t := t) (f := 1) (by omega)
      have t0 : f_X9_t J (nI t) 0 = some (nI w) := by rw [← hw2]; exact sp_t J (t := t) (f := 0) (by omega)
      have hmay : f_X9_mayPay J (nI t) (nI c.1) = some (if I (o + 15 + 2 * c.1) 1 < nI w then 0 else 1) := by
        unfold f_X9_mayPay
        rw [t1, zb_s, if_neg (show ¬ (9 : Int32) ≤ nI x from nI_ge (b := 9) hx (by decide)), q1, zb_s, t0, zb_s]
        split <;> rfl
      rw [f_X2_claimServed_l13, f_X9_nextClaim_l2, sp_size hc.1, zb_s, if_neg (nI_ge (by omega) (by omega)), (sp_clC hc k2).1, zb_s, sp_personAt I o (by omega), zb_s, hw, sp_57 (show t < 10 by omega) hc, zb_s, if_neg (nI_ge (by omega) (by omega)), k3, zb_s, (sp_clR (show t < 10 by omega) hc k1).1, zb_s, hmay, zb_s]
      by_cases g : I (o + 15 + 2 * c.1) 1 < nI w
      · rw [if_pos g, if_pos g, if_pos rfl, nI_1]
        exact ih (y + 1) m m' (by omega) (by omega) (by omega)
      · rw [if_neg g, if_neg g, if_neg one0]
        exact Or.inl ⟨y, j, c, k2, k1, rfl, rfl⟩
    · omega
theorem l_none {I J : zM} {t x np B T : Nat} (ht : t < 10) (hB : B ≤ 2 ^ 20) (hnp : np ≤ 12) {L S : List zCl} (hc : RTc I T (J 1) (180 + t * 90) np B L S) (hx2 : J 1 (180 + t * 90 + 1) = nI x) (hx : 9 ≤ x) (hx9 : x ≤ 9) : ∀ (d y fJ : Nat), L.length = y + d → d < fJ → f_X9_nextClaim_l2 J (nI t) fJ (nI y) = some (-2) := by
  have h8 : L.length ≤ 8 := hc.1.2.2.2.1
  have hpl := hc.2.2.2.2.1.length_eq
  intro d
  induction d with
  | zero =>
    intro y fJ hd hfJ
    obtain ⟨m', rfl⟩ : ∃ m, fJ = m + 1 := ⟨fJ - 1, by omega⟩
    rw [f_X9_nextClaim_l2, sp_57 ht hc, zb_s, if_pos (nI_le (by omega) (by omega))]
  | succ d ih =>
    intro y fJ hd hfJ
    obtain ⟨m', rfl⟩ : ∃ m, fJ = m + 1 := ⟨fJ - 1, by omega⟩
    rcases pr_claimAt ht hc hB hnp (k := y) (by omega) with ⟨j, c, k1, k2, k3⟩ | ⟨k1, -⟩
    · have t1 : f_X9_t J (nI t) 1 = some (nI x) := by rw [← hx2]; exact sp_t J (t := t) (f := 1) (by omega)
      have hmay : f_X9_mayPay J (nI t) (nI c.1) = some 0 := by
        unfold f_X9_mayPay
        rw [t1, zb_s, if_pos (show (9 : Int32) ≤ nI x from nI_le (a := 9) hx (by omega))]
      rw [f_X9_nextClaim_l2, sp_57 ht hc, zb_s, if_neg (nI_ge (by omega) (by omega)), k3, zb_s, (sp_clR ht hc k1).1, zb_s, hmay, zb_s, if_pos rfl, nI_1]
      exact ih (y + 1) m' (by omega) (by omega)
    · omega
theorem pr_served {I J : zM} {o np nt B t : Nat} (hB : B ≤ 2 ^ 20) (hR : RO I o (J 1) np nt B) (ht : t < nt) {L S : List zCl} (hc : RTc I (o + 39 + 7 * t) (J 1) (180 + t * 90) np B L S) : (∃ p j c, L[p]? = some c ∧ S[j]? = some c ∧ f_X2_claimServed I o (o + 39 + 7 * t) = some (nI p) ∧ f_X9_nextClaim J (nI t) = some (nI j)) ∨ (f_X2_claimServed I o (o + 39 + 7 * t) = some (-1) ∧ f_X9_nextClaim J (nI t) = some (-2)) := by
  have hz := zFu_big
  have hnp := hR.1.1
  have hnt := hR.1.2.1
  have h8 : L.length ≤ 8 := hc.1.2.2.2.1
  obtain ⟨w, x, g, w1, w2, x1, g1, z1, z2, z3, z4, z5, z6⟩ := RO_num hR ht
  unfold f_X2_claimServed f_X9_nextClaim
  rw [z3]
  by_cases c : x < 9
  · rw [if_pos (show nI x < 9 from nI_lt (b := 9) c (by decide))]
    exact l_serve hB hR ht hc z1 z2 z4 c L.length 0 zFu zFu (by omega) (by omega) (by omega)
  · rw [if_neg (show ¬ nI x < 9 from nI_nlt (b := 9) (by omega) (by omega))]
    exact Or.inr ⟨rfl, l_none (by omega) hB hnp hc z4 (by omega) x1 L.length 0 zFu (by omega) (by omega)⟩
theorem pr_offer {I J : zM} {o np nt B t : Nat} (hB : B ≤ 2 ^ 20) (hM : MT I o) (hR : RO I o (J 1) np nt B) (ht : t < nt) : ∃ M N, f_X2_offer I o (o + 39 + 7 * t) = some M ∧ f_X9_offered J (nI t) = some N ∧ MT M o ∧ RO M o (N 1) np nt (B + 1) ∧ FJ J N := by
  have hnp := hR.1.1
  have hnt := hR.1.2.1
  obtain ⟨e, n, m, L, S, -, -, -, hc⟩ := hR.2.2 t ht
  have h8 : L.length ≤ 8 := hc.1.2.2.2.1
  have hpl := hc.2.2.2.2.1.length_eq
  unfold f_X2_offer f_X9_offered
  rcases pr_served hB hR ht hc with ⟨p, j, c, k1, k2, k3, k4⟩ | ⟨k3, k4⟩
  · have hpl1 := (List.getElem?_eq_some_iff.mp k1).1
    have hjl := (List.getElem?_eq_some_iff.mp k2).1
    obtain ⟨hq, -, -, hd, -⟩ := hc.2.2.2.2.2.2.1 c (List.mem_of_getElem? k1)
    obtain ⟨M, N, L2, S2, r1, r2, r3, r4, r5, r6, r7, r8⟩ := RO_goes hM hR ht hc k1 k2
    obtain ⟨M2, N2, v, s1, s2, s3, s4, s5, s6⟩ := RO_lease hB r3 r4 ht hq hd
    rw [k3, k4, zb_s, zb_s, if_neg (nI_pos (by omega)), if_neg (nI_pos (by omega)), (sp_clC hc k1).1, (sp_clC hc k1).2.2.1, zb_s, zb_s, (sp_clR (show t < 10 by omega) hc k2).1, (sp_clR (show t < 10 by omega) hc k2).2.2.1, zb_s, zb_s, r1, r2, zb_s, zb_s, s1, s2, zb_s, zb_s]
    exact ⟨M2, N2, rfl, rfl, s4, s5, FJ_t (FJ_1 r5) s6⟩
  · rw [k3, k4, zb_s, zb_s, if_pos (by decide), if_pos (by decide)]
    exact ⟨I, J, rfl, rfl, hM, RO_m hR (Nat.le_succ B), FJ_r⟩
theorem pr_fee {I J : zM} {o np nt B t : Nat} (hR : RO I o (J 1) np nt B) (ht : t < nt) (dy : Int32) (hl : f_X7_isLeased I (o + 39 + 7 * t) = some 1) (hdue : I (o + 39 + 7 * t) 4 = J 1 (180 + t * 90 + 4)) : ∃ x, f_X7_feeOn I (o + 39 + 7 * t) dy = some x ∧ f_X9_fee J (nI t) dy = some x := by
  have hnt := hR.1.2.1
  obtain ⟨w, x, g, w1, w2, x1, g1, z1, z2, z3, z4, z5, z6⟩ := RO_num hR ht
  have t4 : f_X9_t J (nI t) 4 = some (J 1 (180 + t * 90 + 4)) := sp_t J (t := t) (f := 4) (by omega)
  have t0 : f_X9_t J (nI t) 0 = some (nI w) := by rw [← z2]; exact sp_t J (t := t) (f := 0) (by omega)
  have t5 : f_X9_t J (nI t) 5 = some (nI g) := by rw [← z6]; exact sp_t J (t := t) (f := 5) (by omega)
  have hj : ∀ s : Int32, f_X9_fee_j30 J (nI t) s = some (if nI g < s then nI g else s) := fun s => by
    unfold f_X9_fee_j30
    rw [t5, zb_s, zb_s]
    by_cases c : nI g ≤ s
    · rw [if_pos c]
      by_cases c2 : nI g < s
      · rw [if_pos c2]
      · rw [if_neg c2, Int32.le_antisymm c (Int32.not_lt.mp c2)]
    · rw [if_neg c, if_neg (fun h => c (Int32.le_of_lt h))]
  unfold f_X7_feeOn f_X7_daysLateOn f_X9_fee
  rw [hl, zb_s, if_neg one0, hdue, zlet_s, zb_s, z1, z5, zlet_s, t4, zb_s, zlet_s, t0, zb_s, hj, hj]
  generalize dy - J 1 (180 + t * 90 + 4) = l
  by_cases c : l ≤ 0
  · have e0 : (if l < 0 then (0 : Int32) else l) = 0 := by
      by_cases c2 : l < 0
      · rw [if_pos c2]
      · rw [if_neg c2]
        exact Int32.le_antisymm c (Int32.not_lt.mp c2)
    rw [e0, if_pos c, Int32.zero_mul]
    exact ⟨_, rfl, rfl⟩
  · rw [if_neg c, if_neg (fun h => c (Int32.le_of_lt h))]
    exact ⟨_, rfl, rfl⟩
