/-! FAIR 2: a tool is leased, passed on -/
def KA (J N : zM) : Prop := (∀ a, a ≠ 1 → N a = J a) ∧ N 1 1080 = J 1 1080 ∧ N 1 1081 = J 1 1081
theorem k_leased {J : zM} {np nt C B t q w k : Nat} (hnp : np ≤ 12) (hnt : nt ≤ 10) (ht : t < nt) (hq : q < np) (hF : FA (J 1) np nt C B) (ho : J 1 (180 + t * 90 + 2) = -1) (hw : J 1 (180 + t * 90 + 0) = nI w) (hw1 : 1 ≤ w) (hw9 : w ≤ 99) (hk : J 1 (q * 15 + 1) = nI k) (hk2 : k < 2 ^ 31) (hwk : w ≤ k) (dy : Int32) {v : Int32} {N : zM} (h : f_X9_leased J (nI t) (nI q) dy = some (v, N)) : FA (N 1) np nt C B ∧ KA J N := by
  have hF0 := hF
  obtain ⟨h1, h2, ⟨dd, d1, d2, d3⟩, ⟨c, c1, c2⟩, h5⟩ := hF
  obtain ⟨n, n8, n6, L, hd, m, x, m1, m2, x9, m3, m4⟩ := d3 t ht
  have q0 : ∀ N : zM, f_X9_t N (nI t) 0 = some (N 1 (180 + t * 90 + 0)) := fun N => sp_t N (t := t) (f := 0) (by omega)
  have q1 : f_X9_p J (nI q) 1 = some (nI k) := by rw [← hk]; exact sp_p J (q := q) (f := 1) (by omega)
  have s1 : f_X9_setP J (nI q) 1 (nI (k - w)) = some (ms J 1 (q * 15 + 1) (nI (k - w))) := sp_setP J (q := q) (f := 1) (by omega) _
  unfold f_X9_leased at h
  rw [q1, zb_s, q0, zb_s, hw, pk_sub hwk, s1, zb_s, q0, zb_s] at h
  generalize hJ1 : ms J 1 (q * 15 + 1) (nI (k - w)) = J1 at h
  have kk : ∀ a, a ≠ q * 15 + 1 → J1 1 a = J 1 a := fun a ha => by rw [← hJ1, ms_sn ha]
  have k1 : J1 1 (q * 15 + 1) = nI (k - w) := by rw [← hJ1, ms_ss]
  have e0 : J1 1 (180 + t * 90 + 0) = nI w := by rw [kk _ (by omega), hw]
  have s5 : f_X9_setT J1 (nI t) 5 (nI w) = some (ms J1 1 (180 + t * 90 + 5) (nI w)) := sp_setT J1 (t := t) (f := 5) (by omega) _
  have s4 : ∀ N : zM, ∀ v, f_X9_setT N (nI t) 4 v = some (ms N 1 (180 + t * 90 + 4) v) := fun N v => sp_setT N (t := t) (f := 4) (by omega) _
  rw [e0, s5, zb_s, s4, zb_s] at h
  generalize hJ2 : ms (ms J1 1 (180 + t * 90 + 5) (nI w)) 1 (180 + t * 90 + 4) (ms J1 1 (180 + t * 90 + 5) (nI w) 1 1082 + dy) = J2 at h
  have j2 : ∀ a, a ≠ 180 + t * 90 + 4 → a ≠ 180 + t * 90 + 5 → J2 1 a = J1 1 a := fun a h1 h2 => by rw [← hJ2, ms_sn h1, ms_sn h2]
  have j5 : J2 1 (180 + t * 90 + 5) = nI w := by rw [← hJ2, ms_sn (by omega), ms_ss]
  have h6 : J2 1 (180 + t * 90 + 6) = nI n := by rw [j2 _ (by omega) (by omega), kk _ (by omega)]; exact n6
  have h82 : J2 1 1082 = nI dd := by rw [j2 _ (by omega) (by omega), kk _ (by omega), d2]
  obtain ⟨M, g1, g2, g3, g4, g5, g6, g7, g8⟩ := sp_begins (J := J2) (t := t) (by omega) n8 h6 (nI q)
  rw [h82] at g8
  rw [g1, zb_s] at h
  obtain ⟨-, rfl⟩ := Prod.mk.inj (Option.some.inj h)
  have jk : ∀ a, (a < 180 + t * 90 + 2 ∨ 180 + t * 90 + 32 ≤ a) → a ≠ q * 15 + 1 → M 1 a = J 1 a := fun a h1 h2 => by rw [g3 a (by omega), j2 a (by omega) (by omega), kk a h2]
  have mq : M 1 (q * 15 + 1) = nI (k - w) := by rw [g3 _ (by omega), j2 _ (by omega) (by omega), k1]
  have m5 : M 1 (180 + t * 90 + 5) = nI w := by rw [g3 _ (by omega), j5]
  have g0 : J 1 (180 + t * 90 + 5) = nI 0 := by
    rcases hd with ⟨-, a⟩ | ⟨p, g, p1, a, -⟩
    · exact a
    · exact absurd (a.symm.trans ho) (nI_nm1 (by omega))
  have e1 := SP_1 (A := J 1) (A2 := M 1) (q := q) np hq (fun u hu hn => jk _ (by omega) (by omega))
  have e2 := SD_1 (A := J 1) (A2 := M 1) (t := t) nt ht (fun u hu hn => jk _ (by omega) (by omega))
  rw [hk, mq, cN_n hk2, cN_n (by omega)] at e1
  rw [g0, m5, cN_n (by decide), cN_n (by omega)] at e2
  rw [c2, cN_n c1] at h5
  refine ⟨FA_w hF0 d1 ((jk _ (by omega) (by omega)).trans d2) (fun u hu => ?_) (fun u hu => jk _ (by omega) (by omega)) (fun u hu => ?_) c1 ((jk _ (by omega) (by omega)).trans c2) (by omega), fun a ha => by rw [g2 a ha, ← hJ2, ms_n ha, ms_n ha, ← hJ1, ms_n ha], jk _ (by omega) (by omega), jk _ (by omega) (by omega)⟩
  · by_cases e : u = q
    · subst e
      obtain ⟨-, ⟨d, b1, b2⟩, b3⟩ := h1 u hq
      refine ⟨⟨k - w, by omega, mq⟩, ⟨d, b1, (jk _ (by omega) (by omega)).trans b2⟩, ?_⟩
      rw [jk _ (by omega) (by omega)]
      exact b3
    · exact FP_c (h1 u hu) (jk _ (by omega) (by omega)) (jk _ (by omega) (by omega)) (jk _ (by omega) (by omega)) (Nat.le_refl _)
  · by_cases e : u = t
    · subst e
      refine ⟨pushN n 8, pushN_le n8, g6, ?_, Or.inr ⟨q, w, by omega, g4, hw1, hw9, m5, pushN_pos (by decide)⟩, m, x, m1, m2, x9, (jk _ (by omega) (by omega)).trans m3, (jk _ (by omega) (by omega)).trans m4⟩
      rw [g4]
      rw [ho] at L
      refine FL_push L (nI_nm1 (by omega)) n8 (fun i j hi hj => (g8 i j hi hj).trans (pushR_congr n8 (fun i hi => ?_)))
      show J2 1 _ = J 1 _
      rw [j2 _ (by omega) (by omega), kk _ (by omega)]
    · exact FT_c (d3 u hu) (jk _ (by omega) (by omega)) (jk _ (by omega) (by omega)) (jk _ (by omega) (by omega)) (fun a a1 a2 => jk _ (by omega) (by omega)) (Nat.le_refl _)
theorem k_passes {J : zM} {np nt C B t p p0 k g : Nat} (hC : C < 2 ^ 31) (hnp : np ≤ 12) (hnt : nt ≤ 10) (ht : t < nt) (hp : p < np) (hp0 : p0 < np) (hne : p ≠ p0) (hF : FA (J 1) np nt C B) (hh : J 1 (180 + t * 90 + 2) = nI p0) (hg : J 1 (180 + t * 90 + 5) = nI g) (hg9 : g ≤ 99) (hk : J 1 (p * 15 + 1) = nI k) (hk2 : k < 2 ^ 31) (hgk : g ≤ k) {N : zM} (h : f_X9_passes J (nI t) (nI p) = some N) : FA (N 1) np nt C B ∧ KA J N ∧ N 1 (180 + t * 90 + 2) = nI p ∧ (∀ a, 180 ≤ a → a < 1083 → (a < 180 + t * 90 ∨ 180 + t * 90 + 90 ≤ a) → N 1 a = J 1 a) := by
  have hF0 := hF
  obtain ⟨h1, h2, ⟨dd, d1, d2, d3⟩, ⟨c, c1, c2⟩, h5⟩ := hF
  obtain ⟨n, n8, n6, L, hd, m, x, m1, m2, x9, m3, m4⟩ := d3 t ht
  obtain ⟨⟨k0, k01, k02⟩, -, -⟩ := h1 p0 hp0
  have hout : 1 ≤ g ∧ 1 ≤ n := by
    rcases hd with ⟨a, -⟩ | ⟨p', g', p1, a1, a2, a3, a4, a5⟩
    · exact absurd (hh.symm.trans a) (nI_nm1 (by omega))
    · have := nI_inj (hg.symm.trans a4) (by omega) (by omega)
      omega
  have lsum : k0 + g < 2 ^ 31 := by
    have l1 := SP_le (A := J 1) np hp0
    have l2 := SD_le (A := J 1) nt ht
    rw [k02, cN_n k01] at l1
    rw [hg, cN_n (by omega)] at l2
    omega
  have q2 : f_X9_t J (nI t) 2 = some (nI p0) := by rw [← hh]; exact sp_t J (t := t) (f := 2) (by omega)
  have q1 : f_X9_p J (nI p) 1 = some (nI k) := by rw [← hk]; exact sp_p J (q := p) (f := 1) (by omega)
  have q5 : f_X9_t J (nI t) 5 = some (nI g) := by rw [← hg]; exact sp_t J (t := t) (f := 5) (by omega)
  have s1 : f_X9_setP J (nI p) 1 (nI (k - g)) = some (ms J 1 (p * 15 + 1) (nI (k - g))) := sp_setP J (q := p) (f := 1) (by omega) _
  unfold f_X9_passes at h
  rw [q2, zb_s, q1, zb_s, q5, zb_s, pk_sub hgk, s1, zb_s] at h
  generalize hJ1 : ms J 1 (p * 15 + 1) (nI (k - g)) = J1 at h
  have kk : ∀ a, a ≠ p * 15 + 1 → J1 1 a = J 1 a := fun a ha => by rw [← hJ1, ms_sn ha]
  have k1 : J1 1 (p * 15 + 1) = nI (k - g) := by rw [← hJ1, ms_ss]
  have q11 : f_X9_p J1 (nI p0) 1 = some (nI k0) := by
    rw [show f_X9_p J1 (nI p0) 1 = some (J1 1 (p0 * 15 + 1)) from sp_p J1 (q := p0) (f := 1) (by omega), kk _ (by omega), k02]
  have q15 : f_X9_t J1 (nI t) 5 = some (nI g) := by
    rw [show f_X9_t J1 (nI t) 5 = some (J1 1 (180 + t * 90 + 5)) from sp_t J1 (t := t) (f := 5) (by omega), kk _ (by omega), hg]
  have s11 : f_X9_setP J1 (nI p0) 1 (nI (k0 + g)) = some (ms J1 1 (p0 * 15 + 1) (nI (k0 + g))) := sp_setP J1 (q := p0) (f := 1) (by omega) _
  rw [q11, zb_s, q15, zb_s, nI_add, s11, zb_s] at h
  generalize hJ2 : ms J1 1 (p0 * 15 + 1) (nI (k0 + g)) = J2 at h
  have j2 : ∀ a, a ≠ p * 15 + 1 → a ≠ p0 * 15 + 1 → J2 1 a = J 1 a := fun a h1 h2 => by rw [← hJ2, ms_sn h2, kk a h1]
  have j2p : J2 1 (p * 15 + 1) = nI (k - g) := by rw [← hJ2, ms_sn (by omega), k1]
  have j2q : J2 1 (p0 * 15 + 1) = nI (k0 + g) := by rw [← hJ2, ms_ss]
  have h6 : J2 1 (180 + t * 90 + 6) = nI n := by rw [j2 _ (by omega) (by omega)]; exact n6
  have h82 : J2 1 1082 = nI dd := by rw [j2 _ (by omega) (by omega), d2]
  have rE := sp_ends (J := J2) (t := t) (by omega) hout.2 n8 h6
  rw [h82] at rE
  rw [rE, zb_s] at h
  generalize hJ3 : ms (ms J2 1 (180 + t * 90 + (8 + 3 * (n - 1) + 2)) (nI dd)) 1 (180 + t * 90 + 2) (-1) = J3 at h
  have j3 : ∀ a, a ≠ 180 + t * 90 + 2 → a ≠ 180 + t * 90 + (8 + 3 * (n - 1) + 2) → J3 1 a = J2 1 a := fun a h1 h2 => by rw [← hJ3, ms_sn h1, ms_sn h2]
  have j3l : J3 1 (180 + t * 90 + (8 + 3 * (n - 1) + 2)) = nI dd := by rw [← hJ3, ms_sn (by omega), ms_ss]
  have h36 : J3 1 (180 + t * 90 + 6) = nI n := by rw [j3 _ (by omega) (by omega), h6]
  have h382 : J3 1 1082 = nI dd := by rw [j3 _ (by omega) (by omega), h82]
  obtain ⟨M, g1, g2, g3, g4, g5, g6, g7, g8⟩ := sp_begins (J := J3) (t := t) (by omega) n8 h36 (nI p)
  rw [h382] at g8
  rw [g1, zb_s] at h
  obtain rfl := Option.some.inj h
  have jk : ∀ a, (a < 180 + t * 90 + 2 ∨ 180 + t * 90 + 32 ≤ a ∨ a = 180 + t * 90 + 5) → a ≠ p * 15 + 1 → a ≠ p0 * 15 + 1 → M 1 a = J 1 a := fun a h1 h2 h3 => by rw [g3 a (by omega), j3 a (by omega) (by omega), j2 a h2 h3]
  have mp : M 1 (p * 15 + 1) = nI (k - g) := by rw [g3 _ (by omega), j3 _ (by omega) (by omega), j2p]
  have mp0 : M 1 (p0 * 15 + 1) = nI (k0 + g) := by rw [g3 _ (by omega), j3 _ (by omega) (by omega), j2q]
  have m5 : M 1 (180 + t * 90 + 5) = nI g := by rw [jk _ (by omega) (by omega) (by omega), hg]
  have e1 := SP_1 (A := J 1) (A2 := upd (J 1) (p * 15 + 1) (nI (k - g))) (q := p) np hp (fun u hu hn => by rw [upd_at, if_neg (by omega)])
  have e3 := SP_1 (A := upd (J 1) (p * 15 + 1) (nI (k - g))) (A2 := M 1) (q := p0) np hp0 (fun u hu hn => by
    rw [upd_at]
    by_cases e : u = p
    · rw [e, if_pos rfl, mp]
    · rw [if_neg (by omega)]
      exact jk _ (by omega) (by omega) (by omega))
  have e2 := SD_c (A := J 1) (A2 := M 1) nt (fun u hu => jk _ (by omega) (by omega) (by omega))
  rw [upd_at, if_pos rfl, hk, cN_n hk2, cN_n (by omega)] at e1
  rw [upd_at, if_neg (by omega), k02, mp0, cN_n k01, cN_n lsum] at e3
  rw [c2, cN_n c1] at h5
  refine ⟨FA_w hF0 d1 ((jk _ (by omega) (by omega) (by omega)).trans d2) (fun u hu => ?_) (fun u hu => jk _ (by omega) (by omega) (by omega)) (fun u hu => ?_) c1 ((jk _ (by omega) (by omega) (by omega)).trans c2) (by omega), ⟨fun a ha => by rw [g2 a ha, ← hJ3, ms_n ha, ms_n ha, ← hJ2, ms_n ha, ← hJ1, ms_n ha], jk _ (by omega) (by omega) (by omega), jk _ (by omega) (by omega) (by omega)⟩, g4, fun a a1 a2 a3 => jk _ (by omega) (by omega) (by omega)⟩
  · by_cases e : u = p
    · subst e
      obtain ⟨-, ⟨d, b1, b2⟩, b3⟩ := h1 u hp
      refine ⟨⟨k - g, by omega, mp⟩, ⟨d, b1, (jk _ (by omega) (by omega) (by omega)).trans b2⟩, ?_⟩
      rw [jk _ (by omega) (by omega) (by omega)]
      exact b3
    · by_cases e' : u = p0
      · subst e'
        obtain ⟨-, ⟨d, b1, b2⟩, b3⟩ := h1 u hp0
        refine ⟨⟨k0 + g, lsum, mp0⟩, ⟨d, b1, (jk _ (by omega) (by omega) (by omega)).trans b2⟩, ?_⟩
        rw [jk _ (by omega) (by omega) (by omega)]
        exact b3
      · exact FP_c (h1 u hu) (jk _ (by omega) (by omega) (by omega)) (jk _ (by omega) (by omega) (by omega)) (jk _ (by omega) (by omega) (by omega)) (Nat.le_refl _)
  · by_cases e : u = t
    · subst e
      refine ⟨pushN n 8, pushN_le n8, g6, ?_, Or.inr ⟨p, g, by omega, g4, hout.1, hg9, m5, pushN_pos (by decide)⟩, m, x, m1, m2, x9, (jk _ (by omega) (by omega) (by omega)).trans m3, (jk _ (by omega) (by omega) (by omega)).trans m4⟩
      rw [g4]
      have L2 : FL (lkR (J3 1) (180 + u * 90)) n dd (-1) := FL_end L hout.2 (fun i j hi hj => by
        show J3 1 _ = if _ then _ else J 1 _
        by_cases e9 : i = n - 1 ∧ j = 2
        · rw [if_pos e9, e9.1, e9.2, j3l]
        · rw [if_neg e9, j3 _ (by omega) (by omega), j2 _ (by omega) (by omega)])
      exact FL_push L2 (nI_nm1 (by omega)) n8 g8
    · exact FT_c (d3 u hu) (jk _ (by omega) (by omega) (by omega)) (jk _ (by omega) (by omega) (by omega)) (jk _ (by omega) (by omega) (by omega)) (fun a a1 a2 => jk _ (by omega) (by omega) (by omega)) (Nat.le_refl _)
