/-! FAIR 4: a look: who is blamed pays, or owes -/
theorem k_spos {a b : Nat} (hb : b < 2 ^ 30) (h : 0 < nI a - nI b) : b < a := by
  rcases Nat.lt_trichotomy a b with c | c | c
  · exact absurd h (Int32.not_lt.mpr (Int32.le_of_lt (pk_sneg hb c)))
  · subst c
    rw [pk_sub (Nat.le_refl a), Nat.sub_self] at h
    exact absurd h (by decide)
  · exact c
-- a person pays p of what a look costs, and may owe more
theorem FA_pay {A A2 : Nat → Int32} {np nt C B q k p d c : Nat} (hnp : np ≤ 12) (hC : C < 2 ^ 31) (hF : FA A np nt C B) (hq : q < np) (hk : A (q * 15 + 1) = nI k) (hk2 : k < 2 ^ 31) (hc : A 1083 = nI c) (hc2 : c < 2 ^ 31) (hp : p ≤ k) (hd : d ≤ 99 * (B + 1)) (hA : ∀ a, a ≠ q * 15 + 1 → a ≠ q * 15 + 4 → a ≠ q * 15 + 2 → a ≠ 1083 → A2 a = A a) (h1 : A2 (q * 15 + 1) = nI (k - p)) (h4 : A2 (q * 15 + 4) = nI d) (h83 : A2 1083 = nI (c + p)) : FA A2 np nt C (B + 1) := by
  have hF0 := hF
  obtain ⟨f1, f2, ⟨dd, d1, d2, d3⟩, -, f5⟩ := hF
  have e1 := SP_1 (A := A) (A2 := A2) (q := q) np hq (fun u hu hn => hA _ (by omega) (by omega) (by omega) (by omega))
  have e2 := SD_c (A := A) (A2 := A2) nt (fun u hu => hA _ (by omega) (by omega) (by omega) (by omega))
  have l1 := SP_le (A := A) np hq
  rw [hk, h1, cN_n hk2, cN_n (by omega)] at e1
  rw [hk, cN_n hk2] at l1
  rw [hc, cN_n hc2] at f5
  refine FA_w hF0 (dd := dd) (c := c + p) (by omega) ((hA _ (by omega) (by omega) (by omega) (by omega)).trans d2) (fun u hu => ?_) (fun u hu => hA _ (by omega) (by omega) (by omega) (by omega)) (fun u hu => FT_c (d3 u hu) (hA _ (by omega) (by omega) (by omega) (by omega)) (hA _ (by omega) (by omega) (by omega) (by omega)) (hA _ (by omega) (by omega) (by omega) (by omega)) (fun a a1 a2 => hA _ (by omega) (by omega) (by omega) (by omega)) (Nat.le_refl _)) (by omega) h83 (by omega)
  by_cases e : u = q
  · subst e
    refine ⟨⟨k - p, by omega, h1⟩, ⟨d, hd, h4⟩, ?_⟩
    rw [hA _ (by omega) (by omega) (by omega) (by omega)]
    exact (f1 u hq).2.2
  · exact FP_c (f1 u hu) (hA _ (by omega) (by omega) (by omega) (by omega)) (hA _ (by omega) (by omega) (by omega) (by omega)) (hA _ (by omega) (by omega) (by omega) (by omega)) (by omega)
theorem k_share {J : zM} {len y c : Nat} (h6 : J 0 6 = nI len) (h0 : 0 < len) (hl : len ≤ 12) (hy : y < len) (hc : c ≤ 99) : ∃ s, s ≤ c ∧ f_X9_shareOf J (nI c) (nI y) = some (nI s) := by
  have hm : c / len * (len - 1) ≤ c := Nat.le_trans (Nat.mul_le_mul_left _ (by omega)) (Nat.div_mul_le_self c len)
  rw [sp_shareR h6 h0 hl hy]
  unfold shareV
  rw [pk_div (by omega) h0 (by omega)]
  by_cases e : y = 0
  · refine ⟨c - c / len * (len - 1), by omega, ?_⟩
    rw [if_pos e, show (1 : Int32) = nI 1 from rfl, pk_sub h0, pk_mul, pk_sub hm]
  · exact ⟨c / len, Nat.div_le_self _ _, by rw [if_neg e]⟩
theorem k_l31 {np nt C c : Nat} {n : Int32} (hnp : np ≤ 12) (hC : C < 2 ^ 31) {P : List Nat} (hP : ∀ q, q ∈ P → q < np) (hl : P.length ≤ 12) (hc : c ≤ 99) : ∀ (d y fuel B : Nat) (M : zM), P.length = y + d → FA (M 1) np nt C B → M 0 6 = nI P.length → (∀ i q, P[i]? = some q → M 5 i = nI q) → ∀ (r : Int32) (N : zM), f_X9_looks_l31 n (nI c) fuel M (nI y) = some (r, N) → FA (N 1) np nt C (B + d) ∧ (∀ a, 180 ≤ a → a ≠ 1083 → N 1 a = M 1 a) ∧ ∀ a, a ≠ 1 → N a = M a := by
  intro d
  induction d with
  | zero =>
    intro y fuel B M hd hF h6 h5 r N h
    cases fuel with
    | zero =>
      rw [f_X9_looks_l31] at h
      cases h
    | succ fuel =>
      rw [f_X9_looks_l31, h6, if_pos (nI_le (by omega) (by omega))] at h
      obtain ⟨-, rfl⟩ := k_e h
      exact ⟨hF, fun _ _ _ => rfl, fun _ _ => rfl⟩
  | succ d ih =>
    intro y fuel B M hd hF h6 h5 r N h
    cases fuel with
    | zero =>
      rw [f_X9_looks_l31] at h
      cases h
    | succ fuel =>
      have hy : y < P.length := by omega
      have hq : P[y] < np := hP _ (List.getElem_mem hy)
      have h5y := h5 y P[y] (List.getElem?_eq_getElem hy)
      generalize P[y] = q at hq h5y
      obtain ⟨s, hs, hs2⟩ := k_share (J := M) (y := y) h6 (by omega) hl hy hc
      obtain ⟨⟨k, k1, k2⟩, ⟨dt, t1, t2⟩, -⟩ := hF.1 q hq
      obtain ⟨cc, cc1, cc2⟩ := hF.2.2.2.1
      have p1 : ∀ M : zM, f_X9_p M (nI q) 1 = some (M 1 (q * 15 + 1)) := fun M => sp_p M (q := q) (f := 1) (by omega)
      have p4 : ∀ M : zM, f_X9_p M (nI q) 4 = some (M 1 (q * 15 + 4)) := fun M => sp_p M (q := q) (f := 4) (by omega)
      have s1 : ∀ (M : zM) v, f_X9_setP M (nI q) 1 v = some (ms M 1 (q * 15 + 1) v) := fun M v => sp_setP M (q := q) (f := 1) (by omega) v
      have s4 : ∀ (M : zM) v, f_X9_setP M (nI q) 4 v = some (ms M 1 (q * 15 + 4) v) := fun M v => sp_setP M (q := q) (f := 4) (by omega) v
      have s2 : ∀ (M : zM) v, f_X9_setP M (nI q) 2 v = some (ms M 1 (q * 15 + 2) v) := fun M v => sp_setP M (q := q) (f := 2) (by omega) v
      -- what one pays, whatever becomes of the trust
      have pay : ∀ (p d2 : Nat) (v : Int32) (r : Int32) (N : zM), p ≤ k → d2 ≤ 99 * (B + 1) → f_X9_looks_l31 n (nI c) fuel (ms (ms (ms (ms M 1 (q * 15 + 1) (nI (k - p))) 1 (q * 15 + 4) (nI d2)) 1 1083 (nI (cc + p))) 1 (q * 15 + 2) v) (nI (y + 1)) = some (r, N) → FA (N 1) np nt C (B + (d + 1)) ∧ (∀ a, 180 ≤ a → a ≠ 1083 → N 1 a = M 1 a) ∧ ∀ a, a ≠ 1 → N a = M a := by
        intro p d2 v r N hp hd2 h
        generalize hM2 : ms (ms (ms (ms M 1 (q * 15 + 1) (nI (k - p))) 1 (q * 15 + 4) (nI d2)) 1 1083 (nI (cc + p))) 1 (q * 15 + 2) v = M2 at h
        have kM : ∀ a, a ≠ q * 15 + 1 → a ≠ q * 15 + 4 → a ≠ q * 15 + 2 → a ≠ 1083 → M2 1 a = M 1 a := fun a a1 a2 a3 a4 => by rw [← hM2, ms_sn a3, ms_sn a4, ms_sn a2, ms_sn a1]
        have kO : ∀ a, a ≠ 1 → M2 a = M a := fun a ha => by rw [← hM2, ms_n ha, ms_n ha, ms_n ha, ms_n ha]
        have hF2 : FA (M2 1) np nt C (B + 1) := FA_pay hnp hC hF hq k2 k1 cc2 cc1 hp hd2 kM (by rw [← hM2, ms_sn (by omega), ms_sn (by omega), ms_sn (by omega), ms_ss]) (by rw [← hM2, ms_sn (by omega), ms_sn (by omega), ms_ss]) (by rw [← hM2, ms_sn (by omega), ms_ss])
        obtain ⟨g1, g2, g3⟩ := ih (y + 1) fuel (B + 1) M2 (by omega) hF2 (by rw [kO 0 (by decide)]; exact h6) (fun i q hi => by rw [kO 5 (by decide)]; exact h5 i q hi) r N h
        exact ⟨by rw [show B + (d + 1) = B + 1 + d by omega]; exact g1, fun a a1 a2 => (g2 a a1 a2).trans (kM a (by omega) (by omega) (by omega) a2), fun a ha => (g3 a ha).trans (kO a ha)⟩
      rw [f_X9_looks_l31, h6, if_neg (nI_ge (by omega) (by omega)), zck_t (zin_t (by omega) (by decide)), zlet_s, nI_clamp (by omega), h5y, hs2, zb_s, p1, zb_s, k2, nI_1] at h
      by_cases cs : nI s ≤ nI k
      · have hsk : s ≤ k := (nI_leI (by omega) k1).mp cs
        rw [if_pos cs, zb_s, pk_sub hsk, s1, zb_s, p4, zb_s, ms_sn (by omega), t2, nI_add, pk_sub (by omega), show dt + s - s = dt by omega, s4, zb_s, zlet_s] at h
        obtain ⟨q17, -, h⟩ := zb_e h
        obtain ⟨q18, -, h⟩ := zb_e h
        rw [s2, zb_s] at h
        rw [show ms (ms M 1 (q * 15 + 1) (nI (k - s))) 1 (q * 15 + 4) (nI dt) 1 1083 + nI s = nI (cc + s) by rw [ms_sn (by omega), ms_sn (by omega), cc2, nI_add]] at h
        exact pay s dt q18 r N hsk (by omega) h
      · have hsk : k < s := by
          rcases Nat.lt_or_ge k s with z | z
          · exact z
          · exact absurd (nI_le z k1) cs
        rw [if_neg cs, zb_s, zb_s, pk_sub (Nat.le_refl k), s1, zb_s, p4, zb_s, ms_sn (by omega), t2, nI_add, pk_sub (by omega), s4, zb_s, zlet_s] at h
        obtain ⟨q17, -, h⟩ := zb_e h
        obtain ⟨q18, -, h⟩ := zb_e h
        rw [s2, zb_s] at h
        rw [show ms (ms M 1 (q * 15 + 1) (nI (k - k))) 1 (q * 15 + 4) (nI (dt + s - k)) 1 1083 + nI k = nI (cc + k) by rw [ms_sn (by omega), ms_sn (by omega), cc2, nI_add]] at h
        exact pay k (dt + s - k) q18 r N (Nat.le_refl k) (by omega) h
theorem k_more {J : zM} {t m x x' : Nat} (ht : t < 10) (h1 : J 1 (180 + t * 90 + 1) = nI x) (hm : J 1 (180 + t * 90 + 32) = nI m) (m1 : 1 ≤ m) (m6 : m ≤ 6) (h2 : J 1 (180 + t * 90 + (33 + 4 * (m - 1) + 1)) = nI x') : f_X9_moreWear J (nI t) = some (nI x - nI x') := by
  have q1 : f_X9_t J (nI t) 1 = some (nI x) := by rw [← h1]; exact sp_t J (t := t) (f := 1) (by omega)
  have q2 : f_X9_t J (nI t) 32 = some (nI m) := by rw [← hm]; exact sp_t J (t := t) (f := 32) (by omega)
  have e : (33 : Int32) + 4 * (nI m - 1) + 1 = nI (33 + 4 * (m - 1) + 1) := by
    rw [show nI m - 1 = nI (m - 1) from pk_sub m1, show (4 : Int32) * nI (m - 1) = nI (4 * (m - 1)) from pk_mul 4 _, show (33 : Int32) + nI (4 * (m - 1)) = nI (33 + 4 * (m - 1)) from nI_add 33 _]
    exact nI_add _ 1
  unfold f_X9_moreWear
  rw [q1, zb_s, q2, zb_s, e, sp_t J (by omega), zb_s, h2]
theorem k_looks {I J N : zM} {np nt B0 B C t : Nat} {r : Int32} (hB0 : B0 ≤ 2 ^ 20) (hM : MT I 1) (hR : RO I 1 (J 1) np nt B0) (ht : t < nt) (hC : C < 2 ^ 31) (hF : FA (J 1) np nt C B) (h : f_X9_looks J (nI t) = some (r, N)) : FA (N 1) np nt C (B + 12) ∧ (∀ a, 180 ≤ a → a ≠ 1083 → (a < 180 + t * 90 + 32 ∨ 180 + t * 90 + 57 ≤ a) → N 1 a = J 1 a) := by
  have hnp := hR.1.1
  have hnt := hR.1.2.1
  obtain ⟨w, x, g, w1, w2, x9, g9, -, z2, -, z4, -, z6⟩ := RO_num hR ht
  have hF0 := hF
  obtain ⟨f1, f2, ⟨dd, d1, d2, d3⟩, ⟨c, c1, c2⟩, f5⟩ := hF
  obtain ⟨n, n8, n6, LL, hd, m, x', m1, m2, x9', m3, m4⟩ := d3 t ht
  obtain ⟨P, I2, J1, hP, -, b2, b3, -, b5⟩ := pr_blame (h := 13) hB0 hR ht hM.2 (Or.inl rfl)
  have hJ1 : J1 1 = J 1 := b5.1 1 (by decide) (by decide)
  unfold f_X9_looks at h
  rw [k_more (show t < 10 by omega) z4 m3 m1 m2 m4, zb_s, b2, zb_s] at h
  obtain ⟨cost, ec, h⟩ := zb_e h
  obtain ⟨M, s1, s2, s3, s4, s5⟩ := sp_seesNow (J := J1) (t := t) (m := m) (by omega) m2 (by rw [hJ1]; exact m3)
  rw [s1, zb_s] at h
  have kM : ∀ a, (a < 180 + t * 90 + 32 ∨ 180 + t * 90 + 57 ≤ a) → M 1 a = J 1 a := fun a ha => by rw [s3 a ha, hJ1]
  have hlast : M 1 (180 + t * 90 + (33 + 4 * (pushN m 6 - 1) + 1)) = nI x := by
    have hp : 1 ≤ pushN m 6 := pushN_pos (by decide)
    rw [s5 (pushN m 6 - 1) 1 (by omega) (by decide), pushR_last (by decide)]
    show J1 1 (180 + t * 90 + 1) = nI x
    rw [hJ1, z4]
  have hFM : FA (M 1) np nt C B := by
    rw [c2, cN_n c1] at f5
    refine FA_w hF0 d1 ((kM _ (by omega)).trans d2) (fun u hu => FP_c (f1 u hu) (kM _ (by omega)) (kM _ (by omega)) (kM _ (by omega)) (Nat.le_refl _)) (fun u hu => kM _ (by omega)) (fun u hu => ?_) c1 ((kM _ (by omega)).trans c2) (by rw [SP_c np (fun u hu => kM _ (by omega)), SD_c nt (fun u hu => kM _ (by omega))]; exact f5)
    by_cases e : u = t
    · subst e
      refine ⟨n, n8, (kM _ (by omega)).trans n6, ?_, ?_, pushN m 6, x, pushN_pos (by decide), pushN_le m2, x9, s4, hlast⟩
      · rw [kM _ (by omega)]
        exact FL_c LL (fun i j hi hj => kM _ (by omega)) (Nat.le_refl _)
      · rw [kM _ (by omega), kM _ (by omega)]
        exact hd
    · exact FT_c (d3 u hu) (kM _ (by omega)) (kM _ (by omega)) (kM _ (by omega)) (fun a a1 a2 => kM _ (by omega)) (Nat.le_refl _)
  by_cases hn : 0 < nI x - nI x'
  · rw [if_pos hn] at h
    have hlt := k_spos (by omega) hn
    obtain ⟨cv, cv1, rfl⟩ : ∃ cv, cv ≤ 99 ∧ cost = nI cv := by
      unfold f_X9_costOf at ec
      have q0 : f_X9_t J1 (nI t) 0 = some (nI w) := by rw [← z2, ← hJ1]; exact sp_t J1 (t := t) (f := 0) (by omega)
      rw [k_more (J := J1) (show t < 10 by omega) (by rw [hJ1]; exact z4) (by rw [hJ1]; exact m3) m1 m2 (by rw [hJ1]; exact m4), zb_s, pk_sub (by omega), if_neg (nI_nle (by omega) (by omega)), q0, zb_s, pk_mul] at ec
      have hb : w * (x - x') ≤ 99 * 9 := Nat.mul_le_mul w2 (by omega)
      rw [show nI (w * (x - x')) / 9 = nI (w * (x - x') / 9) from pk_div (d := 9) (by omega) (by decide) (by decide)] at ec
      exact ⟨w * (x - x') / 9, by omega, (Option.some.inj ec).symm⟩
    have hl := b3.len
    have h : f_X9_looks_l31 (nI x - nI x') (nI cv) zFu M (nI 0) = some (r, N) := h
    obtain ⟨g1, g2, -⟩ := k_l31 (nt := nt) hnp hC hP hl cv1 P.length 0 zFu B M (by omega) hFM (by rw [s2 0 (by decide)]; exact b3.2.2.2.1) (fun i q hi => by rw [s2 5 (by decide)]; exact (b3.2.1 i q hi).2) r N h
    exact ⟨FA_m g1 (by omega), fun a a1 a2 a3 => (g2 a a1 a2).trans (kM a a3)⟩
  · rw [if_neg hn] at h
    obtain ⟨-, rfl⟩ := k_e h
    exact ⟨FA_m hFM (by omega), fun a _ _ a3 => kM a a3⟩
theorem k_look {I J N : zM} {np nt B0 B C : Nat} {x r : Int32} (hB0 : B0 ≤ 2 ^ 20) (hM : MT I 1) (hR : RO I 1 (J 1) np nt B0) (hC : C < 2 ^ 31) (hF : FF C B J) (h : f_X9_look J x = some (r, N)) : FF C (B + 12) N := by
  obtain ⟨c1, c2, c3, c4, c5, c6, -⟩ := hR.1
  unfold f_X9_look at h
  rcases pr_isTool c5 c6 c2 x with ⟨-, e⟩ | ⟨u, hu, rfl, -, e⟩
  · rw [e, zb_s, if_pos rfl] at h
    obtain ⟨-, rfl⟩ := k_e h
    exact FF_m hF (by omega)
  · rw [e, zb_s, if_neg one0, zb_eta] at h
    obtain ⟨g1, g2⟩ := k_looks hB0 hM hR hu hC (FF_at hR hF) h
    exact FF_of hR (g2 _ (by omega) (by omega) (by omega)) (g2 _ (by omega) (by omega) (by omega)) g1
