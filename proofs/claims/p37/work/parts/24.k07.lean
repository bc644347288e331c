/-! FAIR 7: coins come; a person, a tool comes -/
theorem k_fund {I J N : zM} {np nt B0 B C n : Nat} {x r : Int32} (hR : RO I 1 (J 1) np nt B0) (hB : B ≤ 2 ^ 20) (hC : C + 1000 < 2 ^ 31) (hn : n ≤ 999) (hF : FF C B J) (h : f_X9_fund J x (nI n) = some (r, N)) : FF (if r < 0 then C else C + n) B N := by
  have hA := FF_at hR hF
  obtain ⟨c1, c2, c3, c4, c5, c6, -⟩ := hR.1
  have bad : ∀ v : Int32, v < 0 → some (v, J) = some (r, N) → FF (if r < 0 then C else C + n) B N := fun v hv h => by
    obtain ⟨rfl, rfl⟩ := k_e h
    rw [if_pos hv]
    exact hF
  unfold f_X9_fund at h
  rcases pr_isPerson c3 c4 c1 x with ⟨-, e⟩ | ⟨q, hq, rfl, -, e⟩
  · rw [e, zb_s, if_pos rfl] at h
    exact bad _ (by decide) h
  · rw [e, zb_s, if_neg one0] at h
    obtain ⟨a, -, h⟩ := zb_e h
    by_cases a0 : a = 0
    · rw [if_pos a0] at h
      exact bad _ (by decide) h
    · have hA0 := hA
      obtain ⟨f1, f2, ⟨dd, d1, d2, d3⟩, ⟨c, e1, e2⟩, f5⟩ := hA
      obtain ⟨⟨k, k1, k2⟩, ⟨d, dB, t2⟩, -⟩ := f1 q hq
      have p1 : ∀ M : zM, f_X9_p M (nI q) 1 = some (M 1 (q * 15 + 1)) := fun M => sp_p M (q := q) (f := 1) (by omega)
      have p4 : ∀ M : zM, f_X9_p M (nI q) 4 = some (M 1 (q * 15 + 4)) := fun M => sp_p M (q := q) (f := 4) (by omega)
      have s1 : ∀ (M : zM) v, f_X9_setP M (nI q) 1 v = some (ms M 1 (q * 15 + 1) v) := fun M v => sp_setP M (q := q) (f := 1) (by omega) v
      have s4 : ∀ (M : zM) v, f_X9_setP M (nI q) 4 v = some (ms M 1 (q * 15 + 4) v) := fun M v => sp_setP M (q := q) (f := 4) (by omega) v
      have l1 := SP_le (A := J 1) np hq
      rw [k2, cN_n k1] at l1
      rw [e2, cN_n e1] at f5
      -- s coins for the debt
      have go : ∀ s : Nat, s ≤ n → s ≤ d → f_X9_fund_j41 J (nI q) (nI n) (nI s) = some (r, N) → FF (if r < 0 then C else C + n) B N := by
        intro s hs hd h
        unfold f_X9_fund_j41 at h
        rw [p1, zb_s, k2, nI_add, pk_sub (by omega), zlet_s] at h
        by_cases c9 : nI (k + n - s) ≤ 9999
        · rw [if_pos c9, p4, zb_s, t2, pk_sub hd, s4, zb_s, zlet_s, ms_sn (by omega), e2, nI_add, s1, zb_s] at h
          obtain ⟨hr, rfl⟩ := k_e h
          rw [← hr, if_neg (nI_pos (by omega))]
          generalize hM : ms (ms (ms J 1 (q * 15 + 4) (nI (d - s))) 1 1083 (nI (c + s))) 1 (q * 15 + 1) (nI (k + n - s)) = M
          have kM : ∀ a, a ≠ q * 15 + 1 → a ≠ q * 15 + 4 → a ≠ 1083 → M 1 a = J 1 a := fun a a1 a2 a3 => by rw [← hM, ms_sn a1, ms_sn a3, ms_sn a2]
          have m1 : M 1 (q * 15 + 1) = nI (k + n - s) := by rw [← hM, ms_ss]
          have m4 : M 1 (q * 15 + 4) = nI (d - s) := by rw [← hM, ms_sn (by omega), ms_sn (by omega), ms_ss]
          have m83 : M 1 1083 = nI (c + s) := by rw [← hM, ms_sn (by omega), ms_ss]
          have z1 := SP_1 (A := J 1) (A2 := M 1) (q := q) np hq (fun u hu hn => kM _ (by omega) (by omega) (by omega))
          have z2 := SD_c (A := J 1) (A2 := M 1) nt (fun u hu => kM _ (by omega) (by omega) (by omega))
          rw [k2, m1, cN_n k1, cN_n (by omega)] at z1
          refine FF_of hR (kM _ (by omega) (by omega) (by omega)) (kM _ (by omega) (by omega) (by omega)) (FA_w hA0 d1 ((kM _ (by omega) (by omega) (by omega)).trans d2) (fun u hu => ?_) (fun u hu => kM _ (by omega) (by omega) (by omega)) (fun u hu => FT_c (d3 u hu) (kM _ (by omega) (by omega) (by omega)) (kM _ (by omega) (by omega) (by omega)) (kM _ (by omega) (by omega) (by omega)) (fun a a1 a2 => kM _ (by omega) (by omega) (by omega)) (Nat.le_refl _)) (by omega) m83 (by omega))
          by_cases e : u = q
          · subst e
            refine ⟨⟨k + n - s, by omega, m1⟩, ⟨d - s, by omega, m4⟩, ?_⟩
            rw [kM _ (by omega) (by omega) (by omega)]
            exact (f1 u hq).2.2
          · exact FP_c (f1 u hu) (kM _ (by omega) (by omega) (by omega)) (kM _ (by omega) (by omega) (by omega)) (kM _ (by omega) (by omega) (by omega)) (Nat.le_refl _)
        · rw [if_neg c9] at h
          exact bad _ (by decide) h
      rw [if_neg a0, p4, zb_s, t2] at h
      by_cases cd : nI n ≤ nI d
      · rw [if_pos cd] at h
        by_cases hnd : n ≤ d
        · exact go n (Nat.le_refl _) hnd h
        · exact absurd cd (nI_ge (by omega) (by omega))
      · rw [if_neg cd, zb_s] at h
        by_cases hnd : d ≤ n
        · exact go d hnd (Nat.le_refl _) h
        · exact absurd (nI_le (by omega) (by omega)) cd
theorem k_find {M N : zM} {np : Nat} {x z r : Int32} (hA : M 1 1080 = nI np) (hnp : np ≤ 12) (K : Option (Int32 × zM)) : ∀ (d y fuel : Nat), np = y + d → f_X9_person_l22 M x z K fuel (nI y) = some (r, N) → (r = -5 ∧ N = M) ∨ (K = some (r, N) ∧ ∀ q, y ≤ q → q < np → M 1 (q * 15 + 0) ≠ x) := by
  intro d
  induction d with
  | zero =>
    intro y fuel hd h
    cases fuel with
    | zero =>
      rw [f_X9_person_l22] at h
      cases h
    | succ fuel =>
      rw [f_X9_person_l22, hA, if_pos (nI_le (by omega) (by omega))] at h
      exact Or.inr ⟨h, fun q h1 h2 => absurd h2 (by omega)⟩
  | succ d ih =>
    intro y fuel hd h
    cases fuel with
    | zero =>
      rw [f_X9_person_l22] at h
      cases h
    | succ fuel =>
      rw [f_X9_person_l22, hA, if_neg (nI_ge (by omega) (by omega)), show f_X9_p M (nI y) 0 = some (M 1 (y * 15 + 0)) from sp_p M (q := y) (f := 0) (by omega), zb_s, nI_1] at h
      by_cases c : M 1 (y * 15 + 0) = x
      · rw [if_pos c] at h
        obtain ⟨hr, hN⟩ := k_e h
        exact Or.inl ⟨hr.symm, hN.symm⟩
      · rw [if_neg c] at h
        rcases ih (y + 1) fuel (by omega) h with g | ⟨g1, g2⟩
        · exact Or.inl g
        · refine Or.inr ⟨g1, fun q h1 h2 => ?_⟩
          by_cases e : q = y
          · rw [e]
            exact c
          · exact g2 q (by omega) h2
theorem k_name {J : zM} {x v : Int32} (h : f_X9_isName J x = some v) (hv : ¬ v = 0) : NM x := by
  unfold f_X9_isName at h
  rw [in_e] at h
  by_cases c1 : x < 1
  · rw [if_pos c1, zb_s, if_pos rfl] at h
    exact absurd (Option.some.inj h).symm hv
  · rw [if_neg c1] at h
    by_cases c2 : x ≤ 19682
    · have i1 : ¬ x.toInt < 1 := fun q => c1 (Int32.lt_iff_toInt_lt.mpr (by rw [show (1 : Int32).toInt = 1 by decide]; exact q))
      have c0 : ¬ x < 0 := fun q => c1 (Int32.lt_of_lt_of_le q (by decide))
      obtain ⟨k, hk, rfl⟩ := nI_of2 (M := 19682) (n := 19682) (by decide) c0 c2
      have hk1 : 1 ≤ k := by
        rw [nI_toInt (by omega)] at i1
        omega
      rw [if_pos c2, zb_s, if_neg one0, show zFu = 1999 + 1 from rfl, f_X9_isName_l15, if_neg (nI_nle (by omega) (by omega)), show nI k - nI k / 27 * 27 = nI (k % 27) from pk_rem (d := 27) (by omega) (by decide) (by decide)] at h
      by_cases c3 : k % 27 = 0
      · rw [c3, if_pos (show nI 0 = 0 from rfl)] at h
        exact absurd (Option.some.inj h).symm hv
      · exact ⟨k, rfl, hk1, hk, c3⟩
    · rw [if_neg c2, zb_s, if_pos rfl] at h
      exact absurd (Option.some.inj h).symm hv
theorem k_person {I J N : zM} {np nt B0 B C n : Nat} {x r : Int32} (hR : RO I 1 (J 1) np nt B0) (hC : C + 10000 < 2 ^ 31) (hn : n ≤ 9999) (hF : FF C B J) (h : f_X9_person J x (nI n) = some (r, N)) : FF (if r < 0 then C else C + n) B N := by
  have hA := FF_at hR hF
  obtain ⟨c1, c2, c3, c4, c5, c6, -⟩ := hR.1
  have bad : ∀ v : Int32, v < 0 → v = r → J = N → FF (if r < 0 then C else C + n) B N := fun v hv h1 h2 => by
    subst h1
    subst h2
    rw [if_pos hv]
    exact hF
  unfold f_X9_person at h
  obtain ⟨a, ea, h⟩ := zb_e h
  by_cases a0 : a = 0
  · rw [if_pos a0] at h
    exact bad _ (by decide) (k_e h).1 (k_e h).2
  · have hnm := k_name ea a0
    rw [if_neg a0] at h
    obtain ⟨b, -, h⟩ := zb_e h
    by_cases b0 : b = 0
    · rw [if_pos b0] at h
      exact bad _ (by decide) (k_e h).1 (k_e h).2
    · rw [if_neg b0] at h
      rcases k_find c4 c1 _ np 0 zFu (by omega) h with ⟨hr, hN⟩ | ⟨h, hno⟩
      · exact bad _ (by decide) hr.symm hN.symm
      · rw [c4] at h
        by_cases e12 : nI np = 12
        · rw [if_pos e12] at h
          exact bad _ (by decide) (k_e h).1 (k_e h).2
        · have h12 : np < 12 := by
            rcases Nat.lt_or_ge np 12 with z | z
            · exact z
            · exact absurd (show nI np = nI 12 by rw [show np = 12 by omega]) e12
          have hz : ∀ K : zM → Option (Int32 × zM), f_X9_person_l86 x (nI n) (nI np) K zFu (ms J 1 1080 (nI (np + 1))) 0 = K (zer (ms J 1 1080 (nI (np + 1))) 1 (np * 15 + 0) (np * 15 + 15)) := fun K => l_zeroP h12 x (nI n) K 15 0 zFu _ (by omega) (by decide)
          rw [if_neg e12, zlet_s, nI_1, hz] at h
          have s0 : ∀ (M : zM) v, f_X9_setP M (nI np) 0 v = some (ms M 1 (np * 15 + 0) v) := fun M v => sp_setP M (q := np) (f := 0) (by omega) v
          have s1 : ∀ (M : zM) v, f_X9_setP M (nI np) 1 v = some (ms M 1 (np * 15 + 1) v) := fun M v => sp_setP M (q := np) (f := 1) (by omega) v
          have s2 : ∀ (M : zM) v, f_X9_setP M (nI np) 2 v = some (ms M 1 (np * 15 + 2) v) := fun M v => sp_setP M (q := np) (f := 2) (by omega) v
          rw [s0, zb_s, s1, zb_s, s2, zb_s] at h
          obtain ⟨hr, hN⟩ := k_e h
          rw [← hr, if_neg (nI_pos (by omega)), ← hN]
          generalize hM : ms (ms (ms (zer (ms J 1 1080 (nI (np + 1))) 1 (np * 15 + 0) (np * 15 + 15)) 1 (np * 15 + 0) x) 1 (np * 15 + 1) (nI n)) 1 (np * 15 + 2) 50 = M
          have kM : ∀ a, (a < np * 15 ∨ np * 15 + 15 ≤ a) → a ≠ 1080 → M 1 a = J 1 a := fun a a1 a2 => by rw [← hM, ms_sn (by omega), ms_sn (by omega), ms_sn (by omega), zer_s, if_neg (by omega), ms_sn a2]
          have m0 : M 1 (np * 15 + 0) = x := by rw [← hM, ms_sn (by omega), ms_sn (by omega), ms_ss]
          have m1 : M 1 (np * 15 + 1) = nI n := by rw [← hM, ms_sn (by omega), ms_ss]
          have m4 : M 1 (np * 15 + 4) = nI 0 := by rw [← hM, ms_sn (by omega), ms_sn (by omega), ms_sn (by omega), zer_s, if_pos (by omega)]; rfl
          have m80 : M 1 1080 = nI (np + 1) := by rw [← hM, ms_sn (by omega), ms_sn (by omega), ms_sn (by omega), zer_s, if_neg (by omega), ms_ss]
          obtain ⟨f1, f2, ⟨dd, d1, d2, d3⟩, ⟨c, e1, e2⟩, f5⟩ := hA
          have z1 := SP_c (A := J 1) (A2 := M 1) np (fun u hu => kM _ (by omega) (by omega))
          have z2 := SD_c (A := J 1) (A2 := M 1) nt (fun u hu => kM _ (by omega) (by omega))
          refine ⟨np + 1, nt, by omega, c2, m80, (kM _ (by omega) (by omega)).trans c6, fun q hq => ?_, fun q u hq hu => ?_, ⟨dd, d1, (kM _ (by omega) (by omega)).trans d2, fun t ht => FT_c (d3 t ht) (kM _ (by omega) (by omega)) (kM _ (by omega) (by omega)) (kM _ (by omega) (by omega)) (fun a a1 a2 => kM _ (by omega) (by omega)) (Nat.le_refl _)⟩, ⟨c, e1, (kM _ (by omega) (by omega)).trans e2⟩, ?_⟩
          · by_cases e : q = np
            · subst e
              exact ⟨⟨n, by omega, m1⟩, ⟨0, Nat.zero_le _, m4⟩, by rw [m0]; exact hnm⟩
            · exact FP_c (f1 q (by omega)) (kM _ (by omega) (by omega)) (kM _ (by omega) (by omega)) (kM _ (by omega) (by omega)) (Nat.le_refl _)
          · by_cases e : q = np
            · subst e
              rw [m0, kM _ (by omega) (by omega)]
              exact fun z => hno u (Nat.zero_le _) hu z.symm
            · rw [kM _ (by omega) (by omega), kM _ (by omega) (by omega)]
              exact f2 q u (by omega) hu
          · show SP (M 1) np + cN (M 1 (np * 15 + 1)) + SD (M 1) nt + cN (M 1 1083) = C + n
            rw [m1, cN_n (by omega), z1, z2, kM _ (by omega) (by omega)]
            omega
theorem k_tool {I J N : zM} {np nt B0 B C : Nat} {x r : Int32} (hR : RO I 1 (J 1) np nt B0) (hF : FF C B J) (h : f_X9_tool J x = some (r, N)) : FF C B N := by
  have hA := FF_at hR hF
  obtain ⟨c1, c2, c3, c4, c5, c6, -⟩ := hR.1
  unfold f_X9_tool at h
  obtain ⟨a, ea, h⟩ := zb_e h
  by_cases a0 : a = 0
  · rw [if_pos a0] at h
    exact FF_k hR hF (KS_e h)
  · rw [if_neg a0, c6] at h
    by_cases e10 : nI nt = 10
    · rw [if_pos e10] at h
      exact FF_k hR hF (KS_e h)
    · have h10 : nt < 10 := by
        rcases Nat.lt_or_ge nt 10 with z | z
        · exact z
        · exact absurd (show nI nt = nI 10 by rw [show nt = 10 by omega]) e10
      have hz : ∀ K : zM → Option (Int32 × zM), f_X9_tool_l44 x (nI nt) K zFu (ms J 1 1081 (nI (nt + 1))) 0 = K (zer (ms J 1 1081 (nI (nt + 1))) 1 (180 + nt * 90 + 0) (180 + nt * 90 + 90)) := fun K => l_zeroT h10 x K 90 0 zFu _ (by omega) (by decide)
      rw [if_neg e10, zlet_s, nI_1, hz] at h
      generalize hZ : zer (ms J 1 1081 (nI (nt + 1))) 1 (180 + nt * 90 + 0) (180 + nt * 90 + 90) = Z at h
      obtain ⟨W, w1, w2, w3, w4, -⟩ := l_zeroW h10 x (fun M10 => zb (f_X9_setT M10 (nI nt) 0 x) (fun q11 => zb (f_X9_setT q11 (nI nt) 2 (-1)) (fun q12 => zb (f_X9_seesNow q12 (nI nt)) (fun q13 => some (nI nt, q13))))) 12 0 zFu Z (by omega) (by decide)
      have w1 : f_X9_tool_l65 x (nI nt) _ zFu Z 0 = _ := w1
      rw [w1] at h
      have t0 : ∀ (M : zM) v, f_X9_setT M (nI nt) 0 v = some (ms M 1 (180 + nt * 90 + 0) v) := fun M v => sp_setT M (t := nt) (f := 0) (by omega) v
      have t2 : ∀ (M : zM) v, f_X9_setT M (nI nt) 2 v = some (ms M 1 (180 + nt * 90 + 2) v) := fun M v => sp_setT M (t := nt) (f := 2) (by omega) v
      have zv : ∀ f, f < 90 → Z 1 (180 + nt * 90 + f) = nI 0 := fun f hf => by rw [← hZ, zer_s, if_pos (by omega)]; rfl
      have zo : ∀ a, (a < 180 + nt * 90 ∨ 180 + nt * 90 + 90 ≤ a) → a ≠ 1081 → Z 1 a = J 1 a := fun a a1 a2 => by rw [← hZ, zer_s, if_neg (by omega), ms_sn a2]
      rw [t0, zb_s, t2, zb_s] at h
      generalize hV : ms (ms W 1 (180 + nt * 90 + 0) x) 1 (180 + nt * 90 + 2) (-1) = V at h
      have vk : ∀ a, a ≠ 180 + nt * 90 + 0 → a ≠ 180 + nt * 90 + 2 → (∀ q, q < 12 → a ≠ q * 15 + (5 + nt)) → V 1 a = Z 1 a := fun a a1 a2 a3 => by rw [← hV, ms_sn a2, ms_sn a1, w3 a a3]
      have vt : ∀ f, f < 90 → f ≠ 0 → f ≠ 2 → V 1 (180 + nt * 90 + f) = nI 0 := fun f h1 h2 h3 => (vk _ (by omega) (by omega) (fun q hq => by omega)).trans (zv f h1)
      obtain ⟨M, s1, s2, s3, s4, s5⟩ := sp_seesNow (J := V) (t := nt) (m := 0) h10 (by decide) (vt 32 (by decide) (by decide) (by decide))
      rw [s1, zb_s] at h
      obtain ⟨-, rfl⟩ := k_e h
      have kM : ∀ a, (a < 180 + nt * 90 ∨ 180 + nt * 90 + 90 ≤ a) → a ≠ 1081 → (∀ q, q < 12 → a ≠ q * 15 + (5 + nt)) → M 1 a = J 1 a := fun a a1 a2 a3 => by rw [s3 a (by omega), vk a (by omega) (by omega) a3, zo a a1 a2]
      have m2 : M 1 (180 + nt * 90 + 2) = -1 := by rw [s3 _ (by omega), ← hV, ms_ss]
      have m5 : M 1 (180 + nt * 90 + 5) = nI 0 := by rw [s3 _ (by omega)]; exact vt 5 (by decide) (by decide) (by decide)
      have m6 : M 1 (180 + nt * 90 + 6) = nI 0 := by rw [s3 _ (by omega)]; exact vt 6 (by decide) (by decide) (by decide)
      have m81 : M 1 1081 = nI (nt + 1) := by rw [s3 _ (by omega), vk _ (by omega) (by omega) (fun q hq => by omega), ← hZ, zer_s, if_neg (by omega), ms_ss]
      have ml : M 1 (180 + nt * 90 + (33 + 4 * (1 - 1) + 1)) = nI 0 := by
        have e := s5 0 1 (by decide) (by decide)
        exact e.trans (vt 1 (by decide) (by decide) (by decide))
      obtain ⟨f1, f2, ⟨dd, d1, d2, d3⟩, ⟨c, e1, e2⟩, f5⟩ := hA
      have z1 := SP_c (A := J 1) (A2 := M 1) np (fun u hu => kM _ (by omega) (by omega) (fun q hq => by omega))
      have z2 := SD_c (A := J 1) (A2 := M 1) nt (fun u hu => kM _ (by omega) (by omega) (fun q hq => by omega))
      refine ⟨np, nt + 1, c1, by omega, (kM _ (by omega) (by omega) (fun q hq => by omega)).trans c4, m81, fun q hq => FP_c (f1 q hq) (kM _ (by omega) (by omega) (fun q hq => by omega)) (kM _ (by omega) (by omega) (fun q hq => by omega)) (kM _ (by omega) (by omega) (fun q hq => by omega)) (Nat.le_refl _), fun q u hq hu => ?_, ⟨dd, d1, (kM _ (by omega) (by omega) (fun q hq => by omega)).trans d2, fun t ht => ?_⟩, ⟨c, e1, (kM _ (by omega) (by omega) (fun q hq => by omega)).trans e2⟩, ?_⟩
      · rw [kM _ (by omega) (by omega) (fun q hq => by omega), kM _ (by omega) (by omega) (fun q hq => by omega)]
        exact f2 q u hq hu
      · by_cases e : t = nt
        · subst e
          exact ⟨0, by decide, m6, ⟨fun i hi => absurd hi (Nat.not_lt_zero i), fun i hi => absurd hi (Nat.not_lt_zero _), fun hi => absurd hi (by decide)⟩, Or.inl ⟨m2, m5⟩, 1, 0, by decide, by decide, by decide, s4, ml⟩
        · exact FT_c (d3 t (by omega)) (kM _ (by omega) (by omega) (fun q hq => by omega)) (kM _ (by omega) (by omega) (fun q hq => by omega)) (kM _ (by omega) (by omega) (fun q hq => by omega)) (fun a a1 a2 => kM _ (by omega) (by omega) (fun q hq => by omega)) (Nat.le_refl _)
      · show SP (M 1) np + (SD (M 1) nt + cN (M 1 (180 + nt * 90 + 5))) + cN (M 1 1083) = C
        rw [m5, cN_n (by decide), z1, z2, kM _ (by omega) (by omega) (fun q hq => by omega)]
        omega
