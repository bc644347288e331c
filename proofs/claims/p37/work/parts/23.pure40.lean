/-! PURE 40: an image, and back to it -/
theorem ms_id (I : zM) (k j : Nat) : ms I k j (I k j) = I := by
  refine zM_ext1 k (fun b hb => ms_n hb) (fun i => ?_)
  rw [ms_at]
  by_cases c : i = j
  · rw [if_pos c, c]
  · rw [if_neg c]
theorem MT_c {I I2 : zM} {o : Nat} (hM : MT I o) (h : sameI I I2 o (o + 109)) : MT I2 o :=
  ⟨fun t ht => ⟨TM_c (hM.1 t ht).1 (h _ (by omega) (by omega)), TM_c (hM.1 t ht).2.1 (h _ (by omega) (by omega)), TM_c (hM.1 t ht).2.2 (h _ (by omega) (by omega))⟩, TM_c hM.2 (h _ (by omega) (by omega))⟩
def IM (I J : zM) (B : Nat) : Prop := (I 0 8 = 0 ∧ J 0 4 = 0) ∨ (I 0 8 = 1 ∧ J 0 4 = 1 ∧ ∃ np nt, RO I 110 (J 4) np nt B)
theorem IM_c {I I2 J J2 : zM} {B B2 : Nat} (h : IM I J B) (hB : B ≤ B2) (h1 : I2 0 8 = I 0 8) (h2 : J2 0 4 = J 0 4) (h3 : sameI I I2 110 219) (h4 : J2 4 = J 4) : IM I2 J2 B2 := by
  unfold IM
  rw [h1, h2, h4]
  rcases h with ⟨a, b⟩ | ⟨a, b, np, nt, hR⟩
  · exact Or.inl ⟨a, b⟩
  · exact Or.inr ⟨a, b, np, nt, RO_c (RO_m hR hB) h3 (fun _ _ _ => rfl)⟩
-- all that holds between the class and the reference between two calls
def PV (B : Nat) (I J : zM) : Prop := ∃ np nt, RO I 1 (J 1) np nt B ∧ HS I J np nt ∧ MT I 1 ∧ MT I 110 ∧ MT I 219 ∧ TP I J ∧ IM I J B ∧ TM I 330 12 1 ∧ TM I 335 31 5
def St (B B2 : Nat) (I J : zM) (fI fJ : Option (Int32 × zM)) : Prop := PV B I J → ∃ r I2 J2, fI = some (r, I2) ∧ fJ = some (r, J2) ∧ PV B2 I2 J2
theorem d_image {I J : zM} {B : Nat} : St B B I J (f_X8_image I) (f_X9_image J) := by
  intro hV
  obtain ⟨np, nt, hR, hH, m1, m2, m3, hT, hI, b1, b2⟩ := hV
  obtain ⟨M, c1, c2, c3, c4⟩ := sp_copyO (a := 110) (b := 1) (by omega) hR m2
  unfold f_X8_image f_X9_image
  rw [c1, zb_s, sp_take (by decide), zb_s, zlet_s, zlet_s]
  obtain ⟨d, -, d1, d2⟩ := hR.1.2.2.2.2.2.2.1
  have k0 : ∀ k, k ≠ 0 → (k < 110 ∨ 219 ≤ k) → ms M 0 8 1 k = I k := fun k h1 h2 => by rw [ms_n h1, c4 k (by omega)]
  have j0 : ∀ a, a ≠ 0 → a ≠ 4 → ms (cp J 4 1 0 1087) 0 4 1 a = J a := fun a h1 h2 => by rw [ms_n h1, cp_n h2]
  refine ⟨nI d, ms M 0 8 1, ms (cp J 4 1 0 1087) 0 4 1, ?_, ?_, np, nt, ?_, ?_, ?_, ?_, ?_, ?_, ?_, ?_, ?_⟩
  · rw [k0 1 (by decide) (by decide), d1]
  · rw [j0 1 (by decide) (by decide), d2]
  · exact RO_c hR (fun k h1 h2 => k0 k (by omega) (by omega)) (fun k h1 h2 => by rw [j0 1 (by decide) (by decide)])
  · exact HS_c hH (Nat.le_refl _) (Nat.le_refl _) (fun k h1 h2 => k0 k (by omega) (by omega)) (fun a h1 h2 => j0 a (by omega) (by omega))
  · exact MT_c m1 (fun k h1 h2 => k0 k (by omega) (by omega))
  · exact MT_c c3 (fun k h1 h2 => ms_n (by omega))
  · exact MT_c m3 (fun k h1 h2 => k0 k (by omega) (by omega))
  · exact TP_c hT (k0 _ (by decide) (by decide)) (k0 _ (by decide) (by decide)) (by rw [ms_sn (by decide), cp_n (by decide)]) (j0 6 (by decide) (by decide))
  · refine Or.inr ⟨ms_ss _ _ _ _, ms_ss _ _ _ _, np, nt, RO_c c2 (fun k h1 h2 => ms_n (by omega)) (fun k h1 h2 => ?_)⟩
    rw [ms_n (by decide), cp_s, if_pos (by omega)]
  · exact TM_c b1 (k0 _ (by decide) (by decide))
  · exact TM_c b2 (k0 _ (by decide) (by decide))
theorem HH_m {I J : zM} {np nt np2 nt2 h : Nat} (H : HH I J np nt h) (hp : np ≤ np2) (ht : nt ≤ nt2) (hh : h < 6) : HH I J np2 nt2 h := HH_c H hh hp ht (fun _ _ _ => rfl) rfl rfl rfl rfl
theorem HH_0 {M N : zM} {np nt h : Nat} (H : TM M (341 + 3 * h + 1) 60 1) : HH (ms (ms M (341 + 3 * h) 0 0) (341 + 3 * h) 1 0) (ms N 7 h 0) np nt h := by
  refine ⟨TM_c H (by rw [ms_n (by omega), ms_n (by omega)]), ?_, Or.inl ?_⟩
  · rw [ms_sn (by decide), ms_ss, ms_ss]
  · rw [ms_ss]
    rfl
theorem l_back {np nt : Nat} (hnp : np ≤ 12) (hnt : nt ≤ 10) : ∀ (d y fI fJ : Nat) (M N : zM), 6 = y + d → d < fI → d < fJ → M 1 5 = nI np → N 1 1080 = nI np → M 1 6 = nI nt → N 1 1081 = nI nt → (∀ h, h < y → HH M N np nt h) → (∀ h, y ≤ h → h < 6 → HH M N 12 10 h) → ∃ M' N', f_X8_back_l23 fI M (nI y) = some (M' 1 7, M') ∧ f_X9_back_l23 fJ N (nI y) = some (N' 1 1082, N') ∧ (∀ h, h < 6 → HH M' N' np nt h) ∧ (∀ k, (k < 341 ∨ 359 ≤ k) → M' k = M k) ∧ ∀ a, a ≠ 7 → N' a = N a := by
  intro d
  induction d with
  | zero =>
    intro y fI fJ M N hd hfI hfJ h5 hA5 h6 hA6 ha hb
    obtain ⟨m1, rfl⟩ : ∃ m, fI = m + 1 := ⟨fI - 1, by omega⟩
    obtain ⟨m2, rfl⟩ : ∃ m, fJ = m + 1 := ⟨fJ - 1, by omega⟩
    have e : y = 6 := by omega
    subst e
    rw [f_X8_back_l23, f_X9_back_l23, if_pos (by decide), if_pos (by decide)]
    exact ⟨M, N, rfl, rfl, ha, fun _ _ => rfl, fun _ _ => rfl⟩
  | succ d ih =>
    intro y fI fJ M N hd hfI hfJ h5 hA5 h6 hA6 ha hb
    obtain ⟨m1, rfl⟩ : ∃ m, fI = m + 1 := ⟨fI - 1, by omega⟩
    obtain ⟨m2, rfl⟩ : ∃ m, fJ = m + 1 := ⟨fJ - 1, by omega⟩
    have hy : y < 6 := by omega
    have g6 : ¬ (6 : Int32) ≤ nI y := nI_ge (b := 6) (by omega) (by decide)
    obtain ⟨hM, a2, a3⟩ := hb y (Nat.le_refl _) hy
    have keep : HH M N np nt y → ∃ M' N', f_X8_back_l23 m1 M (nI (y + 1)) = some (M' 1 7, M') ∧ f_X9_back_l23 m2 N (nI (y + 1)) = some (N' 1 1082, N') ∧ (∀ h, h < 6 → HH M' N' np nt h) ∧ (∀ k, (k < 341 ∨ 359 ≤ k) → M' k = M k) ∧ ∀ a, a ≠ 7 → N' a = N a := fun hk =>
      ih (y + 1) m1 m2 M N (by omega) (by omega) (by omega) h5 hA5 h6 hA6 (fun h hh => by
        by_cases c : h = y
        · rw [c]
          exact hk
        · exact ha h (by omega)) (fun h h1 h2 => hb h (by omega) h2)
    have drop : ∃ M' N', f_X8_back_l23 m1 (ms (ms M (341 + 3 * y) 0 0) (341 + 3 * y) 1 0) (nI (y + 1)) = some (M' 1 7, M') ∧ f_X9_back_l23 m2 (ms N 7 y 0) (nI (y + 1)) = some (N' 1 1082, N') ∧ (∀ h, h < 6 → HH M' N' np nt h) ∧ (∀ k, (k < 341 ∨ 359 ≤ k) → M' k = M k) ∧ ∀ a, a ≠ 7 → N' a = N a := by
      have kI : ∀ k, k ≠ 341 + 3 * y → ms (ms M (341 + 3 * y) 0 0) (341 + 3 * y) 1 0 k = M k := fun k h => by rw [ms_n h, ms_n h]
      have oth : ∀ h np' nt', h < 6 → h ≠ y → HH M N np' nt' h → HH (ms (ms M (341 + 3 * y) 0 0) (341 + 3 * y) 1 0) (ms N 7 y 0) np' nt' h := fun h np' nt' h1 h2 h3 => HH_c h3 h1 (Nat.le_refl _) (Nat.le_refl _) (fun k c1 c2 => kI k (by omega)) (ms_sn h2) (by rw [ms_n (by decide)]) (by rw [ms_n (by decide)]) (ms_n (by omega))
      obtain ⟨M', N', r1, r2, r3, r4, r5⟩ := ih (y + 1) m1 m2 (ms (ms M (341 + 3 * y) 0 0) (341 + 3 * y) 1 0) (ms N 7 y 0) (by omega) (by omega) (by omega) (by rw [kI 1 (by omega)]; exact h5) (by rw [ms_n (by decide)]; exact hA5) (by rw [kI 1 (by omega)]; exact h6) (by rw [ms_n (by decide)]; exact hA6) (fun h hh => by
        by_cases c : h = y
        · rw [c]
          exact HH_0 hM
        · exact oth h np nt (by omega) c (ha h (by omega))) (fun h h1 h2 => oth h 12 10 h2 (by omega) (hb h (by omega) h2))
      exact ⟨M', N', r1, r2, r3, fun k hk => (r4 k hk).trans (kI k (by omega)), fun a ha => (r5 a ha).trans (ms_n ha)⟩
    rw [f_X8_back_l23, f_X9_back_l23, if_neg g6, if_neg g6, sp_holderAt M hy, zb_s, zin_t hy (by decide)]
    simp only [zck_1, nI_clamp (show y < 2 ^ 31 by omega), zlet_s, ms_id, nI_1]
    unfold f_X1_take
    simp only [zlet_s, zb_s]
    rw [a2]
    rcases a3 with b | ⟨b, p, hp, b1, b2⟩ | ⟨b, t, ht, b1, b2⟩ | ⟨b, n, b1⟩
    · rw [b]
      simp only [if_neg (show ¬ nI 0 = (1 : Int32) by decide), if_neg (show ¬ nI 0 = (2 : Int32) by decide)]
      exact keep ⟨hM, a2, Or.inl b⟩
    · rw [b]
      simp only [if_pos (show nI 1 = (1 : Int32) from rfl), if_neg (show ¬ nI 1 = (2 : Int32) by decide)]
      rw [b1, b2]
      rcases pr_isPerson h5 hA5 hnp (nI p) with ⟨e1, e2⟩ | ⟨q, hq, eq, e1, e2⟩
      · rw [e1, e2, zb_s, zb_s, if_pos rfl, if_pos rfl]
        exact drop
      · rw [e1, e2, zb_s, zb_s, if_neg one0, if_neg one0]
        exact keep ⟨hM, a2, Or.inr (Or.inl ⟨b, q, hq, eq ▸ b1, eq ▸ b2⟩)⟩
    · rw [b]
      simp only [if_neg (show ¬ nI 2 = (1 : Int32) by decide), if_pos (show nI 2 = (2 : Int32) from rfl)]
      rw [b1, b2]
      rcases pr_isTool h6 hA6 hnt (nI t) with ⟨e1, e2⟩ | ⟨q, hq, eq, e1, e2⟩
      · rw [e1, e2, zb_s, zb_s, if_pos rfl, if_pos rfl]
        exact drop
      · rw [e1, e2, zb_s, zb_s, if_neg one0, if_neg one0]
        exact keep ⟨hM, a2, Or.inr (Or.inr (Or.inl ⟨b, q, hq, eq ▸ b1, eq ▸ b2⟩))⟩
    · rw [b]
      simp only [if_neg (show ¬ nI 3 = (1 : Int32) by decide), if_neg (show ¬ nI 3 = (2 : Int32) by decide)]
      exact keep ⟨hM, a2, Or.inr (Or.inr (Or.inr ⟨b, n, b1⟩))⟩
theorem d_back {I J : zM} {B : Nat} : St B B I J (f_X8_back I) (f_X9_back J) := by
  have hz := zFu_big
  intro hV
  obtain ⟨np, nt, hR, hH, m1, m2, m3, hT, hI, b1, b2⟩ := hV
  have hI0 := hI
  unfold f_X8_back f_X9_back
  rcases hI with ⟨i1, i2⟩ | ⟨i1, i2, np', nt', hR'⟩
  · rw [i1, i2, if_pos rfl, if_pos rfl]
    exact ⟨_, I, J, rfl, rfl, np, nt, hR, hH, m1, m2, m3, hT, hI0, b1, b2⟩
  · rw [i1, i2, if_neg one0, if_neg one0]
    obtain ⟨M, c1, c2, c3, c4⟩ := sp_copyO (a := 1) (b := 110) (by omega) hR' m1
    have hnp := hR.1.1
    have hnt := hR.1.2.1
    rw [c1, zb_s, sp_take (by decide), zb_s]
    generalize hN : cp J 1 4 0 1087 = N
    have kN : ∀ a, a ≠ 1 → N a = J a := fun a h => by rw [← hN, cp_n h]
    have c2' : RO M 1 (N 1) np' nt' B := RO_c c2 (fun _ _ _ => rfl) (fun k h1 h2 => by rw [← hN, cp_s, if_pos (by omega)])
    have hH2 : ∀ h, h < 6 → HH M N 12 10 h := fun h hh => HH_c (hH.2 h hh) hh hnp hnt (fun k h1 h2 => c4 k (by omega)) (by rw [kN 7 (by decide)]) (by rw [kN 8 (by decide)]) (by rw [kN 9 (by decide)]) (kN _ (by omega))
    obtain ⟨hnp', hnt', h5, hA5, h6, hA6, ⟨d, -, d1, d2⟩, -⟩ := c2'.1
    obtain ⟨M', N', r1, r2, r3, r4, r5⟩ := l_back hnp' hnt' 6 0 zFu zFu M N (by omega) (by omega) (by omega) h5 hA5 h6 hA6 (fun h hh => absurd hh (by omega)) (fun h _ hh => hH2 h hh)
    have r1 : f_X8_back_l23 zFu M 0 = _ := r1
    have r2 : f_X9_back_l23 zFu N 0 = _ := r2
    rw [r1, r2]
    have kI : ∀ k, (k < 1 ∨ 110 ≤ k) → (k < 341 ∨ 359 ≤ k) → M' k = I k := fun k h1 h2 => (r4 k h2).trans (c4 k (by omega))
    have kJ : ∀ a, a ≠ 1 → a ≠ 7 → N' a = J a := fun a h1 h2 => (r5 a h2).trans (kN a h1)
    refine ⟨nI d, M', N', ?_, ?_, np', nt', ?_, ⟨?_, r3⟩, ?_, ?_, ?_, ?_, ?_, ?_, ?_⟩
    · rw [r4 1 (by omega), d1]
    · rw [r5 1 (by decide), d2]
    · exact RO_c c2' (fun k h1 h2 => r4 k (by omega)) (fun k h1 h2 => by rw [r5 1 (by decide)])
    · rw [kI 338 (by omega) (by omega)]
      exact hH.1
    · exact MT_c c3 (fun k h1 h2 => r4 k (by omega))
    · exact MT_c m2 (fun k h1 h2 => kI k (by omega) (by omega))
    · exact MT_c m3 (fun k h1 h2 => kI k (by omega) (by omega))
    · exact TP_c hT (kI _ (by omega) (by omega)) (kI _ (by omega) (by omega)) (by rw [kJ 0 (by decide) (by decide)]) (kJ 6 (by decide) (by decide))
    · exact IM_c hI0 (Nat.le_refl _) (by rw [kI 0 (by omega) (by omega)]) (by rw [kJ 0 (by decide) (by decide)]) (fun k h1 h2 => kI k (by omega) (by omega)) (kJ 4 (by decide) (by decide))
    · exact TM_c b1 (kI _ (by omega) (by omega))
    · exact TM_c b2 (kI _ (by omega) (by omega))
