/-! PURE 36: holders and the tape: what holds between both sides; count, hold, put, row, feed -/
def HH (I J : zM) (np nt h : Nat) : Prop := TM I (341 + 3 * h + 1) 60 1 ∧ I (341 + 3 * h) 0 = J 7 h ∧ (J 7 h = nI 0 ∨ (J 7 h = nI 1 ∧ ∃ p, p < np ∧ I (341 + 3 * h) 1 = nI p ∧ J 8 h = nI p) ∨ (J 7 h = nI 2 ∧ ∃ t, t < nt ∧ I (341 + 3 * h) 1 = nI t ∧ J 8 h = nI t) ∨ (J 7 h = nI 3 ∧ ∃ n, TB I (341 + 3 * h + 1) 60 1 n ∧ J 9 h = nI n ∧ ∀ i, i < n → I (341 + 3 * h + 2) i = J (11 + h) i))
def HS (I J : zM) (np nt : Nat) : Prop := I 338 0 = 0 ∧ ∀ h, h < 6 → HH I J np nt h
def TP (I J : zM) : Prop := ∃ n, TB I 332 120 1 n ∧ J 0 8 = nI n ∧ ∀ i, i < n → ∃ b, b ≤ 255 ∧ I 333 i = nI b ∧ J 6 i = nI b
theorem HH_c {I I2 J J2 : zM} {np nt np2 nt2 h : Nat} (H : HH I J np nt h) (hh : h < 6) (hp : np ≤ np2) (ht : nt ≤ nt2) (hI : sameI I I2 (341 + 3 * h) (341 + 3 * h + 3)) (h7 : J2 7 h = J 7 h) (h8 : J2 8 h = J 8 h) (h9 : J2 9 h = J 9 h) (hr : J2 (11 + h) = J (11 + h)) : HH I2 J2 np2 nt2 h := by
  obtain ⟨a1, a2, a3⟩ := H
  have e0 := hI (341 + 3 * h) (by omega) (by omega)
  have e1 := hI (341 + 3 * h + 1) (by omega) (by omega)
  have e2 := hI (341 + 3 * h + 2) (by omega) (by omega)
  refine ⟨TM_c a1 e1, by rw [e0, h7]; exact a2, ?_⟩
  rw [e0, h7, h8, h9, hr, e2]
  rcases a3 with a3 | ⟨b, p, b1, b2⟩ | ⟨b, p, b1, b2⟩ | ⟨b, n, b1, b2⟩
  · exact Or.inl a3
  · exact Or.inr (Or.inl ⟨b, p, by omega, b2⟩)
  · exact Or.inr (Or.inr (Or.inl ⟨b, p, by omega, b2⟩))
  · exact Or.inr (Or.inr (Or.inr ⟨b, n, TB_c b1 e1, b2⟩))
theorem HS_c {I I2 J J2 : zM} {np nt np2 nt2 : Nat} (H : HS I J np nt) (hp : np ≤ np2) (ht : nt ≤ nt2) (hI : sameI I I2 338 359) (hJ : ∀ a, 7 ≤ a → a < 17 → J2 a = J a) : HS I2 J2 np2 nt2 := by
  refine ⟨by rw [hI 338 (by omega) (by omega)]; exact H.1, fun h hh => ?_⟩
  exact HH_c (H.2 h hh) hh hp ht (fun k a b => hI k (by omega) (by omega)) (by rw [hJ 7 (by omega) (by omega)]) (by rw [hJ 8 (by omega) (by omega)]) (by rw [hJ 9 (by omega) (by omega)]) (hJ _ (by omega) (by omega))
-- one holder is written
theorem HS_h {I I2 J J2 : zM} {np nt h : Nat} (H : HS I J np nt) (hh : h < 6) (hI : ∀ k, 338 ≤ k → k < 359 → k ≠ 341 + 3 * h → k ≠ 341 + 3 * h + 1 → k ≠ 341 + 3 * h + 2 → I2 k = I k) (h7 : ∀ g, g ≠ h → J2 7 g = J 7 g) (h8 : ∀ g, g ≠ h → J2 8 g = J 8 g) (h9 : ∀ g, g ≠ h → J2 9 g = J 9 g) (hr : ∀ g, g < 6 → g ≠ h → J2 (11 + g) = J (11 + g)) (hn : HH I2 J2 np nt h) : HS I2 J2 np nt := by
  refine ⟨by rw [hI 338 (by omega) (by omega) (by omega) (by omega) (by omega)]; exact H.1, fun g hg => ?_⟩
  by_cases c : g = h
  · rw [c]
    exact hn
  · exact HH_c (H.2 g hg) hg (Nat.le_refl _) (Nat.le_refl _) (fun k a b => hI k (by omega) (by omega) (by omega) (by omega) (by omega)) (h7 g c) (h8 g c) (h9 g c) (hr g hg c)
theorem TP_c {I I2 J J2 : zM} (H : TP I J) (h1 : I2 332 = I 332) (h2 : I2 333 = I 333) (h3 : J2 0 8 = J 0 8) (h4 : J2 6 = J 6) : TP I2 J2 := by
  obtain ⟨n, a1, a2, a3⟩ := H
  exact ⟨n, TB_c a1 h1, by rw [h3]; exact a2, by rw [h2, h4]; exact a3⟩
theorem sp_holderAt (I : zM) {h : Nat} (hh : h < 6) : f_X8_holderAt I (nI h) = some (341 + 3 * h) := by
  unfold f_X8_holderAt
  simp (disch := omega) only [zlit, zofN, zneg, zle, zlt, zeq, pk_mul, pk_sub, nI_add, nI_clamp, zb_s, zlet_s, if_false, if_true, if_pos, if_neg, zck_1, zin_t]
theorem pr_isHolder (I J : zM) (x : Int32) : (f_X8_isHolder I x = some 0 ∧ f_X9_isHolder J x = some 0 ∧ f_X8_holderAt I x = some 338) ∨ ∃ h, h < 6 ∧ x = nI h ∧ f_X8_isHolder I x = some 1 ∧ f_X9_isHolder J x = some 1 ∧ f_X8_holderAt I x = some (341 + 3 * h) := by
  by_cases c : x < 0
  · left
    unfold f_X8_isHolder f_X9_isHolder f_X8_holderAt
    rw [in_e, if_pos c, if_pos c, if_pos c]
    exact ⟨rfl, rfl, rfl⟩
  · by_cases c2 : x ≤ 5
    · obtain ⟨h, hh, rfl⟩ := nI_of2 (M := 5) (n := 5) (by decide) c c2
      right
      refine ⟨h, by omega, rfl, ?_, ?_, sp_holderAt I (by omega)⟩
      · unfold f_X8_isHolder
        simp (disch := omega) only [zlit, zofN, zneg, zle, zlt, zeq, pk_mul, pk_sub, nI_add, nI_clamp, zb_s, zlet_s, if_false, if_true, if_pos, if_neg, zck_1, zin_t]
      · unfold f_X9_isHolder
        rw [in_e, if_neg c, if_pos c2]
        rfl
    · left
      have c3 : 6 ≤ x := by
        obtain ⟨k, hk, rfl⟩ := nI_of c
        have h6 : ¬ k ≤ 5 := fun h => c2 (nI_le (b := 5) h (by omega))
        exact nI_le (a := 6) (by omega) hk
      unfold f_X8_isHolder f_X9_isHolder f_X8_holderAt
      rw [in_e, if_neg c, if_neg c, if_neg c, if_neg c2, if_pos c3, if_pos c3]
      exact ⟨rfl, rfl, rfl⟩
theorem l_inUse {I J : zM} {np nt : Nat} (H : HS I J np nt) : ∀ (d y fI fJ : Nat) (a : Int32), 6 = y + d → d < fI → d < fJ → ∃ r, f_X8_holdersInUse_l4 I fI a (nI y) = some r ∧ f_X9_count_l196 J fJ a (nI y) = some r := by
  intro d
  induction d with
  | zero =>
    intro y fI fJ a hd hfI hfJ
    obtain ⟨m, rfl⟩ : ∃ m, fI = m + 1 := ⟨fI - 1, by omega⟩
    obtain ⟨m', rfl⟩ : ∃ m, fJ = m + 1 := ⟨fJ - 1, by omega⟩
    have e : y = 6 := by omega
    subst e
    rw [f_X8_holdersInUse_l4, f_X9_count_l196, if_pos (by decide), if_pos (by decide)]
    exact ⟨_, rfl, rfl⟩
  | succ d ih =>
    intro y fI fJ a hd hfI hfJ
    obtain ⟨m, rfl⟩ : ∃ m, fI = m + 1 := ⟨fI - 1, by omega⟩
    obtain ⟨m', rfl⟩ : ∃ m, fJ = m + 1 := ⟨fJ - 1, by omega⟩
    have hy : y < 6 := by omega
    have e := (H.2 y hy).2.1
    have g6 : ¬ (6 : Int32) ≤ nI y := nI_ge (b := 6) (by omega) (by decide)
    rw [f_X8_holdersInUse_l4, f_X9_count_l196, if_neg g6, if_neg g6, sp_holderAt I hy, zb_s, e, zin_t hy (by decide), zck_1, nI_clamp (by omega)]
    simp only [zlet_s, nI_1, a0]
    by_cases c : J 7 y = 0
    · rw [if_pos c, if_pos c]
      exact ih (y + 1) m m' _ (by omega) (by omega) (by omega)
    · rw [if_neg c, if_neg c]
      exact ih (y + 1) m m' _ (by omega) (by omega) (by omega)
theorem q_count {I J : zM} {np nt B : Nat} (hR : RO I 1 (J 1) np nt B) (H : HS I J np nt) (hT : TP I J) (x : Int32) : Ask (f_X8_count I x) (f_X9_count J x) := by
  have hz := zFu_big
  obtain ⟨hnp, hnt, h5, hA5, h6, hA6, ⟨dd, hd0, hd1, hd2⟩, h8, -⟩ := hR.1
  obtain ⟨r2, a2, b2⟩ := q_leased hR
  obtain ⟨r3, a3, b3⟩ := q_claims hR
  obtain ⟨r6, a6, b6⟩ := q_debts hR
  obtain ⟨n, t1, t2, -⟩ := hT
  have a7 := sp_size t1
  obtain ⟨r8, a8, b8⟩ := l_inUse H 6 0 zFu zFu 0 (by omega) (by omega) (by omega)
  have a8 : f_X8_holdersInUse I = some r8 := a8
  have b8 : f_X9_count_l196 J zFu 0 0 = some r8 := b8
  unfold f_X8_count f_X9_count
  rw [h5, hA5, h6, hA6, a2, a3, a6, a7, a8, b2, b3, b6, b8, hd1, hd2, h8, t2]
  simp only [zb_s]
  by_cases c0 : x = 0
  · rw [if_pos c0]
    exact ⟨_, rfl, rfl⟩
  · rw [if_neg c0]
    by_cases c1 : x = 1
    · rw [if_pos c1]
      exact ⟨_, rfl, rfl⟩
    · rw [if_neg c1]
      by_cases c2 : x = 2
      · rw [if_pos c2]
        exact ⟨_, rfl, rfl⟩
      · rw [if_neg c2]
        by_cases c3 : x = 3
        · rw [if_pos c3]
          exact ⟨_, rfl, rfl⟩
        · rw [if_neg c3]
          by_cases c4 : x = 4
          · rw [if_pos c4]
            exact ⟨_, rfl, rfl⟩
          · rw [if_neg c4]
            by_cases c5 : x = 5
            · rw [if_pos c5]
              exact ⟨_, rfl, rfl⟩
            · rw [if_neg c5]
              by_cases c6 : x = 6
              · rw [if_pos c6]
                exact ⟨_, rfl, rfl⟩
              · rw [if_neg c6]
                by_cases c7 : x = 7
                · rw [if_pos c7]
                  exact ⟨_, rfl, rfl⟩
                · rw [if_neg c7]
                  by_cases c8 : x = 8
                  · rw [if_pos c8]
                    exact ⟨_, rfl, rfl⟩
                  · rw [if_neg c8]
                    exact ⟨_, rfl, rfl⟩
-- what a call to a holder changes: nothing else
def HD (I J : zM) (np nt : Nat) (fI fJ : Option (Int32 × zM)) : Prop := ∃ r I2 J2, fI = some (r, I2) ∧ fJ = some (r, J2) ∧ HS I2 J2 np nt ∧ (∀ k, k < 341 → I2 k = I k) ∧ ∀ a, a < 7 ∨ 17 ≤ a → J2 a = J a
theorem HD_same {I J : zM} {np nt : Nat} {fI fJ : Option (Int32 × zM)} (H : HS I J np nt) (r : Int32) (h1 : fI = some (r, I)) (h2 : fJ = some (r, J)) : HD I J np nt fI fJ := ⟨r, I, J, h1, h2, H, fun _ _ => rfl, fun _ _ => rfl⟩
theorem hold_ok {I J : zM} {np nt h : Nat} (H : HS I J np nt) (hh : h < 6) (x2 x3 : Int32) (hv : x2 = nI 0 ∨ (x2 = nI 1 ∧ ∃ p, p < np ∧ x3 = nI p) ∨ (x2 = nI 2 ∧ ∃ t, t < nt ∧ x3 = nI t)) (e1 : f_X8_isHolder I (nI h) = some 1) (e3 : f_X8_holderAt I (nI h) = some (341 + 3 * h)) : HD I J np nt (f_X8_hold_j36 I (nI h) x2 x3) (f_X9_hold_j45 J (nI h) x2 x3) := by
  unfold f_X8_hold_j36 f_X8_hold_j41 f_X9_hold_j45 f_X1_take
  rw [e1, zb_s, if_neg one0, if_neg one0, e3, zb_s]
  simp only [zlet_s, zb_s]
  rw [zin_t hh (by decide), zck_1, zck_1, nI_clamp (by omega)]
  refine ⟨1, _, _, rfl, rfl, ?_, fun k hk => by rw [ms_n (by omega), ms_n (by omega)], fun a ha => by rw [ms_n (by omega), ms_n (by omega)]⟩
  refine HS_h H hh (fun k a b c d e => by rw [ms_n (by omega), ms_n (by omega)]) (fun g hg => by rw [ms_n (by decide), ms_sn hg]) (fun g hg => by rw [ms_sn hg, ms_n (by decide)]) (fun g hg => by rw [ms_n (by decide), ms_n (by decide)]) (fun g hg hg2 => by rw [ms_n (by omega), ms_n (by omega)]) ?_
  refine ⟨TM_c (H.2 h hh).1 (by rw [ms_n (by omega), ms_n (by omega)]), ?_, ?_⟩
  · rw [ms_sn (by decide), ms_ss, ms_n (by decide), ms_ss]
  · rw [ms_ss, ms_n (show (7 : Nat) ≠ 8 by decide), ms_ss, ms_ss]
    rcases hv with hv | ⟨hv, p, hp, hx⟩ | ⟨hv, p, hp, hx⟩
    · exact Or.inl hv
    · exact Or.inr (Or.inl ⟨hv, p, hp, hx, hx⟩)
    · exact Or.inr (Or.inr (Or.inl ⟨hv, p, hp, hx, hx⟩))
theorem hold_j40 {I : zM} {x1 x2 x3 : Int32} (h : f_X8_isHolder I x1 = some 0 ∨ f_X8_isHolder I x1 = some 1) : f_X8_hold_j40 I x1 x2 x3 = some (-1, I) := by
  unfold f_X8_hold_j40 f_X8_hold_j41
  rcases h with h | h
  · rw [h, zb_s, if_pos rfl]
  · rw [h, zb_s, if_neg one0, if_pos rfl]
theorem hold_j36 {I : zM} {x1 x2 x3 : Int32} (h : f_X8_isHolder I x1 = some 0) : f_X8_hold_j36 I x1 x2 x3 = some (-1, I) := by
  unfold f_X8_hold_j36 f_X8_hold_j41
  rw [h, zb_s, if_pos rfl]
theorem d_hold {I J : zM} {np nt B : Nat} (hR : RO I 1 (J 1) np nt B) (H : HS I J np nt) (x1 x2 x3 : Int32) : HD I J np nt (f_X8_hold I x1 x2 x3) (f_X9_hold J x1 x2 x3) := by
  obtain ⟨c1, c2, c3, c4, c5, c6, -⟩ := hR.1
  unfold f_X8_hold f_X9_hold f_X8_hold_j20
  rcases pr_isHolder I J x1 with ⟨e1, e2, -⟩ | ⟨h, hh, rfl, e1, e2, e3⟩
  · rw [hold_j36 e1, hold_j40 (Or.inl e1), e2, zb_s, if_pos rfl]
    have hp : ∀ z : Option (Int32 × zM), zb (f_X2_isPerson I 1 x3) (fun q11 => if q11 = 0 then z else some (-1, I)) = z ∨ zb (f_X2_isPerson I 1 x3) (fun q11 => if q11 = 0 then z else some (-1, I)) = some (-1, I) := by
      intro z
      rcases pr_isPerson c3 c4 c1 x3 with ⟨a1, a2⟩ | ⟨q, hq, rfl, a1, a2⟩
      · rw [a1, zb_s, if_pos rfl]
        exact Or.inl rfl
      · rw [a1, zb_s, if_neg one0]
        exact Or.inr rfl
    have ht : zb (f_X2_isTool I 1 x3) (fun q9 => if q9 = 0 then some ((-1 : Int32), I) else some (-1, I)) = some (-1, I) := by
      rcases pr_isTool c5 c6 c2 x3 with ⟨a1, a2⟩ | ⟨q, hq, rfl, a1, a2⟩
      · rw [a1, zb_s, if_pos rfl]
      · rw [a1, zb_s, if_neg one0]
    rw [ht]
    refine HD_same H (-1) ?_ rfl
    by_cases d0 : x2 = 0
    · rw [if_pos d0]
    · rw [if_neg d0]
      have hj : (if x2 = 2 then some ((-1 : Int32), I) else some (-1, I)) = some (-1, I) := by split <;> rfl
      rw [hj]
      by_cases d1 : x2 = 1
      · rw [if_pos d1]
        rcases hp (some (-1, I)) with h | h <;> exact h
      · rw [if_neg d1]
  · rw [hold_j40 (Or.inr e1), e2, zb_s, if_neg one0, in_e]
    by_cases d0 : x2 = 0
    · subst d0
      rw [if_pos rfl, if_neg (by decide), if_pos (by decide), zb_s, if_neg one0, if_neg (by decide)]
      unfold f_X9_hold_j30
      rw [if_neg (by decide)]
      exact hold_ok H hh 0 x3 (Or.inl rfl) e1 e3
    · rw [if_neg d0]
      by_cases d1 : x2 = 1
      · subst d1
        rw [if_pos rfl, if_neg (by decide), if_neg (by decide), if_pos (by decide), zb_s, if_neg one0, if_pos rfl]
        unfold f_X9_hold_j30
        rw [if_neg (by decide)]
        rcases pr_isPerson c3 c4 c1 x3 with ⟨a1, a2⟩ | ⟨q, hq, rfl, a1, a2⟩
        · rw [a1, a2, zb_s, zb_s, if_pos rfl, if_pos rfl]
          exact HD_same H (-1) rfl rfl
        · rw [a1, a2, zb_s, zb_s, if_neg one0, if_neg one0]
          exact hold_ok H hh 1 _ (Or.inr (Or.inl ⟨rfl, q, hq, rfl⟩)) e1 e3
      · rw [if_neg d1, if_neg d1]
        by_cases d2 : x2 = 2
        · subst d2
          rw [if_pos rfl, if_neg (by decide), if_pos (by decide), zb_s, if_neg one0]
          unfold f_X9_hold_j30
          rw [if_pos rfl]
          rcases pr_isTool c5 c6 c2 x3 with ⟨a1, a2⟩ | ⟨q, hq, rfl, a1, a2⟩
          · rw [a1, a2, zb_s, zb_s, if_pos rfl, if_pos rfl]
            exact HD_same H (-1) rfl rfl
          · rw [a1, a2, zb_s, zb_s, if_neg one0, if_neg one0]
            exact hold_ok H hh 2 _ (Or.inr (Or.inr ⟨rfl, q, hq, rfl⟩)) e1 e3
        · rw [if_neg d2]
          by_cases g1 : x2 < 0
          · rw [if_pos g1, zb_s, if_pos rfl]
            exact HD_same H (-1) rfl rfl
          · rw [if_neg g1]
            by_cases g2 : x2 ≤ 2
            · obtain ⟨k, hk, rfl⟩ := nI_of2 (M := 2) (n := 2) (by decide) g1 g2
              rcases (show k = 0 ∨ k = 1 ∨ k = 2 by omega) with rfl | rfl | rfl
              · exact absurd rfl d0
              · exact absurd rfl d1
              · exact absurd rfl d2
            · rw [if_neg g2, zb_s, if_pos rfl]
              exact HD_same H (-1) rfl rfl
