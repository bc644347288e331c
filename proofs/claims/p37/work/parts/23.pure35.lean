/-! PURE 35: rings of three; what is asked of swaps -/
theorem pr_wm {I J : zM} {np nt B u v : Nat} (hR : RO I 1 (J 1) np nt B) (hu : u < nt) (hv : v < nt) : ∃ c m w, f_X6_wishesMore I (nI u) (nI v) = some c ∧ f_X9_mayBeSwapped J (nI u) (nI v) = some m ∧ (m ≠ 0 → f_X9_wishesMore J (nI u) (nI v) = some w) ∧ (m = 0 → c = 0) ∧ (m ≠ 0 → w = 0 → c = 0) ∧ (m ≠ 0 → w ≠ 0 → c ≠ 0) := by
  have hnt := hR.1.2.1
  rcases pr_may hR hu hv with ⟨m1, m2⟩ | ⟨p, q, hp, hq, hpq, huv, h1, h2, h3, h4, m1, m2⟩
  · refine ⟨0, 0, 0, ?_, m2, fun h => absurd rfl h, fun _ => rfl, fun _ _ => rfl, fun h => absurd rfl h⟩
    unfold f_X6_wishesMore
    rw [m1, zb_s, if_pos rfl]
  · obtain ⟨a, a1, a2⟩ := pr_rise hR hu hv hp h1
    have q2 : f_X9_t J (nI u) 2 = some (nI p) := by rw [← h2]; exact sp_t J (t := u) (f := 2) (by omega)
    by_cases c : a ≤ 0
    · refine ⟨0, 1, 0, ?_, m2, fun _ => ?_, fun h => absurd h one0, fun _ _ => rfl, fun _ h => absurd rfl h⟩
      · unfold f_X6_wishesMore
        rw [m1, zb_s, if_neg one0, a1, zb_s, if_pos c]
      · unfold f_X9_wishesMore
        rw [q2, zb_s, a2, zb_s, if_pos c]
    · refine ⟨1, 1, 1, ?_, m2, fun _ => ?_, fun h => absurd h one0, fun _ h => absurd h one0, fun _ _ => one0⟩
      · unfold f_X6_wishesMore
        rw [m1, zb_s, if_neg one0, a1, zb_s, if_neg c]
      · unfold f_X9_wishesMore
        rw [q2, zb_s, a2, zb_s, if_neg c]
def ringE (c1 c2 c3 : Int32) : Int32 := if c1 = 0 then 0 else if c2 = 0 then 0 else if c3 = 0 then 0 else 1
theorem ringE_0 {c1 c2 c3 : Int32} (h : c1 = 0 ∨ c2 = 0 ∨ c3 = 0) : ringE c1 c2 c3 = 0 := by
  unfold ringE
  by_cases h1 : c1 = 0
  · exact if_pos h1
  · rw [if_neg h1]
    by_cases h2 : c2 = 0
    · exact if_pos h2
    · rw [if_neg h2]
      by_cases h3 : c3 = 0
      · exact if_pos h3
      · rcases h with h | h | h
        · exact absurd h h1
        · exact absurd h h2
        · exact absurd h h3
theorem ringE_1 {c1 c2 c3 : Int32} (h1 : c1 ≠ 0) (h2 : c2 ≠ 0) (h3 : c3 ≠ 0) : ringE c1 c2 c3 = 1 := by
  unfold ringE
  rw [if_neg h1, if_neg h2, if_neg h3]
theorem s_ring {J : zM} {y2 y3 y4 : Int32} {c1 m1 w1 c2 m2 w2 c3 m3 w3 N : Int32} (K : Int32 → Option Int32) (hN : J 1 1081 = N) (h4 : ¬ N ≤ y4) (a2 : f_X9_mayBeSwapped J y2 y3 = some m1) (a3 : m1 ≠ 0 → f_X9_wishesMore J y2 y3 = some w1) (a4 : m1 = 0 → c1 = 0) (a5 : m1 ≠ 0 → w1 = 0 → c1 = 0) (a6 : m1 ≠ 0 → w1 ≠ 0 → c1 ≠ 0) (b2 : f_X9_mayBeSwapped J y3 y4 = some m2) (b3 : m2 ≠ 0 → f_X9_wishesMore J y3 y4 = some w2) (b4 : m2 = 0 → c2 = 0) (b5 : m2 ≠ 0 → w2 = 0 → c2 = 0) (b6 : m2 ≠ 0 → w2 ≠ 0 → c2 ≠ 0) (d2 : f_X9_mayBeSwapped J y4 y2 = some m3) (d3 : m3 ≠ 0 → f_X9_wishesMore J y4 y2 = some w3) (d4 : m3 = 0 → c3 = 0) (d5 : m3 ≠ 0 → w3 = 0 → c3 = 0) (d6 : m3 ≠ 0 → w3 ≠ 0 → c3 ≠ 0) (n : Nat) (a : Int32) : f_X9_rings_l37 J y2 y3 K (n + 1) a y4 = f_X9_rings_l37 J y2 y3 K n (a + ringE c1 c2 c3) (y4 + 1) := by
  rw [f_X9_rings_l37, hN, if_neg h4, a2, zb_s]
  by_cases n1 : m1 = 0
  · rw [if_pos n1, zlet_s, ringE_0 (Or.inl (a4 n1))]
  · rw [if_neg n1, b2, zb_s]
    by_cases n2 : m2 = 0
    · rw [if_pos n2, zlet_s, ringE_0 (Or.inr (Or.inl (b4 n2)))]
    · rw [if_neg n2, d2, zb_s]
      by_cases n3 : m3 = 0
      · rw [if_pos n3, zlet_s, ringE_0 (Or.inr (Or.inr (d4 n3)))]
      · rw [if_neg n3, a3 n1, zb_s]
        by_cases k1 : w1 = 0
        · rw [if_pos k1, zlet_s, ringE_0 (Or.inl (a5 n1 k1))]
        · rw [if_neg k1, b3 n2, zb_s]
          by_cases k2 : w2 = 0
          · rw [if_pos k2, zlet_s, ringE_0 (Or.inr (Or.inl (b5 n2 k2)))]
          · rw [if_neg k2, d3 n3, zb_s]
            by_cases k3 : w3 = 0
            · rw [if_pos k3, zlet_s, ringE_0 (Or.inr (Or.inr (d5 n3 k3)))]
            · rw [if_neg k3, zlet_s, ringE_1 (a6 n1 k1) (b6 n2 k2) (d6 n3 k3)]
theorem l_ring3 {I J : zM} {np nt B u v : Nat} (hR : RO I 1 (J 1) np nt B) (hu : u < nt) (hv : v < nt) (K : Int32 → Option Int32) {c1 : Int32} (hc : f_X6_wishesMore I (nI u) (nI v) = some c1) (b : Int32) : ∀ (d y fI fJ : Nat) (c : Int32), nt = y + d → d < fI → d < fJ → ∃ c', f_X6_ringsOver_l7 I (nI u) (nI v) fI c (nI y) = some c' ∧ (c1 ≠ 0 → f_X9_rings_l37 J (nI u) (nI v) K fJ (b + c) (nI y) = K (b + c')) ∧ (c1 = 0 → f_X9_rings_l37 J (nI u) (nI v) K fJ b (nI y) = K b) := by
  obtain ⟨hnp, hnt, h5, hA5, h6, hA6, -⟩ := hR.1
  intro d
  induction d with
  | zero =>
    intro y fI fJ c hd hfI hfJ
    obtain ⟨m, rfl⟩ : ∃ m, fI = m + 1 := ⟨fI - 1, by omega⟩
    obtain ⟨m', rfl⟩ : ∃ m, fJ = m + 1 := ⟨fJ - 1, by omega⟩
    rw [f_X6_ringsOver_l7, h6, if_pos (nI_le (by omega) (by omega))]
    refine ⟨c, rfl, fun _ => ?_, fun _ => ?_⟩
    · rw [f_X9_rings_l37, hA6, if_pos (nI_le (by omega) (by omega))]
    · rw [f_X9_rings_l37, hA6, if_pos (nI_le (by omega) (by omega))]
  | succ d ih =>
    intro y fI fJ c hd hfI hfJ
    obtain ⟨m, rfl⟩ : ∃ m, fI = m + 1 := ⟨fI - 1, by omega⟩
    obtain ⟨m', rfl⟩ : ∃ m, fJ = m + 1 := ⟨fJ - 1, by omega⟩
    obtain ⟨c1', m1, w1, a1, a2, a3, a4, a5, a6⟩ := pr_wm hR hu hv
    have e : c1' = c1 := Option.some.inj (a1.symm.trans hc)
    subst e
    obtain ⟨c2, m2, w2, b1, b2, b3, b4, b5, b6⟩ := pr_wm hR hv (show y < nt by omega)
    obtain ⟨c3, m3, w3, d1, d2, d3, d4, d5, d6⟩ := pr_wm hR (show y < nt by omega) hu
    have hs := s_ring K hA6 (nI_ge (show y < nt by omega) (by omega)) a2 a3 a4 a5 a6 b2 b3 b4 b5 b6 d2 d3 d4 d5 d6 m'
    rw [nI_1] at hs
    have hI : f_X6_ringsOver_l7 I (nI u) (nI v) (m + 1) c (nI y) = f_X6_ringsOver_l7 I (nI u) (nI v) m (if c2 = 0 then c else if c3 = 0 then c else c + 1) (nI (y + 1)) := by
      rw [f_X6_ringsOver_l7, h6, if_neg (nI_ge (by omega) (by omega)), b1, zb_s, nI_1]
      by_cases k2 : c2 = 0
      · rw [if_pos k2, if_pos k2]
      · rw [if_neg k2, if_neg k2, d1, zb_s]
        by_cases k3 : c3 = 0
        · rw [if_pos k3, if_pos k3]
        · rw [if_neg k3, if_neg k3]
    obtain ⟨c', r1, r2, r3⟩ := ih (y + 1) m m' (if c2 = 0 then c else if c3 = 0 then c else c + 1) (by omega) (by omega) (by omega)
    refine ⟨c', hI.trans r1, fun h => ?_, fun h => ?_⟩
    · rw [hs, ← r2 h]
      refine congrArg (fun z => f_X9_rings_l37 J (nI u) (nI v) K m' z (nI (y + 1))) ?_
      unfold ringE
      rw [if_neg h]
      by_cases k2 : c2 = 0
      · rw [if_pos k2, if_pos k2, a0]
      · rw [if_neg k2, if_neg k2]
        by_cases k3 : c3 = 0
        · rw [if_pos k3, if_pos k3, a0]
        · rw [if_neg k3, if_neg k3, Int32.add_assoc]
    · rw [hs, ringE_0 (Or.inl h), a0]
      exact r3 h
theorem l_ring2 {I J : zM} {np nt B u : Nat} (hR : RO I 1 (J 1) np nt B) (hu : u < nt) (K1 K2 : Int32 → Option Int32) : ∀ (d y fI fJ : Nat) (a : Int32), nt = y + d → d < fI → d < fJ → ∃ a', f_X6_ringsNow_l19 I (nI u) K1 fI a (nI y) = K1 a' ∧ f_X9_rings_l20 J (nI u) K2 fJ a (nI y) = K2 a' := by
  have hz := zFu_big
  obtain ⟨hnp, hnt, h5, hA5, h6, hA6, -⟩ := hR.1
  intro d
  induction d with
  | zero =>
    intro y fI fJ a hd hfI hfJ
    obtain ⟨m, rfl⟩ : ∃ m, fI = m + 1 := ⟨fI - 1, by omega⟩
    obtain ⟨m', rfl⟩ : ∃ m, fJ = m + 1 := ⟨fJ - 1, by omega⟩
    rw [f_X6_ringsNow_l19, f_X9_rings_l20, h6, hA6, if_pos (nI_le (by omega) (by omega)), if_pos (nI_le (by omega) (by omega))]
    exact ⟨a, rfl, rfl⟩
  | succ d ih =>
    intro y fI fJ a hd hfI hfJ
    obtain ⟨m, rfl⟩ : ∃ m, fI = m + 1 := ⟨fI - 1, by omega⟩
    obtain ⟨m', rfl⟩ : ∃ m, fJ = m + 1 := ⟨fJ - 1, by omega⟩
    obtain ⟨c1, m1, w1, a1, -⟩ := pr_wm hR hu (show y < nt by omega)
    rw [f_X6_ringsNow_l19, f_X9_rings_l20, h6, hA6, if_neg (nI_ge (by omega) (by omega)), if_neg (nI_ge (by omega) (by omega)), a1, zb_s]
    simp only [zlet_s, nI_1]
    obtain ⟨c', r1, r2, r3⟩ := l_ring3 hR hu (show y < nt by omega) (fun z29 => f_X9_rings_l20 J (nI u) K2 m' z29 (nI (y + 1))) a1 a (nt - (u + 1)) (u + 1) zFu zFu 0 (by omega) (by omega) (by omega)
    by_cases k : c1 = 0
    · rw [if_pos k, r3 k]
      exact ih (y + 1) m m' a (by omega) (by omega) (by omega)
    · have r2 := r2 k
      rw [a0] at r2
      have r1 : f_X6_ringsOver I (nI u) (nI y) = some c' := by
        unfold f_X6_ringsOver
        rw [zlet_s, nI_1]
        exact r1
      rw [if_neg k, r1, zb_s, r2]
      exact ih (y + 1) m m' (a + c') (by omega) (by omega) (by omega)
theorem l_ring1 {I J : zM} {np nt B : Nat} (hR : RO I 1 (J 1) np nt B) : ∀ (d y fI fJ : Nat) (a : Int32), nt = y + d → d < fI → d < fJ → ∃ a', f_X6_ringsNow_l4 I fI a (nI y) = some a' ∧ f_X9_rings_l4 J fJ a (nI y) = some a' := by
  have hz := zFu_big
  obtain ⟨hnp, hnt, h5, hA5, h6, hA6, -⟩ := hR.1
  intro d
  induction d with
  | zero =>
    intro y fI fJ a hd hfI hfJ
    obtain ⟨m, rfl⟩ : ∃ m, fI = m + 1 := ⟨fI - 1, by omega⟩
    obtain ⟨m', rfl⟩ : ∃ m, fJ = m + 1 := ⟨fJ - 1, by omega⟩
    rw [f_X6_ringsNow_l4, f_X9_rings_l4, h6, hA6, if_pos (nI_le (by omega) (by omega)), if_pos (nI_le (by omega) (by omega))]
    exact ⟨a, rfl, rfl⟩
  | succ d ih =>
    intro y fI fJ a hd hfI hfJ
    obtain ⟨m, rfl⟩ : ∃ m, fI = m + 1 := ⟨fI - 1, by omega⟩
    obtain ⟨m', rfl⟩ : ∃ m, fJ = m + 1 := ⟨fJ - 1, by omega⟩
    rw [f_X6_ringsNow_l4, f_X9_rings_l4, h6, hA6, if_neg (nI_ge (by omega) (by omega)), if_neg (nI_ge (by omega) (by omega))]
    simp only [zlet_s, nI_1]
    obtain ⟨a', r1, r2⟩ := l_ring2 hR (show y < nt by omega) (fun z8 => f_X6_ringsNow_l4 I m z8 (nI (y + 1))) (fun z30 => f_X9_rings_l4 J m' z30 (nI (y + 1))) (nt - (y + 1)) (y + 1) zFu zFu a (by omega) (by omega) (by omega)
    rw [r1, r2]
    exact ih (y + 1) m m' a' (by omega) (by omega) (by omega)
theorem q_swaps {I J : zM} {np nt B : Nat} (hB : B + 1 ≤ 2 ^ 20) (hM : MT I 1) (hR : RO I 1 (J 1) np nt B) (x : Int32) : ∃ r J2, f_X8_swaps I x = some r ∧ f_X9_swaps J x = some (r, J2) ∧ RO I 1 (J2 1) np nt B ∧ FJ J J2 := by
  have hz := zFu_big
  have hnt := hR.1.2.1
  unfold f_X8_swaps f_X9_swaps
  rw [in_e]
  by_cases c1 : x < 0
  · rw [if_pos c1, zb_s, if_pos rfl, if_neg (fun h => absurd c1 (by rw [h]; decide)), if_neg (fun h => absurd c1 (by rw [h]; decide)), if_neg (fun h => absurd c1 (by rw [h]; decide)), if_neg (fun h => absurd c1 (by rw [h]; decide))]
    exact ⟨_, J, rfl, rfl, hR, FJ_r⟩
  · rw [if_neg c1]
    by_cases c2 : x ≤ 3
    · obtain ⟨k, hk, rfl⟩ := nI_of2 (M := 3) (n := 3) (by decide) c1 c2
      rw [if_pos c2, zb_s, if_neg one0]
      have sw : ∀ k : Nat, ∃ a' b' M', f_X6_swapsNow I = some a' ∧ f_X6_bestSwap I = some b' ∧ f_X9_swapsNow J (nI k) = (if nI k = 0 then some (a', M') else some (b', M')) ∧ RO I 1 (M' 1) np nt B ∧ FJ J M' := by
        intro k
        obtain ⟨a', b', M', r1, r2, r3, r4, r5⟩ := l_sw11 (J := J) (x1 := nI k) hB hM (fun M24 z25 z26 => if nI k = 0 then some (z25, M24) else some (z26, M24)) nt 0 zFu zFu zFu J 0 (-2) 0 (by omega) (by omega) (by omega) (by omega) hR FJ_r
        exact ⟨a', b', M', r1, r2, r3, r4, r5⟩
      rcases (show k = 0 ∨ k = 1 ∨ k = 2 ∨ k = 3 by omega) with rfl | rfl | rfl | rfl
      · obtain ⟨a', b', M', r1, r2, r3, r4, r5⟩ := sw 0
        rw [if_pos (by decide), r1, zb_s, if_neg (by decide), r3, if_pos (by decide)]
        exact ⟨a', M', rfl, rfl, r4, r5⟩
      · obtain ⟨a', b', M', r1, r2, r3, r4, r5⟩ := sw 1
        rw [if_neg (by decide), if_pos (by decide), r2, zb_s, if_neg (by decide), r3, if_neg (by decide)]
        exact ⟨b', M', rfl, rfl, r4, r5⟩
      · obtain ⟨a', r1, r2⟩ := l_ring1 hR nt 0 zFu zFu 0 (by omega) (by omega) (by omega)
        have r1 : f_X6_ringsNow I = some a' := r1
        have r2 : f_X9_rings J = some a' := r2
        rw [if_neg (by decide), if_neg (by decide), if_pos (by decide), r1, zb_s, if_pos (by decide), if_pos (by decide), r2, zb_s]
        exact ⟨a', J, rfl, rfl, hR, FJ_r⟩
      · obtain ⟨a', r1, r2⟩ := q_coins hR
        rw [if_neg (by decide), if_neg (by decide), if_neg (by decide), if_pos (by decide), r1, zb_s, if_pos (by decide), if_neg (by decide), r2, zb_s]
        exact ⟨a', J, rfl, rfl, hR, FJ_r⟩
    · rw [if_neg c2, zb_s, if_pos rfl, if_neg (fun h => c2 (by rw [h]; decide)), if_neg (fun h => c2 (by rw [h]; decide)), if_neg (fun h => c2 (by rw [h]; decide)), if_neg (fun h => c2 (by rw [h]; decide))]
      exact ⟨_, J, rfl, rfl, hR, FJ_r⟩
