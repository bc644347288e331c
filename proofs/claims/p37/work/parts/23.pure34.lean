/-! PURE 34: swaps that could be: how many, the best -/
theorem sp_personAny (I : zM) (o : Nat) (x : Int32) : ∃ P, f_X2_personAt I o x = some P := by
  unfold f_X2_personAt
  by_cases c : x < 0
  · rw [if_pos c]
    exact ⟨_, rfl⟩
  · rw [if_neg c]
    by_cases c2 : 12 ≤ x
    · rw [if_pos c2]
      exact ⟨_, rfl⟩
    · rw [if_neg c2]
      obtain ⟨k, hk, rfl⟩ := nI_of c
      have hk2 : k < 12 := by
        rcases Nat.lt_or_ge k 12 with h | h
        · exact h
        · exact absurd ((nI_leI (by omega) hk).mpr h) c2
      rw [zin_t hk2 (by decide), zck_1]
      exact ⟨_, rfl⟩
theorem sp_riseAny (I : zM) (o : Nat) {u v : Nat} (hu : u < 10) (hv : v < 10) : ∃ a, f_X2_riseOf I o (nI u) (nI v) = some a := by
  unfold f_X2_riseOf
  rw [sp_toolAt I o hu, zb_s]
  obtain ⟨P, hP⟩ := sp_personAny I o (I (o + 39 + 7 * u) 2)
  rw [hP, zb_s, sp_wishOf I P hv, zb_s, sp_wishOf I P hu, zb_s]
  exact ⟨_, rfl⟩
theorem sp_gainAny (I : zM) (o : Nat) {u v : Nat} (hu : u < 10) (hv : v < 10) : ∃ g, f_X2_gainOf I o (nI u) (nI v) = some g := by
  unfold f_X2_gainOf
  obtain ⟨a, ha⟩ := sp_riseAny I o hu hv
  obtain ⟨b, hb⟩ := sp_riseAny I o hv hu
  rw [ha, zb_s, hb, zb_s]
  by_cases c1 : a ≤ 0
  · rw [if_pos c1]
    exact ⟨_, rfl⟩
  · rw [if_neg c1]
    by_cases c2 : b ≤ 0
    · rw [if_pos c2]
      exact ⟨_, rfl⟩
    · rw [if_neg c2]
      exact ⟨_, rfl⟩
theorem rise9 : ∀ a b : Fin 10, nI a.val - nI b.val ≤ 0 ∨ ∃ k : Fin 10, 1 ≤ k.val ∧ nI a.val - nI b.val = nI k.val := by decide +kernel
theorem gain9 {a b c d : Nat} (ha : a ≤ 9) (hb : b ≤ 9) (hc : c ≤ 9) (hd : d ≤ 9) (h : gainV (nI a - nI b) (nI c - nI d) ≤ 0) : gainV (nI a - nI b) (nI c - nI d) = 0 := by
  unfold gainV at h ⊢
  have r1 := rise9 ⟨a, by omega⟩ ⟨b, by omega⟩
  have r2 := rise9 ⟨c, by omega⟩ ⟨d, by omega⟩
  rcases r1 with r1 | ⟨⟨k, hk⟩, k1, k2⟩
  · exact if_pos r1
  · rcases r2 with r2 | ⟨⟨j, hj⟩, j1, j2⟩
    · by_cases n1 : nI a - nI b ≤ 0
      · exact if_pos n1
      · rw [if_neg n1]
        exact if_pos r2
    · have k2 : nI a - nI b = nI k := k2
      have j2 : nI c - nI d = nI j := j2
      have k1 : 1 ≤ k := k1
      have j1 : 1 ≤ j := j1
      rw [k2, j2, nI_add] at h
      have n1 : ¬ nI k ≤ 0 := fun e => absurd ((nI_leI (a := k) (b := 0) (by omega) (by omega)).mp e) (by omega)
      have n2 : ¬ nI j ≤ 0 := fun e => absurd ((nI_leI (a := j) (b := 0) (by omega) (by omega)).mp e) (by omega)
      rw [if_neg n1, if_neg n2] at h
      exact absurd ((nI_leI (a := k + j) (b := 0) (by omega) (by omega)).mp h) (by omega)
theorem gain_pos {I J : zM} {np nt B u v p q : Nat} {g : Int32} (hR : RO I 1 (J 1) np nt B) (hu : u < nt) (hv : v < nt) (hp : p < np) (hq : q < np) (h1 : I (1 + 39 + 7 * u) 2 = nI p) (h3 : I (1 + 39 + 7 * v) 2 = nI q) (hg : f_X2_gainOf I 1 (nI u) (nI v) = some g) (h : g ≤ 0) : g = 0 := by
  have hnp := hR.1.1
  have hnt := hR.1.2.1
  obtain ⟨-, p2, p3, -⟩ := hR.2.1 p hp
  obtain ⟨-, q2, q3, -⟩ := hR.2.1 q hq
  obtain ⟨a, a1, -, a2⟩ := p3 v (by omega)
  obtain ⟨b, b1, -, b2⟩ := p3 u (by omega)
  obtain ⟨c, c1, -, c2⟩ := q3 u (by omega)
  obtain ⟨d, d1, -, d2⟩ := q3 v (by omega)
  have e : g = gainV (nI a - nI b) (nI c - nI d) := by
    unfold f_X2_gainOf at hg
    rw [sp_riseOf (by omega) (by omega) (by omega) h1, zb_s, sp_riseOf (by omega) (by omega) (by omega) h3, zb_s, p2 v (by omega), p2 u (by omega), q2 u (by omega), q2 v (by omega), a2, b2, c2, d2] at hg
    unfold gainV
    by_cases n1 : nI a - nI b ≤ 0
    · rw [if_pos n1] at hg
      rw [if_pos n1]
      exact (Option.some.inj hg).symm
    · rw [if_neg n1] at hg
      rw [if_neg n1]
      by_cases n2 : nI c - nI d ≤ 0
      · rw [if_pos n2] at hg
        rw [if_pos n2]
        exact (Option.some.inj hg).symm
      · rw [if_neg n2] at hg
        rw [if_neg n2]
        exact (Option.some.inj hg).symm
  rw [e] at h ⊢
  exact gain9 a1 b1 c1 d1 h
theorem pr_pair {I J : zM} {np nt B u v : Nat} (hB : B + 1 ≤ 2 ^ 20) (hM : MT I 1) (hR : RO I 1 (J 1) np nt B) (hu : u < nt) (hv : v < nt) : ∃ g c, f_X2_gainOf I 1 (nI u) (nI v) = some g ∧ f_X6_canBeSwapped I (nI u) (nI v) = some c ∧ ((c = 0 ∧ f_X9_mayBeSwapped J (nI u) (nI v) = some 0) ∨ (f_X9_mayBeSwapped J (nI u) (nI v) = some 1 ∧ f_X9_gain J (nI u) (nI v) = some g ∧ ∃ K w N R, f_X9_take J 1 2 = some K ∧ f_X9_swapped K (nI u) (nI v) = some (w, N) ∧ f_X9_take N 2 1 = some R ∧ RO I 1 (R 1) np nt B ∧ FJ J R ∧ ((w = 0 ∧ c ≠ 0) ∨ (w ≠ 0 ∧ c = 0)))) := by
  have hnt := hR.1.2.1
  obtain ⟨g, hg⟩ := sp_gainAny I 1 (show u < 10 by omega) (show v < 10 by omega)
  rcases pr_may hR hu hv with ⟨m1, m2⟩ | ⟨p, q, hp, hq, hpq, huv, h1, h2, h3, h4, m1, m2⟩
  · refine ⟨g, 0, hg, ?_, Or.inl ⟨rfl, m2⟩⟩
    unfold f_X6_canBeSwapped
    rw [m1, zb_s, if_pos rfl]
  · have hrow : ∀ a, a ≠ 2 → cp J 2 1 0 1087 a = J a := fun a ha => cp_n ha
    have hR' : RO I 1 (cp J 2 1 0 1087 1) np nt B := by rw [hrow 1 (by decide)]; exact hR
    have hrow2 : ∀ k, k < 1087 → cp J 2 1 0 1087 2 k = J 1 k := fun k hk => by rw [cp_s, if_pos (by omega)]
    have hgJ : f_X9_gain J (nI u) (nI v) = some g := by
      obtain ⟨g', a1, a2⟩ := pr_gain hR hu hv hp hq h1 h2 h3 h4
      rw [a2, ← a1, hg]
    have htk : f_X9_take J 1 2 = some (cp J 2 1 0 1087) := sp_take (by decide)
    generalize cp J 2 1 0 1087 = K at *
    have hK1 : K 1 = J 1 := hrow 1 (by decide)
    obtain ⟨g', z, g1, g2, z1, s1, s2, s3⟩ := pr_swapped hB hM hR' hu hv hp hq hpq huv h1 (by rw [hK1]; exact h2) h3 (by rw [hK1]; exact h4)
    have e : g' = g := Option.some.inj (g1.symm.trans hg)
    subst e
    have hback : ∀ N : zM, (∀ a, a ≠ 1 → N a = K a) → ∃ R, f_X9_take N 2 1 = some R ∧ RO I 1 (R 1) np nt B ∧ FJ J R := by
      intro N hN
      refine ⟨_, sp_take (by decide), ?_, ?_, fun s hs => ?_⟩
      · refine RO_c hR (fun k a b => rfl) (fun k a b => ?_)
        rw [cp_s, if_pos (by omega), hN 2 (by decide), hrow2 k b]
      · intro a d1 d2 d3 d4
        rw [cp_n d2, hN a d2, hrow a d3]
      · rw [cp_n (by decide), hN 0 (by decide), hrow 0 (by decide)]
    have hcan : f_X6_canBeSwapped I (nI u) (nI v) = if g' ≤ 0 then some 0 else if z = 0 then some 1 else some 0 := by
      unfold f_X6_canBeSwapped
      rw [m1, zb_s, if_neg one0, g1, zb_s]
      by_cases cg : g' ≤ 0
      · rw [if_pos cg, if_pos cg]
      · rw [if_neg cg, if_neg cg, z1, zb_s]
    by_cases cg : g' = 0
    · obtain ⟨R, t1, t2, t3⟩ := hback K (fun a _ => rfl)
      rw [if_pos (by rw [cg]; decide)] at hcan
      exact ⟨g', 0, g1, hcan, Or.inr ⟨m2, hgJ, K, 40, K, R, htk, s1 cg, t1, t2, t3, Or.inr ⟨by decide, rfl⟩⟩⟩
    · have cg2 : ¬ g' ≤ 0 := fun h => cg (gain_pos hR hu hv hp hq h1 h3 g1 h)
      rw [if_neg cg2] at hcan
      by_cases cz : z = 0
      · obtain ⟨M1, M, N, r1, r2, r3, r4, r5, r6⟩ := s3 cg cz
        obtain ⟨R, t1, t2, t3⟩ := hback N r6
        rw [if_pos cz] at hcan
        exact ⟨g', 1, g1, hcan, Or.inr ⟨m2, hgJ, K, 0, N, R, htk, r3, t1, t2, t3, Or.inl ⟨rfl, one0⟩⟩⟩
      · obtain ⟨zc, N, r1, r2⟩ := s2 cg cz
        obtain ⟨R, t1, t2, t3⟩ := hback N r2
        rw [if_neg cz] at hcan
        refine ⟨g', 0, g1, hcan, Or.inr ⟨m2, hgJ, K, 50 + z, N, R, htk, r1, t1, t2, t3, Or.inr ⟨?_, rfl⟩⟩⟩
        rcases zc with rfl | rfl <;> decide
theorem l_sw30 {I J : zM} {np nt B u : Nat} {x1 : Int32} (hB : B + 1 ≤ 2 ^ 20) (hM : MT I 1) (hu : u < nt) (K1 : Int32 → Option Int32) (K2 : Int32 → Int32 → Option Int32) (K : zM → Int32 → Int32 → Int32 → Option (Int32 × zM)) : ∀ (d y fS fB fJ : Nat) (M : zM) (a b g : Int32), nt = y + d → d < fS → d < fB → d < fJ → RO I 1 (M 1) np nt B → FJ J M → ∃ a' b' g' M', f_X6_swapsNow_l19 I (nI u) K1 fS a (nI y) = K1 a' ∧ f_X6_bestSwap_l23 I (nI u) K2 fB b g (nI y) = K2 b' g' ∧ f_X9_swapsNow_l30 x1 (nI u) K fJ M a b g (nI y) = K M' a' b' g' ∧ RO I 1 (M' 1) np nt B ∧ FJ J M' := by
  intro d
  induction d with
  | zero =>
    intro y fS fB fJ M a b g hd h1 h2 h3 hR hF
    obtain ⟨m1, rfl⟩ : ∃ m, fS = m + 1 := ⟨fS - 1, by omega⟩
    obtain ⟨m2, rfl⟩ : ∃ m, fB = m + 1 := ⟨fB - 1, by omega⟩
    obtain ⟨m3, rfl⟩ : ∃ m, fJ = m + 1 := ⟨fJ - 1, by omega⟩
    obtain ⟨hnp, hnt, h5, hA5, h6, hA6, -⟩ := hR.1
    rw [f_X6_swapsNow_l19, f_X6_bestSwap_l23, f_X9_swapsNow_l30, h6, hA6, if_pos (nI_le (by omega) (by omega)), if_pos (nI_le (by omega) (by omega)), if_pos (nI_le (by omega) (by omega))]
    exact ⟨a, b, g, M, rfl, rfl, rfl, hR, hF⟩
  | succ d ih =>
    intro y fS fB fJ M a b g hd h1 h2 h3 hR hF
    obtain ⟨m1, rfl⟩ : ∃ m, fS = m + 1 := ⟨fS - 1, by omega⟩
    obtain ⟨m2, rfl⟩ : ∃ m, fB = m + 1 := ⟨fB - 1, by omega⟩
    obtain ⟨m3, rfl⟩ : ∃ m, fJ = m + 1 := ⟨fJ - 1, by omega⟩
    obtain ⟨hnp, hnt, h5, hA5, h6, hA6, -⟩ := hR.1
    obtain ⟨gn, c, p1, p2, p3⟩ := pr_pair hB hM hR hu (show y < nt by omega)
    rw [f_X6_swapsNow_l19, f_X6_bestSwap_l23, f_X9_swapsNow_l30, h6, hA6, if_neg (nI_ge (by omega) (by omega)), if_neg (nI_ge (by omega) (by omega)), if_neg (nI_ge (by omega) (by omega)), p1, p2, zb_s, zb_s, nI_1]
    rcases p3 with ⟨rfl, e1⟩ | ⟨e1, e2, N1, w, N2, R, e3, e4, e5, e6, e7, e8⟩
    · simp only [e1, zb_s, zlet_s, eq_self, if_true]
      by_cases cb : gn ≤ g
      · rw [if_pos cb]
        exact ih (y + 1) m1 m2 m3 M a b g (by omega) (by omega) (by omega) (by omega) hR hF
      · rw [if_neg cb]
        exact ih (y + 1) m1 m2 m3 M a b g (by omega) (by omega) (by omega) (by omega) hR hF
    · simp only [e1, e2, e3, e4, e5, zb_s, zlet_s, if_neg one0, a0]
      rcases e8 with ⟨rfl, hc⟩ | ⟨hw, rfl⟩
      · rw [if_neg hc, if_neg hc, if_pos rfl]
        by_cases cb : gn ≤ g
        · rw [if_pos cb, if_pos cb]
          exact ih (y + 1) m1 m2 m3 R _ b g (by omega) (by omega) (by omega) (by omega) e6 (FJ_t hF e7)
        · rw [if_neg cb, if_neg cb]
          exact ih (y + 1) m1 m2 m3 R _ _ gn (by omega) (by omega) (by omega) (by omega) e6 (FJ_t hF e7)
      · rw [if_pos rfl, if_pos rfl, if_neg hw]
        by_cases cb : gn ≤ g
        · rw [if_pos cb]
          exact ih (y + 1) m1 m2 m3 R a b g (by omega) (by omega) (by omega) (by omega) e6 (FJ_t hF e7)
        · rw [if_neg cb]
          exact ih (y + 1) m1 m2 m3 R a b g (by omega) (by omega) (by omega) (by omega) e6 (FJ_t hF e7)
theorem l_sw11 {I J : zM} {np nt B : Nat} {x1 : Int32} (hB : B + 1 ≤ 2 ^ 20) (hM : MT I 1) (K : zM → Int32 → Int32 → Option (Int32 × zM)) : ∀ (d y fS fB fJ : Nat) (M : zM) (a b g : Int32), nt = y + d → d < fS → d < fB → d < fJ → RO I 1 (M 1) np nt B → FJ J M → ∃ a' b' M', f_X6_swapsNow_l4 I fS a (nI y) = some a' ∧ f_X6_bestSwap_l7 I fB b g (nI y) = some b' ∧ f_X9_swapsNow_l11 x1 K fJ M a b g (nI y) = K M' a' b' ∧ RO I 1 (M' 1) np nt B ∧ FJ J M' := by
  have hz := zFu_big
  intro d
  induction d with
  | zero =>
    intro y fS fB fJ M a b g hd h1 h2 h3 hR hF
    obtain ⟨m1, rfl⟩ : ∃ m, fS = m + 1 := ⟨fS - 1, by omega⟩
    obtain ⟨m2, rfl⟩ : ∃ m, fB = m + 1 := ⟨fB - 1, by omega⟩
    obtain ⟨m3, rfl⟩ : ∃ m, fJ = m + 1 := ⟨fJ - 1, by omega⟩
    obtain ⟨hnp, hnt, h5, hA5, h6, hA6, -⟩ := hR.1
    rw [f_X6_swapsNow_l4, f_X6_bestSwap_l7, f_X9_swapsNow_l11, h6, hA6, if_pos (nI_le (by omega) (by omega)), if_pos (nI_le (by omega) (by omega)), if_pos (nI_le (by omega) (by omega))]
    exact ⟨a, b, M, rfl, rfl, rfl, hR, hF⟩
  | succ d ih =>
    intro y fS fB fJ M a b g hd h1 h2 h3 hR hF
    obtain ⟨m1, rfl⟩ : ∃ m, fS = m + 1 := ⟨fS - 1, by omega⟩
    obtain ⟨m2, rfl⟩ : ∃ m, fB = m + 1 := ⟨fB - 1, by omega⟩
    obtain ⟨m3, rfl⟩ : ∃ m, fJ = m + 1 := ⟨fJ - 1, by omega⟩
    obtain ⟨hnp, hnt, h5, hA5, h6, hA6, -⟩ := hR.1
    rw [f_X6_swapsNow_l4, f_X6_bestSwap_l7, f_X9_swapsNow_l11, h6, hA6, if_neg (nI_ge (by omega) (by omega)), if_neg (nI_ge (by omega) (by omega)), if_neg (nI_ge (by omega) (by omega))]
    simp only [zlet_s, nI_1]
    obtain ⟨a', b', g', M', r1, r2, r3, r4, r5⟩ := l_sw30 (J := J) (x1 := x1) hB hM (show y < nt by omega) (fun z6 => f_X6_swapsNow_l4 I m1 z6 (nI (y + 1))) (fun z10 z11 => f_X6_bestSwap_l7 I m2 z10 z11 (nI (y + 1))) (fun M20 z21 z22 z23 => f_X9_swapsNow_l11 x1 K m3 M20 z21 z22 z23 (nI (y + 1))) (nt - (y + 1)) (y + 1) zFu zFu zFu M a b g (by omega) (by omega) (by omega) (by omega) hR hF
    rw [r1, r2, r3]
    exact ih (y + 1) m1 m2 m3 M' a' b' g' (by omega) (by omega) (by omega) (by omega) r4 r5
