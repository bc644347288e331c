/-! PURE 43: a text: a line -/
def FR (J J2 : zM) : Prop := (∀ a, a ≠ 0 → a ≠ 17 → J2 a = J a) ∧ ∀ i, i ≠ 13 → i ≠ 14 → J2 0 i = J 0 i
theorem FR_r {J : zM} : FR J J := ⟨fun _ _ _ => rfl, fun _ _ _ => rfl⟩
theorem FR_t {J J2 J3 : zM} (h : FR J J2) (h2 : FR J2 J3) : FR J J3 := ⟨fun a c1 c2 => (h2.1 a c1 c2).trans (h.1 a c1 c2), fun i c1 c2 => (h2.2 i c1 c2).trans (h.2 i c1 c2)⟩
theorem FR_0 {J J2 : zM} {k : Nat} {v : Int32} (h : FR J J2) (hk : k = 13 ∨ k = 14) : FR J (ms J2 0 k v) := FR_t h ⟨fun a c1 c2 => ms_n c1, fun i c1 c2 => ms_sn (by omega)⟩
theorem FR_17 {J J2 : zM} {k : Nat} {v : Int32} (h : FR J J2) : FR J (ms J2 17 k v) := FR_t h ⟨fun a c1 c2 => ms_n c2, fun i c1 c2 => by rw [ms_n (by decide)]⟩
def FC (I I2 : zM) : Prop := ∀ k, k ≠ 334 → k ≠ 335 → k ≠ 336 → I2 k = I k
theorem FC_r {I : zM} : FC I I := fun _ _ _ _ => rfl
theorem FC_t {I I2 I3 : zM} (h : FC I I2) (h2 : FC I2 I3) : FC I I3 := fun k a b c => (h2 k a b c).trans (h k a b c)
theorem FC_m {I I2 : zM} {k j : Nat} {v : Int32} (h : FC I I2) (hk : k = 334 ∨ k = 335 ∨ k = 336) : FC I (ms I2 k j v) := FC_t h (fun a c1 c2 c3 => ms_n (by omega))
def pkL : List (Nat × Nat) := [(99, 4), (100, 1), (103, 2), (107, 1), (108, 3), (112, 2), (114, 1), (115, 2), (116, 1), (117, 2), (119, 3)]
theorem pk_ok : ∀ q ∈ pkL, 1 ≤ q.2 ∧ q.2 ≤ 4 ∧ q.1 ≤ 119 := by decide
theorem pr_parts (I J : zM) (x : Int32) : (f_X5_partsOf I x = some 0 ∧ f_X9_partsOf J x = some (-2)) ∨ ∃ q, q ∈ pkL ∧ x = nI q.1 ∧ f_X5_partsOf I x = some (nI q.2) ∧ f_X9_partsOf J x = some (nI q.2) := by
  unfold f_X5_partsOf f_X9_partsOf
  by_cases c1 : x = 99
  · rw [if_pos c1, if_pos c1]
    exact Or.inr ⟨(99, 4), by decide, c1, rfl, rfl⟩
  rw [if_neg c1, if_neg c1]
  by_cases c2 : x = 100
  · rw [if_pos c2, if_pos c2]
    exact Or.inr ⟨(100, 1), by decide, c2, rfl, rfl⟩
  rw [if_neg c2, if_neg c2]
  by_cases c3 : x = 103
  · rw [if_pos c3, if_pos c3]
    exact Or.inr ⟨(103, 2), by decide, c3, rfl, rfl⟩
  rw [if_neg c3, if_neg c3]
  by_cases c4 : x = 107
  · rw [if_pos c4, if_pos c4]
    exact Or.inr ⟨(107, 1), by decide, c4, rfl, rfl⟩
  rw [if_neg c4, if_neg c4]
  by_cases c5 : x = 108
  · rw [if_pos c5, if_pos c5]
    exact Or.inr ⟨(108, 3), by decide, c5, rfl, rfl⟩
  rw [if_neg c5, if_neg c5]
  by_cases c6 : x = 112
  · rw [if_pos c6, if_pos c6]
    exact Or.inr ⟨(112, 2), by decide, c6, rfl, rfl⟩
  rw [if_neg c6, if_neg c6]
  by_cases c7 : x = 114
  · rw [if_pos c7, if_pos c7]
    exact Or.inr ⟨(114, 1), by decide, c7, rfl, rfl⟩
  rw [if_neg c7, if_neg c7]
  by_cases c8 : x = 115
  · rw [if_pos c8, if_pos c8]
    exact Or.inr ⟨(115, 2), by decide, c8, rfl, rfl⟩
  rw [if_neg c8, if_neg c8]
  by_cases c9 : x = 116
  · rw [if_pos c9, if_pos c9]
    exact Or.inr ⟨(116, 1), by decide, c9, rfl, rfl⟩
  rw [if_neg c9, if_neg c9]
  by_cases d1 : x = 117
  · rw [if_pos d1, if_pos d1]
    exact Or.inr ⟨(117, 2), by decide, d1, rfl, rfl⟩
  rw [if_neg d1, if_neg d1]
  by_cases d2 : x = 119
  · rw [if_pos d2, if_pos d2]
    exact Or.inr ⟨(119, 3), by decide, d2, rfl, rfl⟩
  rw [if_neg d2, if_neg d2]
  exact Or.inl ⟨rfl, rfl⟩
def ePart (b : Bool) (r j : Nat) (F : zM → Option (Int32 × zM)) (M : zM) : Option (Int32 × zM) := zb (f_X5_readByte M 32) (fun q9 => if q9.1 = 0 then some (0, q9.2) else zb (f_X5_readPart q9.2 (nI r) (1 + nI j) (iB b)) (fun q11 => if q11.1 = 0 then some (0, q11.2) else F q11.2))
theorem pr_part {b : Bool} {I : zM} {T : Nat → Nat} {n s r j m : Nat} (F : zM → Option (Int32 × zM)) (hT : TI I T n) (hs : I 334 2 = nI s) (hle : s ≤ n) (hL : TB I 335 31 5 m) (hr : r < m) (hj : j < 4) : (∃ f M2, ePart b r j F I = some (0, M2) ∧ M2 334 2 = nI f ∧ f ≤ n ∧ TB M2 335 31 5 m ∧ FC I M2 ∧ ∀ J, TJ J T n → J 0 13 = nI s → J 0 14 = -1 → ∃ v J2, fPart b J = some (v, J2) ∧ J2 0 14 = nI f ∧ FR J J2) ∨ (∃ e v, ePart b r j F I = F (ms (ms I 334 2 (nI e)) 336 (r * 5 + (1 + j)) (nI v)) ∧ s + 2 ≤ e ∧ e ≤ n ∧ ∀ J, TJ J T n → J 0 13 = nI s → J 0 14 = -1 → fPart b J = some (nI v, ms J 0 13 (nI e))) := by
  have hn := hT.1.2.2.2.1
  have e0 : f_X5_readByte I 32 = _ := sp_readByte (c := 32) hT hs hle (by decide)
  have e1 : (1 : Int32) + nI j = nI (1 + j) := nI_add 1 j
  unfold ePart
  rw [e0, e1]
  by_cases c : see T n s 32 32
  · have c0 : s < n := c.1
    have hT1 : TI (ms I 334 2 (nI (s + 1))) T n := TI_c hT (ms_n (by decide)) (ms_n (by decide))
    have hL1 : TB (ms I 334 2 (nI (s + 1))) 335 31 5 m := TB_c hL (ms_n (by decide))
    have e2 := sp_part (b := b) (c := 1 + j) hT1 (ms_ss _ _ _ _) c0 hL1 hr (by omega)
    rw [if_pos c, zb_s]
    dsimp only
    rw [if_neg one0, e2, zb_s]
    dsimp only
    obtain ⟨q1, q2, q3, q4⟩ := digB_3 (b := b) (T := T) (n := n) (s := s + 1)
    have q3 := q3 c0
    by_cases d : see T n (s + 1) (loB b) (hiB b)
    · have q2 := q2 d
      right
      refine ⟨(digB b T n 3 (s + 1) 0).2, (digB b T n 3 (s + 1) 0).1, ?_, by omega, q3, fun J g1 g2 g3 => (sp_num g1 g2 g3 hle).1 c d⟩
      rw [if_neg (show ¬ (digB b T n 3 (s + 1) 0).2 = s + 1 by omega), if_neg one0, ms_ms]
    · have q1 := q1 d
      left
      rw [q1]
      dsimp only
      rw [if_pos rfl, if_pos rfl]
      refine ⟨s + 1, _, rfl, ?_, c0, ?_, FC_m (FC_m (FC_m FC_r (Or.inl rfl)) (Or.inl rfl)) (Or.inr (Or.inr rfl)), fun J g1 g2 g3 => ?_⟩
      · rw [ms_n (by decide), ms_ss]
      · exact TB_c hL1 (by rw [ms_n (by decide), ms_n (by decide)])
      · obtain ⟨v, hv⟩ := (sp_num (b := b) g1 g2 g3 hle).2.1 c d
        exact ⟨v, _, hv, ms_ss _ _ _ _, FR_0 (FR_0 FR_r (Or.inl rfl)) (Or.inr rfl)⟩
  · rw [if_neg c, zb_s]
    dsimp only
    rw [if_pos rfl]
    left
    refine ⟨s, I, rfl, hs, hle, hL, FC_r, fun J g1 g2 g3 => ?_⟩
    obtain ⟨v, hv⟩ := (sp_num (b := b) g1 g2 g3 hle).2.2 c
    exact ⟨v, _, hv, ms_ss _ _ _ _, FR_0 FR_r (Or.inr rfl)⟩
theorem s_line77 {ty k j m : Nat} (hk : k ≤ 4) (hj : j < k) (hty : ty ≤ 255) (J : zM) : f_X9_line_l77 (nI ty) (nI k) (m + 1) J (nI j) = zb (fPart (decide (ty = 112 ∧ j = 0)) J) (fun q => f_X9_line_l77 (nI ty) (nI k) m (ms q.2 17 j q.1) (nI (j + 1))) := by
  rw [f_X9_line_l77, if_neg (nI_ge hj (by omega))]
  simp only [zin_t (show j < 4 by omega) (show (4 : Nat) < 2 ^ 31 by decide), zck_1, zlet_s, nI_clamp (show j < 2 ^ 31 by omega), nI_1]
  by_cases c1 : ty = 112
  · have c1' : nI ty = 112 := by rw [c1]; rfl
    rw [if_pos c1']
    by_cases c2 : j = 0
    · have c2' : nI j = 0 := by rw [c2]; rfl
      rw [if_pos c2', decide_eq_true ⟨c1, c2⟩]
      rfl
    · rw [if_neg (show ¬ nI j = 0 from fun e => c2 ((nI_eq (b := 0) (by omega) (by omega)).mp e)), decide_eq_false (fun e => c2 e.2)]
      rfl
  · rw [if_neg (show ¬ nI ty = 112 from fun e => c1 ((nI_eq (b := 112) (by omega) (by omega)).mp e)), decide_eq_false (fun e => c1 e.1)]
    rfl
theorem s_line47 {ty k j m r : Nat} (hk : k ≤ 4) (hj : j < k) (hty : ty ≤ 255) (M : zM) : f_X5_readLine_l47 (nI ty) (nI k) (nI r) (m + 1) M (nI j) = ePart (decide (ty = 112 ∧ j = 0)) r j (fun N => f_X5_readLine_l47 (nI ty) (nI k) (nI r) m N (nI (j + 1))) M := by
  rw [f_X5_readLine_l47, if_neg (nI_ge hj (by omega))]
  simp only [nI_1]
  by_cases c1 : ty = 112
  · have c1' : nI ty = 112 := by rw [c1]; rfl
    rw [if_pos c1']
    by_cases c2 : j = 0
    · have c2' : nI j = 0 := by rw [c2]; rfl
      rw [if_pos c2', decide_eq_true ⟨c1, c2⟩]
      rfl
    · rw [if_neg (show ¬ nI j = 0 from fun e => c2 ((nI_eq (b := 0) (by omega) (by omega)).mp e)), decide_eq_false (fun e => c2 e.2)]
      rfl
  · rw [if_neg (show ¬ nI ty = 112 from fun e => c1 ((nI_eq (b := 112) (by omega) (by omega)).mp e)), decide_eq_false (fun e => c1 e.1)]
    rfl
theorem l_lineF {ty k f : Nat} (hk : k ≤ 4) (hty : ty ≤ 255) (hf : f < 2 ^ 31) : ∀ (d j fuel : Nat) (J : zM), k = j + d → d < fuel → J 0 14 = nI f → ∃ J2, f_X9_line_l77 (nI ty) (nI k) fuel J (nI j) = some (nI ty, J2) ∧ J2 0 14 = nI f ∧ FR J J2 := by
  intro d
  induction d with
  | zero =>
    intro j fuel J hd hfu h14
    obtain ⟨m, rfl⟩ : ∃ m, fuel = m + 1 := ⟨fuel - 1, by omega⟩
    rw [f_X9_line_l77, if_pos (nI_le (by omega) (by omega))]
    exact ⟨J, rfl, h14, FR_r⟩
  | succ d ih =>
    intro j fuel J hd hfu h14
    obtain ⟨m, rfl⟩ : ∃ m, fuel = m + 1 := ⟨fuel - 1, by omega⟩
    obtain ⟨v, hv⟩ := sp_numF h14 hf (decide (ty = 112 ∧ j = 0))
    rw [s_line77 hk (by omega) hty, hv, zb_s]
    obtain ⟨J2, r1, r2, r3⟩ := ih (j + 1) m (ms J 17 j v) (by omega) (by omega) (by rw [ms_n (by decide)]; exact h14)
    exact ⟨J2, r1, r2, FR_t (FR_17 FR_r) r3⟩
theorem l_line {T : Nat → Nat} {n m r ty k : Nat} (hk : k ≤ 4) (hty : ty ≤ 255) (hr : r < m) : ∀ (d j s fuel : Nat) (M : zM), k = j + d → d < fuel → TI M T n → M 334 2 = nI s → s ≤ n → TB M 335 31 5 m → (∃ f M2, f_X5_readLine_l47 (nI ty) (nI k) (nI r) fuel M (nI j) = some (0, M2) ∧ M2 334 2 = nI f ∧ f ≤ n ∧ TB M2 335 31 5 m ∧ FC M M2 ∧ ∀ J fJ, d < fJ → TJ J T n → J 0 13 = nI s → J 0 14 = -1 → ∃ J2, f_X9_line_l77 (nI ty) (nI k) fJ J (nI j) = some (nI ty, J2) ∧ J2 0 14 = nI f ∧ FR J J2) ∨ (∃ (e : Nat) (M2 : zM) (vs : List Nat), f_X5_readLine_l47 (nI ty) (nI k) (nI r) fuel M (nI j) = some (1, M2) ∧ M2 334 2 = nI e ∧ s + 2 * d ≤ e ∧ e ≤ n ∧ TB M2 335 31 5 m ∧ vs.length = d ∧ (∀ i v, vs[i]? = some v → M2 336 (r * 5 + 1 + (j + i)) = nI v) ∧ (∀ i, i < r * 5 + 1 + j → M2 336 i = M 336 i) ∧ FC M M2 ∧ ∀ J fJ, d < fJ → TJ J T n → J 0 13 = nI s → J 0 14 = -1 → ∃ J2, f_X9_line_l77 (nI ty) (nI k) fJ J (nI j) = some (nI ty, J2) ∧ J2 0 13 = nI e ∧ J2 0 14 = -1 ∧ (∀ i v, vs[i]? = some v → J2 17 (j + i) = nI v) ∧ (∀ i, i < j → J2 17 i = J 17 i) ∧ FR J J2) := by
  intro d
  induction d with
  | zero =>
    intro j s fuel M hd hfu hT hs hle hL
    obtain ⟨m', rfl⟩ : ∃ m, fuel = m + 1 := ⟨fuel - 1, by omega⟩
    right
    rw [f_X5_readLine_l47, if_pos (nI_le (by omega) (by omega))]
    refine ⟨s, M, [], rfl, hs, by omega, hle, hL, rfl, fun i v h => by simp at h, fun i _ => rfl, FC_r, fun J fJ hfJ hTJ h13 h14 => ?_⟩
    obtain ⟨m2, rfl⟩ : ∃ m, fJ = m + 1 := ⟨fJ - 1, by omega⟩
    rw [f_X9_line_l77, if_pos (nI_le (by omega) (by omega))]
    exact ⟨J, rfl, h13, h14, fun i v h => by simp at h, fun _ _ => rfl, FR_r⟩
  | succ d ih =>
    intro j s fuel M hd hfu hT hs hle hL
    obtain ⟨m', rfl⟩ : ∃ m, fuel = m + 1 := ⟨fuel - 1, by omega⟩
    have hn := hT.1.2.2.2.1
    rw [s_line47 hk (by omega) hty]
    rcases pr_part (b := decide (ty = 112 ∧ j = 0)) (r := r) (j := j) (fun N => f_X5_readLine_l47 (nI ty) (nI k) (nI r) m' N (nI (j + 1))) hT hs hle hL hr (by omega) with ⟨f, M2, a1, a2, a3, a4, a5, a6⟩ | ⟨e, v, a1, a2, a3, a4⟩
    · left
      refine ⟨f, M2, a1, a2, a3, a4, a5, fun J fJ hfJ hTJ h13 h14 => ?_⟩
      obtain ⟨m2, rfl⟩ : ∃ m, fJ = m + 1 := ⟨fJ - 1, by omega⟩
      obtain ⟨v, J2, g1, g2, g3⟩ := a6 J hTJ h13 h14
      rw [s_line77 hk (by omega) hty, g1, zb_s]
      obtain ⟨J3, r1, r2, r3⟩ := l_lineF hk hty (f := f) (by omega) d (j + 1) m2 (ms J2 17 j v) (by omega) (by omega) (by rw [ms_n (by decide)]; exact g2)
      exact ⟨J3, r1, r2, FR_t (FR_17 g3) r3⟩
    · rw [a1]
      have hT' : TI (ms (ms M 334 2 (nI e)) 336 (r * 5 + (1 + j)) (nI v)) T n := TI_c hT (by rw [ms_n (by decide), ms_n (by decide)]) (by rw [ms_n (by decide), ms_n (by decide)])
      have hL' : TB (ms (ms M 334 2 (nI e)) 336 (r * 5 + (1 + j)) (nI v)) 335 31 5 m := TB_c hL (by rw [ms_n (by decide), ms_n (by decide)])
      have hs' : ms (ms M 334 2 (nI e)) 336 (r * 5 + (1 + j)) (nI v) 334 2 = nI e := by rw [ms_n (by decide), ms_ss]
      have hF' : FC M (ms (ms M 334 2 (nI e)) 336 (r * 5 + (1 + j)) (nI v)) := FC_m (FC_m FC_r (Or.inl rfl)) (Or.inr (Or.inr rfl))
      have hJ' : ∀ J, TJ J T n → J 0 14 = -1 → TJ (ms (ms J 0 13 (nI e)) 17 j (nI v)) T n ∧ ms (ms J 0 13 (nI e)) 17 j (nI v) 0 13 = nI e ∧ ms (ms J 0 13 (nI e)) 17 j (nI v) 0 14 = -1 ∧ FR J (ms (ms J 0 13 (nI e)) 17 j (nI v)) := fun J h h14 => ⟨TJ_c h (by rw [ms_n (by decide), ms_sn (by decide)]) (by rw [ms_n (by decide), ms_n (by decide)]), by rw [ms_n (by decide), ms_ss], by rw [ms_n (by decide), ms_sn (by decide)]; exact h14, FR_17 (FR_0 FR_r (Or.inl rfl))⟩
      have h336 : ms (ms M 334 2 (nI e)) 336 (r * 5 + (1 + j)) (nI v) 336 (r * 5 + (1 + j)) = nI v := ms_ss _ _ _ _
      have h336n : ∀ i, i < r * 5 + 1 + j → ms (ms M 334 2 (nI e)) 336 (r * 5 + (1 + j)) (nI v) 336 i = M 336 i := fun i hi => by rw [ms_sn (by omega), ms_n (by decide)]
      generalize ms (ms M 334 2 (nI e)) 336 (r * 5 + (1 + j)) (nI v) = M' at *
      rcases ih (j + 1) e m' M' (by omega) (by omega) hT' hs' a3 hL' with ⟨f, M2, b1, b2, b3, b4, b5, b6⟩ | ⟨e2, M2, vs, b1, b2, b3, b4, b5, b6, b7, b8, b9, b10⟩
      · left
        refine ⟨f, M2, b1, b2, b3, b4, FC_t hF' b5, fun J fJ hfJ hTJ h13 h14 => ?_⟩
        obtain ⟨m2, rfl⟩ : ∃ m, fJ = m + 1 := ⟨fJ - 1, by omega⟩
        obtain ⟨k1, k2, k3, k4⟩ := hJ' J hTJ h14
        rw [s_line77 hk (by omega) hty, a4 J hTJ h13 h14, zb_s]
        obtain ⟨J3, r1, r2, r3⟩ := b6 _ m2 (by omega) k1 k2 k3
        exact ⟨J3, r1, r2, FR_t k4 r3⟩
      · right
        refine ⟨e2, M2, v :: vs, b1, b2, by omega, b4, b5, by rw [List.length_cons, b6], fun i w h => ?_, fun i hi => ?_, FC_t hF' b9, fun J fJ hfJ hTJ h13 h14 => ?_⟩
        · cases i with
          | zero =>
            have hw : v = w := by
              rw [List.getElem?_cons_zero] at h
              exact Option.some.inj h
            rw [b8 _ (by omega), ← hw, ← h336, show r * 5 + 1 + (j + 0) = r * 5 + (1 + j) by omega]
          | succ i =>
            rw [List.getElem?_cons_succ] at h
            rw [← b7 i w h, show r * 5 + 1 + (j + (i + 1)) = r * 5 + 1 + (j + 1 + i) by omega]
        · rw [b8 i (by omega), h336n i hi]
        · obtain ⟨m2, rfl⟩ : ∃ m, fJ = m + 1 := ⟨fJ - 1, by omega⟩
          obtain ⟨k1, k2, k3, k4⟩ := hJ' J hTJ h14
          rw [s_line77 hk (by omega) hty, a4 J hTJ h13 h14, zb_s]
          obtain ⟨J3, r1, r2, r3, r4, r5, r6⟩ := b10 _ m2 (by omega) k1 k2 k3
          refine ⟨J3, r1, r2, r3, fun i w h => ?_, fun i hi => ?_, FR_t k4 r6⟩
          · cases i with
            | zero =>
              have hw : v = w := by
                rw [List.getElem?_cons_zero] at h
                exact Option.some.inj h
              rw [Nat.add_zero, r5 j (by omega), ms_ss, hw]
            | succ i =>
              rw [List.getElem?_cons_succ] at h
              rw [← r4 i w h, show j + (i + 1) = j + 1 + i by omega]
          · rw [r5 i (by omega), ms_sn (by omega), ms_n (by decide)]
