/-! PURE 44: a text: its lines, one after the other -/
def LnOK (T : Nat → Nat) (n s e ty : Nat) (vs : List Nat) : Prop := ∀ J, TJ J T n → J 0 13 = nI s → J 0 14 = -1 → ∃ J2, f_X9_line J = some (nI ty, J2) ∧ J2 0 13 = nI e ∧ J2 0 14 = -1 ∧ (∀ i v, vs[i]? = some v → J2 17 i = nI v) ∧ FR J J2
theorem sp_line {J : zM} {T : Nat → Nat} {n s : Nat} (h : TJ J T n) (h13 : J 0 13 = nI s) (h14 : J 0 14 = -1) (hle : s ≤ n) : f_X9_line J = f_X9_line_j31 J (if s < n then nI (T s) else 0) := by
  have hn := h.1
  unfold f_X9_line f_X9_line_j30
  rw [h14, if_neg (by decide), h.2.1, h13]
  by_cases c : s < n
  · rw [if_neg (nI_ge c (by omega)), zin_t (show s < 120 by omega) (by decide), zck_1, nI_clamp (by omega), h.2.2.1 s c, if_pos c]
  · rw [if_pos (nI_le (by omega) (by omega)), if_neg c]
theorem sp_lineF {J : zM} {f : Nat} (h14 : J 0 14 = nI f) (hf : f < 2 ^ 31) : f_X9_line J = some (0, J) := by
  have e : f_X9_partsOf J 0 = some (-2) := by
    unfold f_X9_partsOf
    rw [if_neg (by decide), if_neg (by decide), if_neg (by decide), if_neg (by decide), if_neg (by decide), if_neg (by decide), if_neg (by decide), if_neg (by decide), if_neg (by decide), if_neg (by decide), if_neg (by decide)]
  unfold f_X9_line f_X9_line_j30 f_X9_line_j31
  rw [h14, if_pos (nI_pos' hf), e, zb_s, if_neg (by decide), if_pos (nI_pos' hf), zlet_s, ms_is h14]
theorem pr_line {I : zM} {T : Nat → Nat} {n s m : Nat} (hT : TI I T n) (hs : I 334 2 = nI s) (hle : s ≤ n) (hL : TB I 335 31 5 m) (hm : m < 31) : (∃ f M2, f_X5_readLine I = some (0, M2) ∧ M2 334 2 = nI f ∧ f ≤ n ∧ TM M2 335 31 5 ∧ FC I M2 ∧ ∀ J, TJ J T n → J 0 13 = nI s → J 0 14 = -1 → ∃ t J2, f_X9_line J = some (t, J2) ∧ J2 0 14 = nI f ∧ FR J J2) ∨ (∃ (e : Nat) (M2 : zM) (ty k : Nat) (vs : List Nat), (ty, k) ∈ pkL ∧ f_X5_readLine I = some (1, M2) ∧ M2 334 2 = nI e ∧ s + 3 ≤ e ∧ e ≤ n ∧ TB M2 335 31 5 (m + 1) ∧ M2 336 (m * 5) = nI ty ∧ vs.length = k ∧ (∀ i v, vs[i]? = some v → M2 336 (m * 5 + 1 + i) = nI v) ∧ (∀ i, i < m * 5 → M2 336 i = I 336 i) ∧ FC I M2 ∧ LnOK T n s e ty vs) := by
  have hz := zFu_big
  have hn := hT.1.2.2.2.1
  unfold f_X5_readLine
  rw [sp_next hT hs hle, zb_s]
  have hJp : ∀ J x, f_X9_partsOf J x = f_X9_partsOf I x := fun _ _ => rfl
  have e0 : f_X9_partsOf I 0 = some (-2) := by
    unfold f_X9_partsOf
    rw [if_neg (by decide), if_neg (by decide), if_neg (by decide), if_neg (by decide), if_neg (by decide), if_neg (by decide), if_neg (by decide), if_neg (by decide), if_neg (by decide), if_neg (by decide), if_neg (by decide)]
  rcases pr_parts I I (if s < n then nI (T s) else -1) with ⟨p1, p2⟩ | ⟨⟨ty, k⟩, pm, px, p1, p2⟩
  · left
    rw [p1, zb_s, if_pos rfl]
    refine ⟨s, I, rfl, hs, hle, hL.m, FC_r, fun J g1 g2 g3 => ?_⟩
    have e1 : f_X9_partsOf I (if s < n then nI (T s) else 0) = some (-2) := by
      by_cases c : s < n
      · rw [if_pos c] at p2 ⊢
        exact p2
      · rw [if_neg c]
        exact e0
    rw [sp_line g1 g2 g3 hle]
    unfold f_X9_line_j31
    rw [hJp, e1, zb_s, if_neg (by decide), g3, if_neg (by decide), zlet_s, g2]
    exact ⟨_, _, rfl, ms_ss _ _ _ _, FR_0 FR_r (Or.inr rfl)⟩
  · have px : (if s < n then nI (T s) else -1) = nI ty := px
    have p1 : f_X5_partsOf I (if s < n then nI (T s) else -1) = some (nI k) := p1
    have p2 : f_X9_partsOf I (if s < n then nI (T s) else -1) = some (nI k) := p2
    obtain ⟨k1, k4, t9⟩ := pk_ok _ pm
    have k1 : 1 ≤ k := k1
    have k4 : k ≤ 4 := k4
    have t9 : ty ≤ 119 := t9
    have c : s < n := by
      rcases Nat.lt_or_ge s n with q | q
      · exact q
      · rw [if_neg (by omega)] at px
        exact absurd px (ne_m1 (by omega))
    rw [p1, zb_s, if_neg (show ¬ nI k = 0 from fun e => absurd ((nI_eq (b := 0) (by omega) (by omega)).mp e) (by omega)), zlet_s, hs, nI_1]
    have hJx : (if s < n then nI (T s) else (0 : Int32)) = nI ty := by
      rw [if_pos c] at px ⊢
      exact px
    rw [px] at p2
    rw [px]
    have hL4 : TB (ms I 334 2 (nI (s + 1))) 335 31 5 m := TB_c hL (ms_n (by decide))
    rw [sp_append_lt hL4 hm, zb_s]
    dsimp only
    obtain ⟨u0, u1, u2, u3, u4⟩ := hL4
    generalize hN : zer (ms (ms I 334 2 (nI (s + 1))) 335 3 (nI (m + 1))) (335 + 1) (m * 5) ((m + 1) * 5) = N
    have nT : TB N 335 31 5 (m + 1) := by
      rw [← hN]
      refine ⟨?_, ?_, ?_, by omega, u4⟩
      · rw [zer_n (by omega), ms_sn (by decide)]
        exact u0
      · rw [zer_n (by omega), ms_sn (by decide)]
        exact u1
      · rw [zer_n (by omega), ms_ss]
    have n334 : N 334 2 = nI (s + 1) := by rw [← hN, zer_n (by decide), ms_n (by decide), ms_ss]
    have nF : ∀ k, k ≠ 334 → k ≠ 335 → k ≠ 336 → N k = I k := fun k a b d => by rw [← hN, zer_n d, ms_n b, ms_n a]
    have n336 : ∀ i, i < m * 5 → N 336 i = I 336 i := fun i hi => by rw [← hN, zer_s, if_neg (by omega), ms_n (by decide), ms_n (by decide)]
    have c2 : f_X4_setCell N 335 (nI m) 0 (nI ty) = some (ms N (335 + 1) (m * 5 + 0) (nI ty)) := sp_setCell nT (j := 0) (by omega) (by decide) _
    rw [c2, zb_s]
    have hT2 : TI (ms N (335 + 1) (m * 5 + 0) (nI ty)) T n := TI_c hT (by rw [ms_n (by decide), nF _ (by decide) (by decide) (by decide)]) (by rw [ms_n (by decide), nF _ (by decide) (by decide) (by decide)])
    have hL2 : TB (ms N (335 + 1) (m * 5 + 0) (nI ty)) 335 31 5 (m + 1) := TB_c nT (by rw [ms_n (by decide)])
    have h334 : ms N (335 + 1) (m * 5 + 0) (nI ty) 334 2 = nI (s + 1) := by rw [ms_n (by decide), n334]
    have hF2 : FC I (ms N (335 + 1) (m * 5 + 0) (nI ty)) := FC_m (show FC I N from nF) (Or.inr (Or.inr rfl))
    have h336 : ms N (335 + 1) (m * 5 + 0) (nI ty) 336 (m * 5) = nI ty := ms_ss _ _ _ _
    have h336n : ∀ i, i < m * 5 → ms N (335 + 1) (m * 5 + 0) (nI ty) 336 i = I 336 i := fun i hi => by rw [ms_sn (show i ≠ m * 5 + 0 by omega), n336 i hi]
    generalize ms N (335 + 1) (m * 5 + 0) (nI ty) = N2 at *
    have hJ : ∀ J, TJ J T n → J 0 13 = nI s → J 0 14 = -1 → f_X9_line J = f_X9_line_l77 (nI ty) (nI k) zFu (ms J 0 13 (nI (s + 1))) 0 ∧ TJ (ms J 0 13 (nI (s + 1))) T n ∧ ms J 0 13 (nI (s + 1)) 0 13 = nI (s + 1) ∧ ms J 0 13 (nI (s + 1)) 0 14 = -1 ∧ FR J (ms J 0 13 (nI (s + 1))) := fun J g1 g2 g3 => by
      refine ⟨?_, TJ_c g1 (ms_sn (by decide)) (ms_n (by decide)), ms_ss _ _ _ _, by rw [ms_sn (by decide)]; exact g3, FR_0 FR_r (Or.inl rfl)⟩
      rw [sp_line g1 g2 g3 hle, hJx]
      unfold f_X9_line_j31
      rw [hJp, p2, zb_s, if_pos (nI_pos' (by omega)), zlet_s, g2, nI_1]
    rcases l_line (ty := ty) (k := k) (r := m) k4 (by omega) (Nat.lt_succ_self m) k 0 (s + 1) zFu N2 (by omega) (by omega) hT2 h334 c hL2 with ⟨f, M2, b1, b2, b3, b4, b5, b6⟩ | ⟨e, M2, vs, b1, b2, b3, b4, b5, b6, b7, b8, b9, b10⟩
    · left
      refine ⟨f, M2, b1, b2, b3, b4.m, FC_t hF2 b5, fun J g1 g2 g3 => ?_⟩
      obtain ⟨k1, k2, k3, k4, k5⟩ := hJ J g1 g2 g3
      obtain ⟨J2, r1, r2, r3⟩ := b6 _ zFu (by omega) k2 k3 k4
      exact ⟨_, J2, k1.trans r1, r2, FR_t k5 r3⟩
    · right
      refine ⟨e, M2, ty, k, vs, pm, b1, b2, by omega, b4, b5, ?_, b6, fun i v h => ?_, fun i hi => ?_, FC_t hF2 b9, fun J g1 g2 g3 => ?_⟩
      · rw [b8 (m * 5) (by omega), h336]
      · rw [← b7 i v h, Nat.zero_add]
      · rw [b8 i (by omega), h336n i hi]
      · obtain ⟨k1, k2, k3, k4, k5⟩ := hJ J g1 g2 g3
        obtain ⟨J2, r1, r2, r3, r4, r5, r6⟩ := b10 _ zFu (by omega) k2 k3 k4
        exact ⟨J2, k1.trans r1, r2, r3, fun i v h => by rw [← r4 i v h, Nat.zero_add], FR_t k5 r6⟩
-- the lines read so far: where each begins and ends, its kind and parts
abbrev zLi := Nat × Nat × Nat × List Nat
def RowOk (I : zM) (T : Nat → Nat) (n i : Nat) (l : zLi) : Prop := LnOK T n l.1 l.2.1 l.2.2.1 l.2.2.2 ∧ (l.2.2.1, l.2.2.2.length) ∈ pkL ∧ l.1 + 3 ≤ l.2.1 ∧ l.2.1 ≤ n ∧ I 336 (i * 5) = nI l.2.2.1 ∧ ∀ j v, l.2.2.2[j]? = some v → I 336 (i * 5 + 1 + j) = nI v
def Rows (I : zM) (T : Nat → Nat) (n : Nat) (X : List zLi) : Prop := TB I 335 31 5 X.length ∧ ∀ i l, X[i]? = some l → RowOk I T n i l
def Chain (X : List zLi) (e : Nat) : Prop := (∃ l, X[0]? = some l ∧ l.1 = 0) ∧ (∀ i l l', X[i]? = some l → X[i + 1]? = some l' → l'.1 = l.2.1 + 1) ∧ ∃ l, X[X.length - 1]? = some l ∧ l.2.1 = e
theorem getX {X : List zLi} {a l : zLi} {i : Nat} (h : (X ++ [a])[i]? = some l) : (i < X.length ∧ X[i]? = some l) ∨ (i = X.length ∧ l = a) := by
  rcases Nat.lt_or_ge i X.length with c | c
  · rw [List.getElem?_append_left c] at h
    exact Or.inl ⟨c, h⟩
  · rw [List.getElem?_append_right c] at h
    have hl := (List.getElem?_eq_some_iff.mp h).1
    have hl2 : i - X.length < 1 := hl
    have e : i - X.length = 0 := by omega
    rw [e, List.getElem?_cons_zero] at h
    exact Or.inr ⟨by omega, (Option.some.inj h).symm⟩
theorem RowOk_c {I I2 : zM} {T : Nat → Nat} {n i : Nat} {l : zLi} (h : RowOk I T n i l) (hI : ∀ k, k < (i + 1) * 5 → I2 336 k = I 336 k) : RowOk I2 T n i l := by
  obtain ⟨h1, h2, h3, h4, h5, h6⟩ := h
  have hk := (pk_ok _ h2).2.1
  have hk : l.2.2.2.length ≤ 4 := hk
  refine ⟨h1, h2, h3, h4, by rw [hI _ (by omega)]; exact h5, fun j v hv => ?_⟩
  have hj := (List.getElem?_eq_some_iff.mp hv).1
  rw [hI _ (by omega)]
  exact h6 j v hv
theorem Rows_add {I I2 : zM} {T : Nat → Nat} {n : Nat} {X : List zLi} {a : zLi} (h : Rows I T n X) (hT : TB I2 335 31 5 (X.length + 1)) (hI : ∀ k, k < X.length * 5 → I2 336 k = I 336 k) (ha : RowOk I2 T n X.length a) : Rows I2 T n (X ++ [a]) := by
  refine ⟨by rw [List.length_append]; exact hT, fun i l hl => ?_⟩
  rcases getX hl with ⟨c, d⟩ | ⟨c, d⟩
  · exact RowOk_c (h.2 i l d) (fun k hk => hI k (by omega))
  · rw [c, d]
    exact ha
theorem Chain_add {X : List zLi} {a : zLi} {s : Nat} (h : Chain X s) (ha : a.1 = s + 1) : Chain (X ++ [a]) a.2.1 := by
  obtain ⟨⟨l, l1, l2⟩, h2, l3, l4, l5⟩ := h
  have h0 := (List.getElem?_eq_some_iff.mp l1).1
  refine ⟨⟨l, by rw [List.getElem?_append_left h0]; exact l1, l2⟩, fun i u v hu hv => ?_, a, ?_, rfl⟩
  · rcases getX hv with ⟨c, d⟩ | ⟨c, d⟩
    · rcases getX hu with ⟨c', d'⟩ | ⟨c', d'⟩
      · exact h2 i u v d' d
      · omega
    · rcases getX hu with ⟨c', d'⟩ | ⟨c', d'⟩
      · have e : X.length - 1 = i := by omega
        rw [e] at l4
        have e2 : u = l3 := Option.some.inj (d'.symm.trans l4)
        rw [d, ha, e2, l5]
      · omega
  · rw [List.length_append, List.getElem?_append_right (by show X.length ≤ X.length + 1 - 1; omega)]
    have e : X.length + [a].length - 1 - X.length = 0 := by
      show X.length + 1 - 1 - X.length = 0
      omega
    rw [e, List.getElem?_cons_zero]
theorem s_end19 {m y : Nat} (hy : y ≤ 100) (M : zM) : f_X5_readText_l19 (m + 1) M 0 (nI y) = some (0, M) := by
  have g : ¬ (120 : Int32) ≤ nI y := nI_ge (b := 120) (by omega) (by decide)
  rw [f_X5_readText_l19, if_neg g, if_pos rfl]
  rfl
theorem s_end15 {m f : Nat} (K : zM → Option (Int32 × zM)) {J : zM} (h14 : J 0 14 = nI f) (hf : f < 2 ^ 31) : f_X9_isForm_l15 K (m + 1) J = K J := by
  rw [f_X9_isForm_l15, h14, if_pos (nI_pos' hf)]
theorem l_text {T : Nat → Nat} {n : Nat} : ∀ (d s y fI : Nat) (M : zM) (X : List zLi), n ≤ s + d → d + 1 < fI → TI M T n → M 334 2 = nI s → s ≤ n → Rows M T n X → Chain X s → X.length = y + 1 → 4 * y + 3 ≤ s → (∃ f M2, f_X5_readText_l19 fI M 1 (nI y) = some (0, M2) ∧ M2 334 2 = nI f ∧ f ≤ n ∧ TM M2 335 31 5 ∧ FC M M2 ∧ ∀ J K fJ, d + 1 < fJ → TJ J T n → J 0 13 = nI s → J 0 14 = -1 → ∃ J2, f_X9_isForm_l15 K fJ J = K J2 ∧ J2 0 14 = nI f ∧ FR J J2) ∨ (∃ (M2 : zM) (X2 : List zLi), f_X5_readText_l19 fI M 1 (nI y) = some (1, M2) ∧ Rows M2 T n X2 ∧ Chain X2 n ∧ FC M M2 ∧ ∀ J K fJ, d + 1 < fJ → TJ J T n → J 0 13 = nI s → J 0 14 = -1 → ∃ J2, f_X9_isForm_l15 K fJ J = K J2 ∧ J2 0 14 = -1 ∧ FR J J2) := by
  intro d
  induction d with
  | zero =>
    intro s y fI M X hd hfI hT hs hle hX hC hlen h4
    obtain ⟨m, rfl⟩ : ∃ m, fI = m + 1 := ⟨fI - 1, by omega⟩
    have hn := hT.1.2.2.2.1
    have g : ¬ (120 : Int32) ≤ nI y := nI_ge (b := 120) (by omega) (by decide)
    have e : s = n := by omega
    subst e
    right
    rw [f_X5_readText_l19, if_neg g, if_neg one0, sp_size hT.1, zb_s, hs, if_pos (nI_le (by omega) (by omega))]
    refine ⟨M, X, rfl, hX, hC, FC_r, fun J K fJ hfJ hTJ h13 h14 => ?_⟩
    obtain ⟨m2, rfl⟩ : ∃ m, fJ = m + 1 := ⟨fJ - 1, by omega⟩
    rw [f_X9_isForm_l15, h14, if_neg (by decide), hTJ.2.1, h13, if_pos (nI_le (by omega) (by omega))]
    exact ⟨J, rfl, h14, FR_r⟩
  | succ d ih =>
    intro s y fI M X hd hfI hT hs hle hX hC hlen h4
    obtain ⟨m, rfl⟩ : ∃ m, fI = m + 1 := ⟨fI - 1, by omega⟩
    have hn := hT.1.2.2.2.1
    have g : ¬ (120 : Int32) ≤ nI y := nI_ge (b := 120) (by omega) (by decide)
    rw [f_X5_readText_l19, if_neg g, if_neg one0, sp_size hT.1, zb_s, hs]
    by_cases c : s < n
    · have e59 : f_X5_readByte M 59 = _ := sp_readByte (c := 59) hT hs hle (by decide)
      rw [if_neg (nI_ge c (by omega)), e59, nI_1]
      have hJ0 : ∀ J K m2, TJ J T n → J 0 13 = nI s → J 0 14 = -1 → f_X9_isForm_l15 K (m2 + 1) J = zb (if see T n s 59 59 then some (nI (T s), ms J 0 13 (nI (s + 1))) else some (nI 59, ms J 0 14 (nI s))) (fun q6 => zb (f_X9_line q6.2) (fun q7 => f_X9_isForm_l15 K m2 q7.2)) := fun J K m2 hTJ h13 h14 => by
        have e : f_X9_must J 59 59 = _ := sp_must (lo := 59) (hi := 59) hTJ h13 h14 hle (by decide) (by decide)
        rw [f_X9_isForm_l15, h14, if_neg (by decide), hTJ.2.1, h13, if_neg (nI_ge c (by omega)), e]
      by_cases c9 : see T n s 59 59
      · rw [if_pos c9, zb_s]
        dsimp only
        rw [if_neg one0]
        have hT1 : TI (ms M 334 2 (nI (s + 1))) T n := TI_c hT (ms_n (by decide)) (ms_n (by decide))
        have hL1 : TB (ms M 334 2 (nI (s + 1))) 335 31 5 X.length := TB_c hX.1 (ms_n (by decide))
        have hF1 : FC M (ms M 334 2 (nI (s + 1))) := FC_m FC_r (Or.inl rfl)
        have hJ1 : ∀ J, TJ J T n → J 0 14 = -1 → TJ (ms J 0 13 (nI (s + 1))) T n ∧ ms J 0 13 (nI (s + 1)) 0 13 = nI (s + 1) ∧ ms J 0 13 (nI (s + 1)) 0 14 = -1 ∧ FR J (ms J 0 13 (nI (s + 1))) := fun J g1 g3 => ⟨TJ_c g1 (ms_sn (by decide)) (ms_n (by decide)), ms_ss _ _ _ _, by rw [ms_sn (by decide)]; exact g3, FR_0 FR_r (Or.inl rfl)⟩
        rcases pr_line hT1 (ms_ss _ _ _ _) (show s + 1 ≤ n from c) hL1 (by omega) with ⟨f, M2, b1, b2, b3, b4, b5, b6⟩ | ⟨e, M2, ty, k, vs, pm, b1, b2, b3, b4, b5, b6, b7, b8, b9, b10, b11⟩
        · left
          obtain ⟨m', rfl⟩ : ∃ m', m = m' + 1 := ⟨m - 1, by omega⟩
          rw [b1, zb_s]
          dsimp only
          rw [if_pos rfl, s_end19 (by omega)]
          refine ⟨f, M2, rfl, b2, b3, b4, FC_t hF1 b5, fun J K fJ hfJ hTJ h13 h14 => ?_⟩
          obtain ⟨m2, rfl⟩ : ∃ m, fJ = m + 2 := ⟨fJ - 2, by omega⟩
          obtain ⟨k1, k2, k3, k4⟩ := hJ1 J hTJ h14
          obtain ⟨t, J2, r1, r2, r3⟩ := b6 _ k1 k2 k3
          rw [hJ0 J K (m2 + 1) hTJ h13 h14, if_pos c9, zb_s]
          dsimp only
          rw [r1, zb_s, s_end15 K r2 (by omega)]
          exact ⟨J2, rfl, r2, FR_t k4 r3⟩
        · rw [b1, zb_s]
          dsimp only
          rw [if_neg one0]
          have hT2 : TI M2 T n := TI_c hT1 (b10 _ (by decide) (by decide) (by decide)) (b10 _ (by decide) (by decide) (by decide))
          have hX2 : Rows M2 T n (X ++ [(s + 1, e, ty, vs)]) := Rows_add hX b5 (fun k hk => by rw [b9 k hk, ms_n (by decide)]) ⟨b11, by show (ty, vs.length) ∈ pkL; rw [b7]; exact pm, b3, b4, b6, b8⟩
          have hC2 : Chain (X ++ [(s + 1, e, ty, vs)]) e := Chain_add hC rfl
          rcases ih e (y + 1) m M2 (X ++ [(s + 1, e, ty, vs)]) (by omega) (by omega) hT2 b2 b4 hX2 hC2 (by rw [List.length_append, hlen]; rfl) (by omega) with ⟨f, M3, d1, d2, d3, d4, d5, d6⟩ | ⟨M3, X3, d1, d2, d3, d4, d5⟩
          · left
            refine ⟨f, M3, d1, d2, d3, d4, FC_t (FC_t hF1 b10) d5, fun J K fJ hfJ hTJ h13 h14 => ?_⟩
            obtain ⟨m2, rfl⟩ : ∃ m, fJ = m + 1 := ⟨fJ - 1, by omega⟩
            obtain ⟨k1, k2, k3, k4⟩ := hJ1 J hTJ h14
            obtain ⟨J2, r1, r2, r3, -, r4⟩ := b11 _ k1 k2 k3
            rw [hJ0 J K m2 hTJ h13 h14, if_pos c9, zb_s]
            dsimp only
            rw [r1, zb_s]
            obtain ⟨J3, q1, q2, q3⟩ := d6 J2 K m2 (by omega) (TJ_c k1 (r4.2 8 (by decide) (by decide)) (r4.1 6 (by decide) (by decide))) r2 r3
            exact ⟨J3, q1, q2, FR_t k4 (FR_t r4 q3)⟩
          · right
            refine ⟨M3, X3, d1, d2, d3, FC_t (FC_t hF1 b10) d4, fun J K fJ hfJ hTJ h13 h14 => ?_⟩
            obtain ⟨m2, rfl⟩ : ∃ m, fJ = m + 1 := ⟨fJ - 1, by omega⟩
            obtain ⟨k1, k2, k3, k4⟩ := hJ1 J hTJ h14
            obtain ⟨J2, r1, r2, r3, -, r4⟩ := b11 _ k1 k2 k3
            rw [hJ0 J K m2 hTJ h13 h14, if_pos c9, zb_s]
            dsimp only
            rw [r1, zb_s]
            obtain ⟨J3, q1, q2, q3⟩ := d5 J2 K m2 (by omega) (TJ_c k1 (r4.2 8 (by decide) (by decide)) (r4.1 6 (by decide) (by decide))) r2 r3
            exact ⟨J3, q1, q2, FR_t k4 (FR_t r4 q3)⟩
      · left
        obtain ⟨m', rfl⟩ : ∃ m', m = m' + 1 := ⟨m - 1, by omega⟩
        rw [if_neg c9, zb_s]
        dsimp only
        rw [if_pos rfl, s_end19 (by omega)]
        refine ⟨s, M, rfl, hs, hle, hX.1.m, FC_r, fun J K fJ hfJ hTJ h13 h14 => ?_⟩
        obtain ⟨m2, rfl⟩ : ∃ m, fJ = m + 2 := ⟨fJ - 2, by omega⟩
        rw [hJ0 J K (m2 + 1) hTJ h13 h14, if_neg c9, zb_s]
        dsimp only
        rw [sp_lineF (ms_ss _ _ _ _) (show s < 2 ^ 31 by omega), zb_s, s_end15 K (ms_ss _ _ _ _) (show s < 2 ^ 31 by omega)]
        exact ⟨_, rfl, ms_ss _ _ _ _, FR_0 FR_r (Or.inr rfl)⟩
    · have e : s = n := by omega
      subst e
      right
      rw [if_pos (nI_le (by omega) (by omega))]
      refine ⟨M, X, rfl, hX, hC, FC_r, fun J K fJ hfJ hTJ h13 h14 => ?_⟩
      obtain ⟨m2, rfl⟩ : ∃ m, fJ = m + 1 := ⟨fJ - 1, by omega⟩
      rw [f_X9_isForm_l15, h14, if_neg (by decide), hTJ.2.1, h13, if_pos (nI_le (by omega) (by omega))]
      exact ⟨J, rfl, h14, FR_r⟩
theorem pr_text {I : zM} {T : Nat → Nat} {n : Nat} (hT : TI I T n) (hL : TM I 335 31 5) : (∃ f M2, f_X5_readText I = some (0, M2) ∧ M2 334 2 = nI f ∧ f ≤ n ∧ TM M2 335 31 5 ∧ FC I M2 ∧ ∀ J, TJ J T n → ∃ J2, f_X9_isForm J = some (0, J2) ∧ J2 0 14 = nI f ∧ FR J J2) ∨ (∃ (M2 : zM) (X : List zLi), f_X5_readText I = some (1, M2) ∧ Rows M2 T n X ∧ Chain X n ∧ FC I M2 ∧ ∀ J, TJ J T n → ∃ J2, f_X9_isForm J = some (1, J2) ∧ J2 0 14 = -1 ∧ FR J J2) := by
  have hz := zFu_big
  have hn := hT.1.2.2.2.1
  obtain ⟨m, hm⟩ : ∃ m, zFu = m + 1 := ⟨zFu - 1, by omega⟩
  unfold f_X5_readText
  rw [sp_clear, zb_s, zlet_s]
  have hF1 : FC I (ms (ms I 335 3 (nI 0)) 334 2 0) := FC_m (FC_m FC_r (Or.inr (Or.inl rfl))) (Or.inl rfl)
  have hT1 : TI (ms (ms I 335 3 (nI 0)) 334 2 0) T n := TI_c hT (hF1 _ (by decide) (by decide) (by decide)) (hF1 _ (by decide) (by decide) (by decide))
  have hL1 : TB (ms (ms I 335 3 (nI 0)) 334 2 0) 335 31 5 0 := by
    refine TM.b ⟨?_, ?_, hL.2.2⟩ ?_ (by omega)
    · rw [ms_n (by decide), ms_sn (by decide)]
      exact hL.1
    · rw [ms_n (by decide), ms_sn (by decide)]
      exact hL.2.1
    · rw [ms_n (by decide), ms_ss]
  have hJ1 : ∀ J, TJ J T n → TJ (ms (ms J 0 13 0) 0 14 (-1)) T n ∧ ms (ms J 0 13 0) 0 14 (-1) 0 13 = nI 0 ∧ ms (ms J 0 13 0) 0 14 (-1) 0 14 = -1 ∧ FR J (ms (ms J 0 13 0) 0 14 (-1)) := fun J h => ⟨TJ_c h (by rw [ms_sn (by decide), ms_sn (by decide)]) (by rw [ms_n (by decide), ms_n (by decide)]), by rw [ms_sn (by decide), ms_ss]; rfl, ms_ss _ _ _ _, FR_0 (FR_0 FR_r (Or.inl rfl)) (Or.inr rfl)⟩
  have h334 : ms (ms I 335 3 (nI 0)) 334 2 0 334 2 = nI 0 := ms_ss _ _ _ _
  generalize ms (ms I 335 3 (nI 0)) 334 2 0 = N at *
  have hform : ∀ J, f_X9_isForm J = zb (f_X9_line (ms (ms J 0 13 0) 0 14 (-1))) (fun q3 => f_X9_isForm_l15 (fun M8 => f_X9_isForm_j50 M8) zFu q3.2) := fun J => rfl
  rcases pr_line hT1 h334 (Nat.zero_le n) hL1 (by omega) with ⟨f, M2, b1, b2, b3, b4, b5, b6⟩ | ⟨e, M2, ty, k, vs, pm, b1, b2, b3, b4, b5, b6, b7, b8, b9, b10, b11⟩
  · left
    have b0 : f_X5_readText_l19 zFu M2 0 0 = some (0, M2) := by
      rw [hm]
      exact s_end19 (y := 0) (by omega) M2
    rw [b1, zb_s]
    dsimp only
    rw [b0]
    refine ⟨f, M2, rfl, b2, b3, b4, FC_t hF1 b5, fun J hTJ => ?_⟩
    obtain ⟨k1, k2, k3, k4⟩ := hJ1 J hTJ
    obtain ⟨t, J2, r1, r2, r3⟩ := b6 _ k1 k2 k3
    rw [hform, r1, zb_s]
    dsimp only
    rw [hm, s_end15 _ r2 (by omega)]
    unfold f_X9_isForm_j50
    rw [r2, if_pos (nI_pos' (by omega))]
    exact ⟨J2, rfl, r2, FR_t k4 r3⟩
  · rw [b1, zb_s]
    dsimp only
    have hT2 : TI M2 T n := TI_c hT1 (b10 _ (by decide) (by decide) (by decide)) (b10 _ (by decide) (by decide) (by decide))
    have hX2 : Rows M2 T n [(0, e, ty, vs)] := by
      refine ⟨b5, fun i l hl => ?_⟩
      rcases getX (X := []) hl with ⟨c, d⟩ | ⟨c, d⟩
      · exact absurd c (Nat.not_lt_zero _)
      · rw [c, d]
        exact ⟨b11, by show (ty, vs.length) ∈ pkL; rw [b7]; exact pm, b3, b4, b6, b8⟩
    have hC2 : Chain [(0, e, ty, vs)] e := by
      refine ⟨⟨_, rfl, rfl⟩, fun i u v hu hv => ?_, _, rfl, rfl⟩
      have h1 := (List.getElem?_eq_some_iff.mp hv).1
      exact absurd (show i + 1 < 1 from h1) (by omega)
    rcases l_text (T := T) (n := n) n e 0 zFu M2 [(0, e, ty, vs)] (by omega) (by omega) hT2 b2 b4 hX2 hC2 rfl (by omega) with ⟨f, M3, d1, d2, d3, d4, d5, d6⟩ | ⟨M3, X3, d1, d2, d3, d4, d5⟩
    · left
      refine ⟨f, M3, d1, d2, d3, d4, FC_t (FC_t hF1 b10) d5, fun J hTJ => ?_⟩
      obtain ⟨k1, k2, k3, k4⟩ := hJ1 J hTJ
      obtain ⟨J2, r1, r2, r3, -, r4⟩ := b11 _ k1 k2 k3
      obtain ⟨J3, q1, q2, q3⟩ := d6 J2 (fun M8 => f_X9_isForm_j50 M8) zFu (by omega) (TJ_c k1 (r4.2 8 (by decide) (by decide)) (r4.1 6 (by decide) (by decide))) r2 r3
      rw [hform, r1, zb_s]
      dsimp only
      rw [q1]
      unfold f_X9_isForm_j50
      rw [q2, if_pos (nI_pos' (by omega))]
      exact ⟨J3, rfl, q2, FR_t k4 (FR_t r4 q3)⟩
    · right
      refine ⟨M3, X3, d1, d2, d3, FC_t (FC_t hF1 b10) d4, fun J hTJ => ?_⟩
      obtain ⟨k1, k2, k3, k4⟩ := hJ1 J hTJ
      obtain ⟨J2, r1, r2, r3, -, r4⟩ := b11 _ k1 k2 k3
      obtain ⟨J3, q1, q2, q3⟩ := d5 J2 (fun M8 => f_X9_isForm_j50 M8) zFu (by omega) (TJ_c k1 (r4.2 8 (by decide) (by decide)) (r4.1 6 (by decide) (by decide))) r2 r3
      rw [hform, r1, zb_s]
      dsimp only
      rw [q1]
      unfold f_X9_isForm_j50
      rw [q2, if_neg (by decide)]
      exact ⟨J3, rfl, q2, FR_t k4 (FR_t r4 q3)⟩
