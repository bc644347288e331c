/-! PURE 42: a text: the reference's numbers and names; a part -/
theorem sp_sees {J : zM} {T : Nat → Nat} {n s lo hi : Nat} (h : TJ J T n) (hs : J 0 13 = nI s) (h14 : J 0 14 = -1) (hle : s ≤ n) (hhi : hi ≤ 255) (hlo : lo ≤ 255) : f_X9_sees J (nI lo) (nI hi) = some (if see T n s lo hi then 1 else 0) := by
  obtain ⟨hn, h8, h6, hb⟩ := h
  unfold f_X9_sees
  rw [h14, if_neg (by decide), h8, hs]
  by_cases c : s < n
  · have hbs := hb s c
    rw [if_neg (nI_ge c (by omega)), zin_t (show s < 120 by omega) (by decide), zck_1, nI_clamp (by omega), h6 s c, in_e]
    by_cases c1 : T s < lo
    · rw [if_pos ((nI_ltI (by omega) (by omega)).mpr c1), zb_s, if_pos rfl, if_neg (fun e => absurd e.2.1 (by omega))]
    · rw [if_neg (fun e => c1 ((nI_ltI (by omega) (by omega)).mp e))]
      by_cases c2 : T s ≤ hi
      · rw [if_pos (nI_le c2 (by omega)), zb_s, if_neg one0, if_pos ⟨c, by omega, c2⟩]
      · rw [if_neg (fun e => c2 ((nI_leI (by omega) (by omega)).mp e)), zb_s, if_pos rfl, if_neg (fun e => c2 e.2.2)]
  · rw [if_pos (nI_le (by omega) (by omega)), if_neg (fun e => c e.1)]
theorem sp_seesF {J : zM} {f : Nat} (h14 : J 0 14 = nI f) (hf : f < 2 ^ 31) (x y : Int32) : f_X9_sees J x y = some 0 := by
  unfold f_X9_sees
  rw [h14, if_pos (nI_pos' hf)]
theorem sp_mustF {J : zM} {f : Nat} (h14 : J 0 14 = nI f) (hf : f < 2 ^ 31) (x y : Int32) : f_X9_must J x y = some (x, J) := by
  unfold f_X9_must
  rw [sp_seesF h14 hf, zb_s, if_pos rfl, h14, if_pos (nI_pos' hf), zlet_s, ms_is h14]
theorem sp_must {J : zM} {T : Nat → Nat} {n s lo hi : Nat} (h : TJ J T n) (hs : J 0 13 = nI s) (h14 : J 0 14 = -1) (hle : s ≤ n) (hhi : hi ≤ 255) (hlo : lo ≤ 255) : f_X9_must J (nI lo) (nI hi) = if see T n s lo hi then some (nI (T s), ms J 0 13 (nI (s + 1))) else some (nI lo, ms J 0 14 (nI s)) := by
  have hn := h.1
  unfold f_X9_must
  rw [sp_sees h hs h14 hle hhi hlo, zb_s, h14, if_neg (show ¬ (0 : Int32) ≤ -1 by decide), hs]
  by_cases c : see T n s lo hi
  · have c0 : s < n := c.1
    rw [if_pos c, if_pos c, if_neg one0, zlet_s, nI_1, zin_t (show s < 120 by omega) (by decide), zck_1, nI_clamp (by omega), ms_n (by decide), h.2.2.1 s c0]
  · rw [if_neg c, if_neg c, if_pos rfl, zlet_s]
theorem l_numR {T : Nat → Nat} {n : Nat} : ∀ (k y s v fuel : Nat) (M : zM), 2 = y + k → k < fuel → TJ M T n → M 0 13 = nI s → M 0 14 = -1 → s ≤ n → f_X9_number_l23 fuel M (nI v) (nI y) = some (nI (dig T n 48 57 10 48 k s v).1, ms M 0 13 (nI (dig T n 48 57 10 48 k s v).2)) := by
  intro k
  induction k with
  | zero =>
    intro y s v fuel M hd hf hT hs h14 hle
    obtain ⟨m, rfl⟩ : ∃ m, fuel = m + 1 := ⟨fuel - 1, by omega⟩
    have e : y = 2 := by omega
    subst e
    rw [f_X9_number_l23, if_pos (by decide), dig]
    show some (nI v, M) = some (nI v, ms M 0 13 (nI s))
    rw [ms_is hs]
  | succ k ih =>
    intro y s v fuel M hd hf hT hs h14 hle
    obtain ⟨m, rfl⟩ : ∃ m, fuel = m + 1 := ⟨fuel - 1, by omega⟩
    have g3 : ¬ (2 : Int32) ≤ nI y := nI_ge (b := 2) (by omega) (by decide)
    have e1 : f_X9_sees M 48 57 = some (if see T n s 48 57 then 1 else 0) := sp_sees hT hs h14 hle (by decide) (by decide)
    have hn := hT.1
    rw [f_X9_number_l23, if_neg g3, e1, zb_s, hs]
    by_cases c : see T n s 48 57
    · have c0 : s < n := c.1
      have hb := hT.2.2.2 s c0
      have c1 : 48 ≤ T s := c.2.1
      rw [if_pos c, if_neg one0, zlet_s, nI_1, zin_t (show s < 120 by omega) (by decide), zck_1, zlet_s, nI_clamp (by omega), ms_n (show (6 : Nat) ≠ 0 by decide), hT.2.2.1 s c0]
      have ev : 10 * nI v + nI (T s) - 48 = nI (v * 10 + (T s - 48)) := by
        have h1 : 10 * nI v + nI (T s) - 48 = nI 10 * nI v + nI (T s) - nI 48 := rfl
        rw [h1, pk_mul, nI_add, pk_sub (by omega), show 10 * v + T s - 48 = v * 10 + (T s - 48) by omega]
      have hT' : TJ (ms M 0 13 (nI (s + 1))) T n := TJ_c hT (ms_sn (by decide)) (ms_n (by decide))
      rw [ev, nI_1, ih (y + 1) (s + 1) (v * 10 + (T s - 48)) m _ (by omega) (by omega) hT' (ms_ss _ _ _ _) (by rw [ms_sn (by decide)]; exact h14) (by omega), ms_ms, dig, if_pos c]
    · rw [if_neg c, if_pos rfl, dig, if_neg c]
      show some (nI v, M) = some (nI v, ms M 0 13 (nI s))
      rw [ms_is hs]
theorem l_namR {T : Nat → Nat} {n : Nat} : ∀ (k y s v fuel : Nat) (M : zM), 2 = y + k → k < fuel → TJ M T n → M 0 13 = nI s → M 0 14 = -1 → s ≤ n → f_X9_nameHere_l25 fuel M (nI v) (nI y) = some (nI (dig T n 97 122 27 96 k s v).1, ms M 0 13 (nI (dig T n 97 122 27 96 k s v).2)) := by
  intro k
  induction k with
  | zero =>
    intro y s v fuel M hd hf hT hs h14 hle
    obtain ⟨m, rfl⟩ : ∃ m, fuel = m + 1 := ⟨fuel - 1, by omega⟩
    have e : y = 2 := by omega
    subst e
    rw [f_X9_nameHere_l25, if_pos (by decide), dig]
    show some (nI v, M) = some (nI v, ms M 0 13 (nI s))
    rw [ms_is hs]
  | succ k ih =>
    intro y s v fuel M hd hf hT hs h14 hle
    obtain ⟨m, rfl⟩ : ∃ m, fuel = m + 1 := ⟨fuel - 1, by omega⟩
    have g3 : ¬ (2 : Int32) ≤ nI y := nI_ge (b := 2) (by omega) (by decide)
    have e1 : f_X9_sees M 97 122 = some (if see T n s 97 122 then 1 else 0) := sp_sees hT hs h14 hle (by decide) (by decide)
    have hn := hT.1
    rw [f_X9_nameHere_l25, if_neg g3, e1, zb_s, hs]
    by_cases c : see T n s 97 122
    · have c0 : s < n := c.1
      have hb := hT.2.2.2 s c0
      have c1 : 97 ≤ T s := c.2.1
      rw [if_pos c, if_neg one0, zlet_s, nI_1, zin_t (show s < 120 by omega) (by decide), zck_1, zlet_s, nI_clamp (by omega), ms_n (show (6 : Nat) ≠ 0 by decide), hT.2.2.1 s c0]
      have ev : 27 * nI v + nI (T s) - 97 + 1 = nI (v * 27 + (T s - 96)) := by
        have h1 : 27 * nI v + nI (T s) - 97 + 1 = nI 27 * nI v + nI (T s) - nI 97 + 1 := rfl
        rw [h1, pk_mul, nI_add, pk_sub (by omega), nI_1, show 27 * v + T s - 97 + 1 = v * 27 + (T s - 96) by omega]
      have hT' : TJ (ms M 0 13 (nI (s + 1))) T n := TJ_c hT (ms_sn (by decide)) (ms_n (by decide))
      rw [ev, nI_1, ih (y + 1) (s + 1) (v * 27 + (T s - 96)) m _ (by omega) (by omega) hT' (ms_ss _ _ _ _) (by rw [ms_sn (by decide)]; exact h14) (by omega), ms_ms, dig, if_pos c]
    · rw [if_neg c, if_pos rfl, dig, if_neg c]
      show some (nI v, M) = some (nI v, ms M 0 13 (nI s))
      rw [ms_is hs]
def fPart (b : Bool) (J : zM) : Option (Int32 × zM) := if b = true then f_X9_nameHere J else f_X9_number J
theorem sp_numF {J : zM} {f : Nat} (h14 : J 0 14 = nI f) (hf : f < 2 ^ 31) (b : Bool) : ∃ v, fPart b J = some (v, J) := by
  have hz := zFu_big
  obtain ⟨m, hm⟩ : ∃ m, zFu = m + 1 := ⟨zFu - 1, by omega⟩
  unfold fPart
  cases b with
  | false =>
    rw [if_neg (by decide)]
    unfold f_X9_number
    rw [sp_mustF h14 hf, zb_s]
    dsimp only
    rw [sp_mustF h14 hf, zb_s, zlet_s, hm, f_X9_number_l23, if_neg (by decide), sp_seesF h14 hf, zb_s, if_pos rfl]
    exact ⟨_, rfl⟩
  | true =>
    rw [if_pos rfl]
    unfold f_X9_nameHere
    rw [sp_mustF h14 hf, zb_s]
    dsimp only
    rw [sp_mustF h14 hf, zb_s, zlet_s, hm, f_X9_nameHere_l25, if_neg (by decide), sp_seesF h14 hf, zb_s, if_pos rfl]
    exact ⟨_, rfl⟩
theorem sp_num {b : Bool} {J : zM} {T : Nat → Nat} {n s : Nat} (h : TJ J T n) (hs : J 0 13 = nI s) (h14 : J 0 14 = -1) (hle : s ≤ n) : (see T n s 32 32 → see T n (s + 1) (loB b) (hiB b) → fPart b J = some (nI (digB b T n 3 (s + 1) 0).1, ms J 0 13 (nI (digB b T n 3 (s + 1) 0).2))) ∧ (see T n s 32 32 → ¬ see T n (s + 1) (loB b) (hiB b) → ∃ v, fPart b J = some (v, ms (ms J 0 13 (nI (s + 1))) 0 14 (nI (s + 1)))) ∧ (¬ see T n s 32 32 → ∃ v, fPart b J = some (v, ms J 0 14 (nI s))) := by
  have hz := zFu_big
  have hn := h.1
  obtain ⟨m, hm⟩ : ∃ m, zFu = m + 1 := ⟨zFu - 1, by omega⟩
  have hT' : TJ (ms J 0 13 (nI (s + 1))) T n := TJ_c h (ms_sn (by decide)) (ms_n (by decide))
  have e1 : f_X9_must J 32 32 = _ := sp_must (lo := 32) (hi := 32) h hs h14 hle (by decide) (by decide)
  have hx : (ms J 0 13 (nI (s + 1))) 0 14 = -1 := by rw [ms_sn (by decide)]; exact h14
  refine ⟨fun c d => ?_, fun c d => ?_, fun c => ?_⟩
  · have c0 : s < n := c.1
    rw [if_pos c] at e1
    have d0 : s + 1 < n := d.1
    have hb := h.2.2.2 _ d0
    have hT2 : TJ (ms J 0 13 (nI (s + 1 + 1))) T n := TJ_c h (ms_sn (by decide)) (ms_n (by decide))
    cases b with
    | false =>
      have d : see T n (s + 1) 48 57 := d
      have d1 : 48 ≤ T (s + 1) := d.2.1
      have e2 : f_X9_must (ms J 0 13 (nI (s + 1))) 48 57 = _ := sp_must (lo := 48) (hi := 57) hT' (ms_ss _ _ _ _) hx c0 (by decide) (by decide)
      rw [if_pos d, ms_ms] at e2
      show f_X9_number J = some (nI (dig T n 48 57 10 48 3 (s + 1) 0).1, ms J 0 13 (nI (dig T n 48 57 10 48 3 (s + 1) 0).2))
      unfold f_X9_number
      rw [e1, zb_s]
      dsimp only
      rw [e2, zb_s, zlet_s]
      dsimp only
      have ev : nI (T (s + 1)) - 48 = nI (0 * 10 + (T (s + 1) - 48)) := by
        have h1 : nI (T (s + 1)) - 48 = nI (T (s + 1)) - nI 48 := rfl
        rw [h1, pk_sub (by omega), Nat.zero_mul, Nat.zero_add]
      rw [ev]
      have e3 := l_numR (T := T) (n := n) 2 0 (s + 1 + 1) (0 * 10 + (T (s + 1) - 48)) zFu _ (by omega) (by omega) hT2 (ms_ss _ _ _ _) (by rw [ms_sn (by decide)]; exact h14) d0
      rw [ms_ms] at e3
      rw [dig, if_pos d]
      exact e3
    | true =>
      have d : see T n (s + 1) 97 122 := d
      have d1 : 97 ≤ T (s + 1) := d.2.1
      have e2 : f_X9_must (ms J 0 13 (nI (s + 1))) 97 122 = _ := sp_must (lo := 97) (hi := 122) hT' (ms_ss _ _ _ _) hx c0 (by decide) (by decide)
      rw [if_pos d, ms_ms] at e2
      show f_X9_nameHere J = some (nI (dig T n 97 122 27 96 3 (s + 1) 0).1, ms J 0 13 (nI (dig T n 97 122 27 96 3 (s + 1) 0).2))
      unfold f_X9_nameHere
      rw [e1, zb_s]
      dsimp only
      rw [e2, zb_s, zlet_s]
      dsimp only
      have ev : nI (T (s + 1)) - 97 + 1 = nI (0 * 27 + (T (s + 1) - 96)) := by
        have h1 : nI (T (s + 1)) - 97 + 1 = nI (T (s + 1)) - nI 97 + 1 := rfl
        rw [h1, pk_sub (by omega), nI_1, show T (s + 1) - 97 + 1 = 0 * 27 + (T (s + 1) - 96) by omega]
      rw [ev]
      have e3 := l_namR (T := T) (n := n) 2 0 (s + 1 + 1) (0 * 27 + (T (s + 1) - 96)) zFu _ (by omega) (by omega) hT2 (ms_ss _ _ _ _) (by rw [ms_sn (by decide)]; exact h14) d0
      rw [ms_ms] at e3
      rw [dig, if_pos d]
      exact e3
  · have c0 : s < n := c.1
    rw [if_pos c] at e1
    have hF : (ms (ms J 0 13 (nI (s + 1))) 0 14 (nI (s + 1))) 0 14 = nI (s + 1) := ms_ss _ _ _ _
    cases b with
    | false =>
      have e2 : f_X9_must (ms J 0 13 (nI (s + 1))) 48 57 = _ := sp_must (lo := 48) (hi := 57) hT' (ms_ss _ _ _ _) hx c0 (by decide) (by decide)
      rw [if_neg (show ¬ see T n (s + 1) 48 57 from d)] at e2
      unfold fPart
      rw [if_neg (by decide)]
      unfold f_X9_number
      rw [e1, zb_s]
      dsimp only
      rw [e2, zb_s, zlet_s]
      dsimp only
      rw [hm, f_X9_number_l23, if_neg (by decide), sp_seesF hF (by omega), zb_s, if_pos rfl]
      exact ⟨_, rfl⟩
    | true =>
      have e2 : f_X9_must (ms J 0 13 (nI (s + 1))) 97 122 = _ := sp_must (lo := 97) (hi := 122) hT' (ms_ss _ _ _ _) hx c0 (by decide) (by decide)
      rw [if_neg (show ¬ see T n (s + 1) 97 122 from d)] at e2
      unfold fPart
      rw [if_pos rfl]
      unfold f_X9_nameHere
      rw [e1, zb_s]
      dsimp only
      rw [e2, zb_s, zlet_s]
      dsimp only
      rw [hm, f_X9_nameHere_l25, if_neg (by decide), sp_seesF hF (by omega), zb_s, if_pos rfl]
      exact ⟨_, rfl⟩
  · rw [if_neg c] at e1
    have hF : (ms J 0 14 (nI s)) 0 14 = nI s := ms_ss _ _ _ _
    unfold fPart
    cases b with
    | false =>
      rw [if_neg (by decide)]
      unfold f_X9_number
      rw [e1, zb_s]
      dsimp only
      rw [sp_mustF hF (by omega), zb_s, zlet_s, hm, f_X9_number_l23, if_neg (by decide), sp_seesF hF (by omega), zb_s, if_pos rfl]
      exact ⟨_, rfl⟩
    | true =>
      rw [if_pos rfl]
      unfold f_X9_nameHere
      rw [e1, zb_s]
      dsimp only
      rw [sp_mustF hF (by omega), zb_s, zlet_s, hm, f_X9_nameHere_l25, if_neg (by decide), sp_seesF hF (by omega), zb_s, if_pos rfl]
      exact ⟨_, rfl⟩
