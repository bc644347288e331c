/-! PURE 41: a text: its bytes, numbers, names -/
abbrev see (T : Nat → Nat) (n s lo hi : Nat) : Prop := s < n ∧ lo ≤ T s ∧ T s ≤ hi
def TI (I : zM) (T : Nat → Nat) (n : Nat) : Prop := TB I 332 120 1 n ∧ (∀ i, i < n → I 333 i = nI (T i)) ∧ ∀ i, i < n → T i ≤ 255
def TJ (J : zM) (T : Nat → Nat) (n : Nat) : Prop := n ≤ 120 ∧ J 0 8 = nI n ∧ (∀ i, i < n → J 6 i = nI (T i)) ∧ ∀ i, i < n → T i ≤ 255
def dig (T : Nat → Nat) (n lo hi mul off : Nat) : Nat → Nat → Nat → Nat × Nat
  | 0, s, v => (v, s)
  | k + 1, s, v => if see T n s lo hi then dig T n lo hi mul off k (s + 1) (v * mul + (T s - off)) else (v, s)
theorem dig_ge {T : Nat → Nat} {n lo hi mul off : Nat} : ∀ (k s v : Nat), s ≤ (dig T n lo hi mul off k s v).2 := by
  intro k
  induction k with
  | zero =>
    intro s v
    exact Nat.le_refl _
  | succ k ih =>
    intro s v
    rw [dig]
    split
    · exact Nat.le_trans (Nat.le_succ s) (ih (s + 1) _)
    · exact Nat.le_refl _
theorem dig_le {T : Nat → Nat} {n lo hi mul off : Nat} : ∀ (k s v : Nat), s ≤ n → (dig T n lo hi mul off k s v).2 ≤ n := by
  intro k
  induction k with
  | zero =>
    intro s v h
    exact h
  | succ k ih =>
    intro s v h
    rw [dig]
    split
    · rename_i c
      exact ih (s + 1) _ c.1
    · exact h
theorem ms_ms (I : zM) (k j : Nat) (v w : Int32) : ms (ms I k j v) k j w = ms I k j w := by
  refine zM_ext1 k (fun b hb => by rw [ms_n hb, ms_n hb, ms_n hb]) (fun i => ?_)
  rw [ms_at, ms_at, ms_at]
  by_cases c : i = j
  · rw [if_pos c, if_pos c]
  · rw [if_neg c, if_neg c, if_neg c]
theorem ms_is {I : zM} {k j : Nat} {v : Int32} (h : I k j = v) : ms I k j v = I := by
  rw [← h]
  exact ms_id I k j
theorem TI_c {I I2 : zM} {T : Nat → Nat} {n : Nat} (h : TI I T n) (h1 : I2 332 = I 332) (h2 : I2 333 = I 333) : TI I2 T n := ⟨TB_c h.1 h1, by rw [h2]; exact h.2.1, h.2.2⟩
theorem TJ_c {J J2 : zM} {T : Nat → Nat} {n : Nat} (h : TJ J T n) (h1 : J2 0 8 = J 0 8) (h2 : J2 6 = J 6) : TJ J2 T n := ⟨h.1, by rw [h1]; exact h.2.1, by rw [h2]; exact h.2.2.1, h.2.2.2⟩
theorem ne_m1 {k : Nat} (hk : k < 2 ^ 31) : ¬ (-1 : Int32) = nI k := fun h => by
  have h2 := m1_lt hk
  rw [← h] at h2
  exact absurd h2 (by decide)
theorem sp_next {I : zM} {T : Nat → Nat} {n s : Nat} (h : TI I T n) (hs : I 334 2 = nI s) (hle : s ≤ n) : f_X5_nextByte I = some (if s < n then nI (T s) else -1) := by
  have hn := h.1.2.2.2.1
  unfold f_X5_nextByte
  rw [sp_size h.1, zb_s, hs]
  by_cases c : s < n
  · have c1 : f_X4_cell I 332 (nI s) 0 = some (I (332 + 1) (s * 1 + 0)) := sp_cell h.1 (j := 0) c (by decide)
    rw [if_neg (nI_ge c (by omega)), if_pos c, c1, zb_s, ← h.2.1 s c, show s * 1 + 0 = s by omega]
  · rw [if_pos (nI_le (by omega) (by omega)), if_neg c]
theorem sp_readByte {I : zM} {T : Nat → Nat} {n s c : Nat} (h : TI I T n) (hs : I 334 2 = nI s) (hle : s ≤ n) (hc : c ≤ 255) : f_X5_readByte I (nI c) = if see T n s c c then some (1, ms I 334 2 (nI (s + 1))) else some (0, I) := by
  unfold f_X5_readByte
  rw [sp_next h hs hle, zb_s]
  by_cases c1 : s < n
  · have hb := h.2.2 s c1
    rw [if_pos c1]
    by_cases c2 : T s = c
    · rw [if_pos (by rw [c2]), if_pos ⟨c1, by omega, by omega⟩, zlet_s, hs, nI_1]
    · rw [if_neg (fun e => c2 ((nI_eq (by omega) (by omega)).mp e)), if_neg (fun e => c2 (by omega))]
  · rw [if_neg c1, if_neg (ne_m1 (by omega)), if_neg (fun e => c1 e.1)]
-- the class's numbers
theorem l_digN {T : Nat → Nat} {n : Nat} {x1 x2 : Int32} (K : zM → Int32 → Int32 → Option (Int32 × zM)) : ∀ (k y s v fuel : Nat) (M : zM), 3 = y + k → k < fuel → TI M T n → M 334 2 = nI s → s ≤ n → f_X5_readPart_l32 x1 x2 0 48 57 K fuel M (nI v) (nI y) = K (ms M 334 2 (nI (dig T n 48 57 10 48 k s v).2)) (nI (dig T n 48 57 10 48 k s v).1) (nI (y + ((dig T n 48 57 10 48 k s v).2 - s))) := by
  intro k
  induction k with
  | zero =>
    intro y s v fuel M hd hf hT hs hle
    obtain ⟨m, rfl⟩ : ∃ m, fuel = m + 1 := ⟨fuel - 1, by omega⟩
    have e : y = 3 := by omega
    subst e
    rw [f_X5_readPart_l32, if_pos (by decide), dig]
    show K M (nI v) (nI 3) = K (ms M 334 2 (nI s)) (nI v) (nI (3 + (s - s)))
    rw [ms_is hs, Nat.sub_self]
  | succ k ih =>
    intro y s v fuel M hd hf hT hs hle
    obtain ⟨m, rfl⟩ : ∃ m, fuel = m + 1 := ⟨fuel - 1, by omega⟩
    have g3 : ¬ (3 : Int32) ≤ nI y := nI_ge (b := 3) (by omega) (by decide)
    have hn := hT.1.2.2.2.1
    rw [f_X5_readPart_l32, if_neg g3, sp_next hT hs hle]
    simp only [zb_s]
    by_cases c : see T n s 48 57
    · obtain ⟨c1, c2, c3⟩ := c
      have d1 : ¬ nI (T s) < 48 := fun e => absurd ((nI_ltI (b := 48) (by omega) (by omega)).mp e) (by omega)
      have d2 : ¬ 57 < nI (T s) := fun e => absurd ((nI_ltI (a := 57) (by omega) (by omega)).mp e) (by omega)
      have ev : nI v * 10 + nI (T s) - 48 = nI (v * 10 + (T s - 48)) := by
        have h1 : nI v * 10 + nI (T s) - 48 = nI v * nI 10 + nI (T s) - nI 48 := rfl
        rw [h1, pk_mul, nI_add, pk_sub (by omega), show v * 10 + T s - 48 = v * 10 + (T s - 48) by omega]
      rw [if_pos c1, if_neg d1, if_neg d2, if_true, zlet_s, zlet_s, ev, hs, nI_1, nI_1]
      have hT' : TI (ms M 334 2 (nI (s + 1))) T n := TI_c hT (ms_n (by decide)) (ms_n (by decide))
      rw [ih (y + 1) (s + 1) (v * 10 + (T s - 48)) m _ (by omega) (by omega) hT' (ms_ss _ _ _ _) (by omega), ms_ms]
      have hge := dig_ge (T := T) (n := n) (lo := 48) (hi := 57) (mul := 10) (off := 48) k (s + 1) (v * 10 + (T s - 48))
      rw [dig, if_pos ⟨c1, c2, c3⟩]
      rw [show y + 1 + ((dig T n 48 57 10 48 k (s + 1) (v * 10 + (T s - 48))).2 - (s + 1)) = y + ((dig T n 48 57 10 48 k (s + 1) (v * 10 + (T s - 48))).2 - s) by omega]
    · rw [dig, if_neg c]
      show _ = K (ms M 334 2 (nI s)) (nI v) (nI (y + (s - s)))
      rw [ms_is hs, Nat.sub_self, Nat.add_zero]
      by_cases c1 : s < n
      · have hb := hT.2.2 s c1
        rw [if_pos c1]
        by_cases d1 : T s < 48
        · have d1' : nI (T s) < 48 := (nI_ltI (b := 48) (by omega) (by omega)).mpr d1
          rw [if_pos d1']
        · have d1' : ¬ nI (T s) < 48 := fun e => d1 ((nI_ltI (b := 48) (by omega) (by omega)).mp e)
          have d2' : 57 < nI (T s) := (nI_ltI (a := 57) (by omega) (by omega)).mpr (by
            rcases Nat.lt_or_ge 57 (T s) with q | q
            · exact q
            · exact absurd ⟨c1, by omega, q⟩ c)
          rw [if_neg d1', if_pos d2']
      · rw [if_neg c1, if_pos (by decide)]
-- the class's names
theorem l_digA {T : Nat → Nat} {n : Nat} {x1 x2 : Int32} (K : zM → Int32 → Int32 → Option (Int32 × zM)) : ∀ (k y s v fuel : Nat) (M : zM), 3 = y + k → k < fuel → TI M T n → M 334 2 = nI s → s ≤ n → f_X5_readPart_l32 x1 x2 1 97 122 K fuel M (nI v) (nI y) = K (ms M 334 2 (nI (dig T n 97 122 27 96 k s v).2)) (nI (dig T n 97 122 27 96 k s v).1) (nI (y + ((dig T n 97 122 27 96 k s v).2 - s))) := by
  intro k
  induction k with
  | zero =>
    intro y s v fuel M hd hf hT hs hle
    obtain ⟨m, rfl⟩ : ∃ m, fuel = m + 1 := ⟨fuel - 1, by omega⟩
    have e : y = 3 := by omega
    subst e
    rw [f_X5_readPart_l32, if_pos (by decide), dig]
    show K M (nI v) (nI 3) = K (ms M 334 2 (nI s)) (nI v) (nI (3 + (s - s)))
    rw [ms_is hs, Nat.sub_self]
  | succ k ih =>
    intro y s v fuel M hd hf hT hs hle
    obtain ⟨m, rfl⟩ : ∃ m, fuel = m + 1 := ⟨fuel - 1, by omega⟩
    have g3 : ¬ (3 : Int32) ≤ nI y := nI_ge (b := 3) (by omega) (by decide)
    have hn := hT.1.2.2.2.1
    rw [f_X5_readPart_l32, if_neg g3, sp_next hT hs hle]
    simp only [zb_s]
    by_cases c : see T n s 97 122
    · obtain ⟨c1, c2, c3⟩ := c
      have d1 : ¬ nI (T s) < 97 := fun e => absurd ((nI_ltI (b := 97) (by omega) (by omega)).mp e) (by omega)
      have d2 : ¬ 122 < nI (T s) := fun e => absurd ((nI_ltI (a := 122) (by omega) (by omega)).mp e) (by omega)
      have ev : nI v * 27 + nI (T s) - 97 + 1 = nI (v * 27 + (T s - 96)) := by
        have h1 : nI v * 27 + nI (T s) - 97 + 1 = nI v * nI 27 + nI (T s) - nI 97 + 1 := rfl
        rw [h1, pk_mul, nI_add, pk_sub (by omega), nI_1, show v * 27 + T s - 97 + 1 = v * 27 + (T s - 96) by omega]
      rw [if_pos c1, if_neg d1, if_neg d2, if_neg one0, zlet_s, zlet_s, ev, hs, nI_1, nI_1]
      have hT' : TI (ms M 334 2 (nI (s + 1))) T n := TI_c hT (ms_n (by decide)) (ms_n (by decide))
      rw [ih (y + 1) (s + 1) (v * 27 + (T s - 96)) m _ (by omega) (by omega) hT' (ms_ss _ _ _ _) (by omega), ms_ms]
      have hge := dig_ge (T := T) (n := n) (lo := 97) (hi := 122) (mul := 27) (off := 96) k (s + 1) (v * 27 + (T s - 96))
      rw [dig, if_pos ⟨c1, c2, c3⟩]
      rw [show y + 1 + ((dig T n 97 122 27 96 k (s + 1) (v * 27 + (T s - 96))).2 - (s + 1)) = y + ((dig T n 97 122 27 96 k (s + 1) (v * 27 + (T s - 96))).2 - s) by omega]
    · rw [dig, if_neg c]
      show _ = K (ms M 334 2 (nI s)) (nI v) (nI (y + (s - s)))
      rw [ms_is hs, Nat.sub_self, Nat.add_zero]
      by_cases c1 : s < n
      · have hb := hT.2.2 s c1
        rw [if_pos c1]
        by_cases d1 : T s < 97
        · have d1' : nI (T s) < 97 := (nI_ltI (b := 97) (by omega) (by omega)).mpr d1
          rw [if_pos d1']
        · have d1' : ¬ nI (T s) < 97 := fun e => d1 ((nI_ltI (b := 97) (by omega) (by omega)).mp e)
          have d2' : 122 < nI (T s) := (nI_ltI (a := 122) (by omega) (by omega)).mpr (by
            rcases Nat.lt_or_ge 122 (T s) with q | q
            · exact q
            · exact absurd ⟨c1, by omega, q⟩ c)
          rw [if_neg d1', if_pos d2']
      · rw [if_neg c1, if_pos (by decide)]
-- a number or a name: b says which
def digB (b : Bool) (T : Nat → Nat) (n k s v : Nat) : Nat × Nat := if b = true then dig T n 97 122 27 96 k s v else dig T n 48 57 10 48 k s v
def loB (b : Bool) : Nat := if b = true then 97 else 48
def hiB (b : Bool) : Nat := if b = true then 122 else 57
theorem digB_3 {b : Bool} {T : Nat → Nat} {n s : Nat} : (¬ see T n s (loB b) (hiB b) → digB b T n 3 s 0 = (0, s)) ∧ (see T n s (loB b) (hiB b) → s + 1 ≤ (digB b T n 3 s 0).2) ∧ (s ≤ n → (digB b T n 3 s 0).2 ≤ n) ∧ s ≤ (digB b T n 3 s 0).2 := by
  unfold digB
  cases b with
  | false =>
    rw [if_neg (by decide)]
    refine ⟨fun h => ?_, fun h => ?_, dig_le 3 s 0, dig_ge 3 s 0⟩
    · rw [dig, if_neg (show ¬ see T n s 48 57 from h)]
    · rw [dig, if_pos (show see T n s 48 57 from h)]
      exact dig_ge _ _ _
  | true =>
    rw [if_pos rfl]
    refine ⟨fun h => ?_, fun h => ?_, dig_le 3 s 0, dig_ge 3 s 0⟩
    · rw [dig, if_neg (show ¬ see T n s 97 122 from h)]
    · rw [dig, if_pos (show see T n s 97 122 from h)]
      exact dig_ge _ _ _
def iB (b : Bool) : Int32 := if b = true then 1 else 0
theorem sp_partJ {I : zM} {n s r c m : Nat} (hn : n ≤ 120) (hL : TB I 335 31 5 m) (hr : r < m) (hc : c < 5) (q : Nat × Nat) (h1 : s ≤ q.2) (h2 : q.2 ≤ n) : f_X5_readPart_j109 (ms I 334 2 (nI q.2)) (nI r) (nI c) (nI q.1) (nI (0 + (q.2 - s))) = some (if q.2 = s then 0 else 1, ms (ms I 334 2 (nI q.2)) 336 (r * 5 + c) (nI q.1)) := by
  have hL' : TB (ms I 334 2 (nI q.2)) 335 31 5 m := TB_c hL (ms_n (by decide))
  unfold f_X5_readPart_j109
  rw [sp_setCell hL' hr hc, zb_s]
  by_cases c1 : q.2 = s
  · rw [if_pos c1, if_pos (show nI (0 + (q.2 - s)) ≤ 0 by rw [c1, Nat.sub_self]; decide)]
  · rw [if_neg c1, if_neg (show ¬ nI (0 + (q.2 - s)) ≤ 0 from fun e => absurd ((nI_leI (b := 0) (by omega) (by omega)).mp e) (by omega))]
theorem sp_partN {I : zM} {T : Nat → Nat} {n s r c m : Nat} (hT : TI I T n) (hs : I 334 2 = nI s) (hle : s ≤ n) (hL : TB I 335 31 5 m) (hr : r < m) (hc : c < 5) : f_X5_readPart I (nI r) (nI c) 0 = some (if (dig T n 48 57 10 48 3 s 0).2 = s then 0 else 1, ms (ms I 334 2 (nI (dig T n 48 57 10 48 3 s 0).2)) 336 (r * 5 + c) (nI (dig T n 48 57 10 48 3 s 0).1)) := by
  have hz := zFu_big
  have hn := hT.1.2.2.2.1
  unfold f_X5_readPart f_X5_readPart_j11 f_X5_readPart_j24
  rw [if_pos rfl, if_pos rfl]
  have e := l_digN (T := T) (n := n) (x1 := nI r) (x2 := nI c) (fun M15 z16 z17 => f_X5_readPart_j109 M15 (nI r) (nI c) z16 z17) 3 0 s 0 zFu I (by omega) (by omega) hT hs hle
  exact e.trans (sp_partJ hn hL hr hc (dig T n 48 57 10 48 3 s 0) (dig_ge _ _ _) (dig_le _ _ _ hle))
theorem sp_partA {I : zM} {T : Nat → Nat} {n s r c m : Nat} (hT : TI I T n) (hs : I 334 2 = nI s) (hle : s ≤ n) (hL : TB I 335 31 5 m) (hr : r < m) (hc : c < 5) : f_X5_readPart I (nI r) (nI c) 1 = some (if (dig T n 97 122 27 96 3 s 0).2 = s then 0 else 1, ms (ms I 334 2 (nI (dig T n 97 122 27 96 3 s 0).2)) 336 (r * 5 + c) (nI (dig T n 97 122 27 96 3 s 0).1)) := by
  have hz := zFu_big
  have hn := hT.1.2.2.2.1
  unfold f_X5_readPart f_X5_readPart_j11 f_X5_readPart_j24
  rw [if_neg one0, if_neg one0]
  have e := l_digA (T := T) (n := n) (x1 := nI r) (x2 := nI c) (fun M15 z16 z17 => f_X5_readPart_j109 M15 (nI r) (nI c) z16 z17) 3 0 s 0 zFu I (by omega) (by omega) hT hs hle
  exact e.trans (sp_partJ hn hL hr hc (dig T n 97 122 27 96 3 s 0) (dig_ge _ _ _) (dig_le _ _ _ hle))
theorem sp_part {b : Bool} {I : zM} {T : Nat → Nat} {n s r c m : Nat} (hT : TI I T n) (hs : I 334 2 = nI s) (hle : s ≤ n) (hL : TB I 335 31 5 m) (hr : r < m) (hc : c < 5) : f_X5_readPart I (nI r) (nI c) (iB b) = some (if (digB b T n 3 s 0).2 = s then 0 else 1, ms (ms I 334 2 (nI (digB b T n 3 s 0).2)) 336 (r * 5 + c) (nI (digB b T n 3 s 0).1)) := by
  cases b with
  | false => exact sp_partN hT hs hle hL hr hc
  | true => exact sp_partA hT hs hle hL hr hc
