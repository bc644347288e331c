/-! FAIR 8: what is asked, in numbers -/
theorem ask_v {fI fJ : Option Int32} {v : Int32} (h : Ask fI fJ) (e : fJ = some v) : fI = some v := by
  obtain ⟨r, h1, h2⟩ := h
  exact h1.trans (h2.symm.trans e)
theorem v_out {J : zM} {t : Nat} (ht : t < 10) : f_X9_isOut J (nI t) = if J 1 (180 + t * 90 + 2) < 0 then some 0 else some 1 := by
  unfold f_X9_isOut
  rw [show f_X9_t J (nI t) 2 = some (J 1 (180 + t * 90 + 2)) from sp_t J (t := t) (f := 2) (by omega), zb_s]
theorem v_person {J : zM} {np q f : Nat} (hA : J 1 1080 = nI np) (hnp : np ≤ 12) (hq : q < np) (hf : f < 5) : f_X9_personOf J (nI q) (nI f) = some (J 1 (q * 15 + f)) := by
  unfold f_X9_personOf
  rw [v_isP hA hnp hq, zb_s, if_neg one0, in_e, if_neg (nI_pos (by omega)), if_pos (show nI f ≤ 7 from nI_le (b := 7) (by omega) (by decide)), zb_s, if_neg one0, if_neg (show ¬ (5 : Int32) ≤ nI f from nI_ge (b := 5) (by omega) (by decide)), sp_p J (by omega), zb_s]
theorem v_person5 {J : zM} {np q : Nat} (hA : J 1 1080 = nI np) (hnp : np ≤ 12) (hq : q < np) : f_X9_personOf J (nI q) 5 = f_X9_toolsOf J (nI q) := by
  unfold f_X9_personOf
  rw [v_isP hA hnp hq, zb_s, if_neg one0, in_e, if_neg (show ¬ (5 : Int32) < 0 by decide), if_pos (show (5 : Int32) ≤ 7 by decide), zb_s, if_neg one0, if_pos (show (5 : Int32) ≤ 5 by decide), if_pos rfl, zb_eta1]
theorem v_person6 {J : zM} {np q : Nat} (hA : J 1 1080 = nI np) (hnp : np ≤ 12) (hq : q < np) : f_X9_personOf J (nI q) 6 = f_X9_rankOf J (nI q) := by
  unfold f_X9_personOf
  rw [v_isP hA hnp hq, zb_s, if_neg one0, in_e, if_neg (show ¬ (6 : Int32) < 0 by decide), if_pos (show (6 : Int32) ≤ 7 by decide), zb_s, if_neg one0, if_pos (show (5 : Int32) ≤ 6 by decide), if_neg (show ¬ (6 : Int32) = 5 by decide), if_pos rfl, zb_eta1]
theorem v_noone {J : zM} {np : Nat} {w : Int32} (hA : J 1 1080 = nI np) (hnp : np ≤ 12) : f_X9_personOf J (nI np) w = some (-1) := by
  have h : f_X9_isPerson J (nI np) = some 0 := by
    unfold f_X9_isPerson
    rw [hA, in_e, if_neg (nI_pos (by omega))]
    have hn : ¬ nI np ≤ nI np - 1 := by
      rcases Nat.eq_zero_or_pos np with e | e
      · rw [e]
        decide
      · rw [show nI np - 1 = nI (np - 1) from pk_sub (b := 1) (by omega)]
        exact nI_ge (by omega) (by omega)
    rw [if_neg hn, zb_s]
    exact zck_t (by decide +kernel)
  unfold f_X9_personOf
  rw [h, zb_s, if_pos rfl]
theorem v_tool {J : zM} {nt t f : Nat} (hA : J 1 1081 = nI nt) (hnt : nt ≤ 10) (ht : t < nt) (hf : f = 0 ∨ f = 1 ∨ f = 5) : f_X9_toolOf J (nI t) (nI f) = some (J 1 (180 + t * 90 + f)) := by
  have hr : ∀ k : Nat, k < 9 → f ≠ k → ¬ nI f = nI k := fun k hk h e => h (nI_inj e (by omega) (by omega))
  unfold f_X9_toolOf
  rw [v_isT hA hnt ht, zb_s, if_neg one0, in_e, if_neg (nI_pos (by omega)), if_pos (show nI f ≤ 8 from nI_le (b := 8) (by omega) (by decide)), zb_s, if_neg one0, if_neg (show ¬ nI f = 2 from hr 2 (by decide) (by omega)), if_neg (show ¬ nI f = 3 from hr 3 (by decide) (by omega)), if_neg (show ¬ nI f = 4 from hr 4 (by decide) (by omega)), if_neg (show ¬ nI f = 6 from hr 6 (by decide) (by omega)), if_neg (show ¬ nI f = 7 from hr 7 (by decide) (by omega)), if_neg (show ¬ nI f = 8 from hr 8 (by decide) (by omega)), sp_t J (by omega), zb_s]
theorem v_tool2 {J : zM} {nt t : Nat} (hA : J 1 1081 = nI nt) (hnt : nt ≤ 10) (ht : t < nt) : f_X9_toolOf J (nI t) 2 = some (if J 1 (180 + t * 90 + 2) < 0 then -2 else J 1 (180 + t * 90 + 2)) := by
  unfold f_X9_toolOf
  rw [v_isT hA hnt ht, zb_s, if_neg one0, in_e, if_neg (show ¬ (2 : Int32) < 0 by decide), if_pos (show (2 : Int32) ≤ 8 by decide), zb_s, if_neg one0, if_pos rfl, v_out (by omega)]
  by_cases c : J 1 (180 + t * 90 + 2) < 0
  · rw [if_pos c, zb_s, if_pos rfl, if_pos c]
  · rw [if_neg c, zb_s, if_neg one0, show f_X9_t J (nI t) 2 = some (J 1 (180 + t * 90 + 2)) from sp_t J (t := t) (f := 2) (by omega), zb_s, if_neg c]
theorem v_tool4 {J : zM} {nt t : Nat} (hA : J 1 1081 = nI nt) (hnt : nt ≤ 10) (ht : t < nt) (ho : ¬ J 1 (180 + t * 90 + 2) < 0) : f_X9_toolOf J (nI t) 4 = some (J 1 (180 + t * 90 + 4)) := by
  unfold f_X9_toolOf
  rw [v_isT hA hnt ht, zb_s, if_neg one0, in_e, if_neg (show ¬ (4 : Int32) < 0 by decide), if_pos (show (4 : Int32) ≤ 8 by decide), zb_s, if_neg one0, if_neg (show ¬ (4 : Int32) = 2 by decide), if_neg (show ¬ (4 : Int32) = 3 by decide), if_pos rfl, v_out (by omega), if_neg ho, zb_s, if_neg one0, show f_X9_t J (nI t) 4 = some (J 1 (180 + t * 90 + 4)) from sp_t J (t := t) (f := 4) (by omega), zb_s]
theorem v_tool6 {J : zM} {nt t : Nat} (hA : J 1 1081 = nI nt) (hnt : nt ≤ 10) (ht : t < nt) : f_X9_toolOf J (nI t) 6 = some (J 1 (180 + t * 90 + 57)) ∧ f_X9_toolOf J (nI t) 7 = some (J 1 (180 + t * 90 + 6)) ∧ f_X9_toolOf J (nI t) 8 = some (J 1 (180 + t * 90 + 32)) := by
  refine ⟨?_, ?_, ?_⟩
  · unfold f_X9_toolOf
    rw [v_isT hA hnt ht, zb_s, if_neg one0, in_e, if_neg (show ¬ (6 : Int32) < 0 by decide), if_pos (show (6 : Int32) ≤ 8 by decide), zb_s, if_neg one0, if_neg (show ¬ (6 : Int32) = 2 by decide), if_neg (show ¬ (6 : Int32) = 3 by decide), if_neg (show ¬ (6 : Int32) = 4 by decide), if_pos rfl, show f_X9_t J (nI t) 57 = some (J 1 (180 + t * 90 + 57)) from sp_t J (t := t) (f := 57) (by omega), zb_s]
  · unfold f_X9_toolOf
    rw [v_isT hA hnt ht, zb_s, if_neg one0, in_e, if_neg (show ¬ (7 : Int32) < 0 by decide), if_pos (show (7 : Int32) ≤ 8 by decide), zb_s, if_neg one0, if_neg (show ¬ (7 : Int32) = 2 by decide), if_neg (show ¬ (7 : Int32) = 3 by decide), if_neg (show ¬ (7 : Int32) = 4 by decide), if_neg (show ¬ (7 : Int32) = 6 by decide), if_pos rfl, show f_X9_t J (nI t) 6 = some (J 1 (180 + t * 90 + 6)) from sp_t J (t := t) (f := 6) (by omega), zb_s]
  · unfold f_X9_toolOf
    rw [v_isT hA hnt ht, zb_s, if_neg one0, in_e, if_neg (show ¬ (8 : Int32) < 0 by decide), if_pos (show (8 : Int32) ≤ 8 by decide), zb_s, if_neg one0, if_neg (show ¬ (8 : Int32) = 2 by decide), if_neg (show ¬ (8 : Int32) = 3 by decide), if_neg (show ¬ (8 : Int32) = 4 by decide), if_neg (show ¬ (8 : Int32) = 6 by decide), if_neg (show ¬ (8 : Int32) = 7 by decide), if_pos rfl, show f_X9_t J (nI t) 32 = some (J 1 (180 + t * 90 + 32)) from sp_t J (t := t) (f := 32) (by omega), zb_s]
theorem v_link {J : zM} {nt t n i j : Nat} (hA : J 1 1081 = nI nt) (hnt : nt ≤ 10) (ht : t < nt) (hn : J 1 (180 + t * 90 + 6) = nI n) (hn8 : n ≤ 8) (hi : i < n) (hj : j ≤ 2) : f_X9_link J (nI t) (nI i) (nI j) = some (J 1 (180 + t * 90 + (8 + 3 * i + j))) := by
  unfold f_X9_link
  rw [v_isT hA hnt ht, zb_s, if_neg one0, if_neg (nI_pos (by omega)), in_e, if_neg (nI_pos (by omega)), if_pos (show nI j ≤ 2 from nI_le (b := 2) hj (by decide)), zb_s, if_neg one0, show f_X9_t J (nI t) 6 = some (J 1 (180 + t * 90 + 6)) from sp_t J (t := t) (f := 6) (by omega), zb_s, hn, if_neg (nI_ge hi (by omega)), show (8 : Int32) + 3 * nI i + nI j = nI (8 + 3 * i + j) from by rw [show (3 : Int32) * nI i = nI (3 * i) from pk_mul 3 i, show (8 : Int32) + nI (3 * i) = nI (8 + 3 * i) from nI_add 8 _, nI_add], sp_t J (by omega), zb_s]
-- how many tools one has, how many are out
def TO (A : Nat → Int32) (h : Int32) : Nat → Nat
  | 0 => 0
  | n + 1 => TO A h n + (if A (180 + n * 90 + 2) = h then 1 else 0)
def OU (A : Nat → Int32) : Nat → Nat
  | 0 => 0
  | n + 1 => OU A n + (if A (180 + n * 90 + 2) < 0 then 0 else 1)
def STO (A : Nat → Int32) (n : Nat) : Nat → Nat
  | 0 => 0
  | m + 1 => STO A n m + TO A (nI m) n
def IND (x : Int32) : Nat → Nat
  | 0 => 0
  | m + 1 => IND x m + (if x = nI m then 1 else 0)
def SB (A : Nat → Int32) : Nat → Int32
  | 0 => 0
  | n + 1 => SB A n + A (n * 15 + 4)
theorem STO_s {A : Nat → Int32} {n : Nat} : ∀ m, STO A (n + 1) m = STO A n m + IND (A (180 + n * 90 + 2)) m
  | 0 => rfl
  | m + 1 => by
    have ih := STO_s (A := A) (n := n) m
    show STO A (n + 1) m + (TO A (nI m) n + (if A (180 + n * 90 + 2) = nI m then 1 else 0)) = STO A n m + TO A (nI m) n + (IND (A (180 + n * 90 + 2)) m + (if A (180 + n * 90 + 2) = nI m then 1 else 0))
    omega
theorem IND_0 {x : Int32} (h : x = -1) : ∀ m, m < 2 ^ 31 → IND x m = 0
  | 0, _ => rfl
  | m + 1, hm => by
    show IND x m + (if x = nI m then 1 else 0) = 0
    rw [IND_0 h m (by omega), if_neg (fun e => nI_nm1 (by omega) (e.symm.trans h))]
theorem IND_1 {x : Int32} {p : Nat} (h : x = nI p) (hp : p < 2 ^ 31) : ∀ m, m < 2 ^ 31 → IND x m = if p < m then 1 else 0
  | 0, _ => rfl
  | m + 1, hm => by
    show IND x m + (if x = nI m then 1 else 0) = _
    rw [IND_1 h hp m (by omega)]
    by_cases e : p = m
    · rw [if_neg (by omega), if_pos (by rw [h, e]), if_pos (by omega)]
    · rw [if_neg (show ¬ x = nI m from fun z => e (nI_inj (h.symm.trans z) hp (by omega)))]
      by_cases c : p < m
      · rw [if_pos c, if_pos (by omega)]
      · rw [if_neg c, if_neg (by omega)]
theorem STO_out {A : Nat → Int32} {np : Nat} (hnp : np ≤ 12) : ∀ n, (∀ t, t < n → A (180 + t * 90 + 2) = -1 ∨ ∃ p, p < np ∧ A (180 + t * 90 + 2) = nI p) → STO A n np = OU A n
  | 0, _ => by
    have h0 : ∀ m, STO A 0 m = 0 := fun m => by
      induction m with
      | zero => rfl
      | succ m ih =>
        show STO A 0 m + 0 = 0
        omega
    exact h0 np
  | n + 1, h => by
    rw [STO_s, STO_out hnp n (fun t ht => h t (by omega))]
    show OU A n + _ = OU A n + (if A (180 + n * 90 + 2) < 0 then 0 else 1)
    rcases h n (by omega) with e | ⟨p, hp, e⟩
    · rw [IND_0 e np (by omega), if_pos (by rw [e]; decide)]
    · rw [IND_1 e (by omega) np (by omega), if_pos hp, if_neg (by rw [e]; exact nI_pos (by omega))]
theorem l_to {J : zM} {nt : Nat} {h : Int32} (hA : J 1 1081 = nI nt) (hnt : nt ≤ 10) : ∀ (d y fuel : Nat), nt = y + d → d < fuel → f_X9_toolsOf_l4 J h fuel (nI (TO (J 1) h y)) (nI y) = some (nI (TO (J 1) h nt)) := by
  intro d
  induction d with
  | zero =>
    intro y fuel hd hf
    obtain ⟨m, rfl⟩ : ∃ m, fuel = m + 1 := ⟨fuel - 1, by omega⟩
    rw [f_X9_toolsOf_l4, hA, if_pos (nI_le (by omega) (by omega)), show nt = y by omega]
  | succ d ih =>
    intro y fuel hd hf
    obtain ⟨m, rfl⟩ : ∃ m, fuel = m + 1 := ⟨fuel - 1, by omega⟩
    have ih := ih (y + 1) m (by omega) (by omega)
    rw [f_X9_toolsOf_l4, hA, if_neg (nI_ge (by omega) (by omega)), show f_X9_t J (nI y) 2 = some (J 1 (180 + y * 90 + 2)) from sp_t J (t := y) (f := 2) (by omega), zb_s]
    have e : TO (J 1) h (y + 1) = TO (J 1) h y + (if J 1 (180 + y * 90 + 2) = h then 1 else 0) := rfl
    by_cases c : J 1 (180 + y * 90 + 2) = h
    · rw [if_pos c] at e
      rw [e] at ih
      rw [if_pos c, zlet_s, nI_1, nI_1]
      exact ih
    · rw [if_neg c] at e
      rw [e] at ih
      rw [if_neg c, zlet_s, a0, nI_1]
      exact ih
theorem v_tools {J : zM} {nt : Nat} {h : Int32} (hA : J 1 1081 = nI nt) (hnt : nt ≤ 10) : f_X9_toolsOf J h = some (nI (TO (J 1) h nt)) := by
  have hz := zFu_big
  exact l_to hA hnt nt 0 zFu (by omega) (by omega)
theorem l_ou {J : zM} {nt : Nat} (hA : J 1 1081 = nI nt) (hnt : nt ≤ 10) : ∀ (d y fuel : Nat), nt = y + d → d < fuel → f_X9_count_l72 J fuel (nI (OU (J 1) y)) (nI y) = some (nI (OU (J 1) nt)) := by
  intro d
  induction d with
  | zero =>
    intro y fuel hd hf
    obtain ⟨m, rfl⟩ : ∃ m, fuel = m + 1 := ⟨fuel - 1, by omega⟩
    rw [f_X9_count_l72, hA, if_pos (nI_le (by omega) (by omega)), show nt = y by omega]
  | succ d ih =>
    intro y fuel hd hf
    obtain ⟨m, rfl⟩ : ∃ m, fuel = m + 1 := ⟨fuel - 1, by omega⟩
    have ih := ih (y + 1) m (by omega) (by omega)
    rw [f_X9_count_l72, hA, if_neg (nI_ge (by omega) (by omega)), v_out (by omega)]
    have e : OU (J 1) (y + 1) = OU (J 1) y + (if J 1 (180 + y * 90 + 2) < 0 then 0 else 1) := rfl
    by_cases c : J 1 (180 + y * 90 + 2) < 0
    · rw [if_pos c] at e
      rw [e] at ih
      rw [if_pos c, zb_s, if_pos rfl, zlet_s, a0, nI_1]
      exact ih
    · rw [if_neg c] at e
      rw [e] at ih
      rw [if_neg c, zb_s, if_neg one0, zlet_s, nI_1, nI_1]
      exact ih
theorem l_sb {J : zM} {np : Nat} (hA : J 1 1080 = nI np) (hnp : np ≤ 12) : ∀ (d y fuel : Nat), np = y + d → d < fuel → f_X9_count_l160 J fuel (SB (J 1) y) (nI y) = some (SB (J 1) np) := by
  intro d
  induction d with
  | zero =>
    intro y fuel hd hf
    obtain ⟨m, rfl⟩ : ∃ m, fuel = m + 1 := ⟨fuel - 1, by omega⟩
    rw [f_X9_count_l160, hA, if_pos (nI_le (by omega) (by omega)), show np = y by omega]
  | succ d ih =>
    intro y fuel hd hf
    obtain ⟨m, rfl⟩ : ∃ m, fuel = m + 1 := ⟨fuel - 1, by omega⟩
    have ih := ih (y + 1) m (by omega) (by omega)
    rw [f_X9_count_l160, hA, if_neg (nI_ge (by omega) (by omega)), show f_X9_p J (nI y) 4 = some (J 1 (y * 15 + 4)) from sp_p J (q := y) (f := 4) (by omega), zb_s, zlet_s, nI_1]
    exact ih
theorem cN_e {x : Int32} {k : Nat} (h : x = nI k) (hk : k < 2 ^ 31) : x = nI (cN x) := by
  rw [h, cN_n hk]
theorem l_sd {J : zM} {nt c : Nat} (hA : J 1 1081 = nI nt) (hnt : nt ≤ 10) (hk : ∀ t, t < nt → J 1 (180 + t * 90 + 5) = nI (cN (J 1 (180 + t * 90 + 5)))) : ∀ (d y fuel : Nat), nt = y + d → d < fuel → f_X9_coins_l40 J fuel (nI (c + SD (J 1) y)) (nI y) = some (nI (c + SD (J 1) nt)) := by
  intro d
  induction d with
  | zero =>
    intro y fuel hd hf
    obtain ⟨m, rfl⟩ : ∃ m, fuel = m + 1 := ⟨fuel - 1, by omega⟩
    rw [f_X9_coins_l40, hA, if_pos (nI_le (by omega) (by omega)), show nt = y by omega]
  | succ d ih =>
    intro y fuel hd hf
    obtain ⟨m, rfl⟩ : ∃ m, fuel = m + 1 := ⟨fuel - 1, by omega⟩
    have ih := ih (y + 1) m (by omega) (by omega)
    rw [f_X9_coins_l40, hA, if_neg (nI_ge (by omega) (by omega)), show f_X9_t J (nI y) 5 = some (nI (cN (J 1 (180 + y * 90 + 5)))) from by rw [← hk y (by omega)]; exact sp_t J (t := y) (f := 5) (by omega), zb_s, zlet_s, nI_add, nI_1, Nat.add_assoc]
    exact ih
theorem l_sp {J : zM} {np c : Nat} (hA : J 1 1080 = nI np) (hnp : np ≤ 12) (hk : ∀ q, q < np → J 1 (q * 15 + 1) = nI (cN (J 1 (q * 15 + 1)))) (K : Int32 → Option Int32) : ∀ (d y fuel : Nat), np = y + d → d < fuel → f_X9_coins_l11 J K fuel (nI (c + SP (J 1) y)) (nI y) = K (nI (c + SP (J 1) np)) := by
  intro d
  induction d with
  | zero =>
    intro y fuel hd hf
    obtain ⟨m, rfl⟩ : ∃ m, fuel = m + 1 := ⟨fuel - 1, by omega⟩
    rw [f_X9_coins_l11, hA, if_pos (nI_le (by omega) (by omega)), show np = y by omega]
  | succ d ih =>
    intro y fuel hd hf
    obtain ⟨m, rfl⟩ : ∃ m, fuel = m + 1 := ⟨fuel - 1, by omega⟩
    have ih := ih (y + 1) m (by omega) (by omega)
    rw [f_X9_coins_l11, hA, if_neg (nI_ge (by omega) (by omega)), show f_X9_p J (nI y) 1 = some (nI (cN (J 1 (y * 15 + 1)))) from by rw [← hk y (by omega)]; exact sp_p J (q := y) (f := 1) (by omega), zb_s, zlet_s, nI_add, nI_1, Nat.add_assoc]
    exact ih
theorem FA_dep {A : Nat → Int32} {np nt C B t : Nat} (hF : FA A np nt C B) (ht : t < nt) : A (180 + t * 90 + 5) = nI (cN (A (180 + t * 90 + 5))) := by
  obtain ⟨dd, d1, d2, d3⟩ := hF.2.2.1
  obtain ⟨n, n8, n6, LL, hd, -⟩ := d3 t ht
  rcases hd with ⟨-, a⟩ | ⟨p', g', p1, a1, a2, a3, a4, a5⟩
  · exact cN_e a (by decide)
  · exact cN_e a4 (by omega)
theorem FA_pur {A : Nat → Int32} {np nt C B q : Nat} (hF : FA A np nt C B) (hq : q < np) : A (q * 15 + 1) = nI (cN (A (q * 15 + 1))) := by
  obtain ⟨⟨k, k1, k2⟩, -, -⟩ := hF.1 q hq
  exact cN_e k2 k1
theorem v_coins {J : zM} {np nt C B : Nat} (hA : J 1 1080 = nI np) (hnp : np ≤ 12) (hA2 : J 1 1081 = nI nt) (hnt : nt ≤ 10) (hF : FA (J 1) np nt C B) : f_X9_coins J = some (nI C) := by
  have hz := zFu_big
  obtain ⟨c, c1, c2⟩ := hF.2.2.2.1
  have f5 := hF.2.2.2.2
  rw [c2, cN_n c1] at f5
  have e1 : ∀ K, f_X9_coins_l11 J K zFu (nI c) 0 = K (nI (c + SP (J 1) np)) := fun K => l_sp (c := c) hA hnp (fun q hq => FA_pur hF hq) K np 0 zFu (by omega) (by omega)
  have e2 : f_X9_coins_l40 J zFu (nI (c + SP (J 1) np)) 0 = some (nI (c + SP (J 1) np + SD (J 1) nt)) := l_sd (c := c + SP (J 1) np) hA2 hnt (fun t ht => FA_dep hF ht) nt 0 zFu (by omega) (by omega)
  unfold f_X9_coins
  rw [c2, e1, e2, show c + SP (J 1) np + SD (J 1) nt = C by omega]
