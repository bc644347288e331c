/-! FAIR 9: the ranks -/
def sprN (k : Nat) : Nat := if 27 ≤ k then (if 729 ≤ k then k else k * 27) else k * 729
theorem sprN_inj {a b : Nat} (ha : 1 ≤ a) (ha2 : a % 27 ≠ 0) (hb : 1 ≤ b) (hb2 : b % 27 ≠ 0) (h : sprN a = sprN b) : a = b := by
  unfold sprN at h
  by_cases a1 : 27 ≤ a
  · by_cases a2 : 729 ≤ a
    · rw [if_pos a1, if_pos a2] at h
      by_cases b1 : 27 ≤ b
      · by_cases b2 : 729 ≤ b
        · rw [if_pos b1, if_pos b2] at h
          exact h
        · rw [if_pos b1, if_neg b2] at h
          omega
      · rw [if_neg b1] at h
        omega
    · rw [if_pos a1, if_neg a2] at h
      by_cases b1 : 27 ≤ b
      · by_cases b2 : 729 ≤ b
        · rw [if_pos b1, if_pos b2] at h
          omega
        · rw [if_pos b1, if_neg b2] at h
          omega
      · rw [if_neg b1] at h
        omega
  · rw [if_neg a1] at h
    by_cases b1 : 27 ≤ b
    · by_cases b2 : 729 ≤ b
      · rw [if_pos b1, if_pos b2] at h
        omega
      · rw [if_pos b1, if_neg b2] at h
        omega
    · rw [if_neg b1] at h
      omega
theorem sprN_le {k : Nat} (h : k ≤ 19682) : sprN k ≤ 19682 := by
  unfold sprN
  split
  · split <;> omega
  · omega
theorem v_spread {J : zM} {k : Nat} (h : k ≤ 19682) : f_X9_spread J (nI k) = some (nI (sprN k)) := by
  unfold f_X9_spread sprN
  by_cases a1 : 27 ≤ k
  · rw [if_pos (show (27 : Int32) ≤ nI k from nI_le (a := 27) a1 (by omega)), if_pos a1]
    by_cases a2 : 729 ≤ k
    · rw [if_pos (show (729 : Int32) ≤ nI k from nI_le (a := 729) a2 (by omega)), if_pos a2]
    · rw [if_neg (show ¬ (729 : Int32) ≤ nI k from nI_ge (b := 729) (by omega) (by decide)), if_neg a2, show nI k * 27 = nI (k * 27) from pk_mul k 27]
  · rw [if_neg (show ¬ (27 : Int32) ≤ nI k from nI_ge (b := 27) (by omega) (by decide)), if_neg a1, show nI k * 729 = nI (k * 729) from pk_mul k 729]
def kS (A : Nat → Int32) (q : Nat) : Nat := sprN (cN (A (q * 15 + 0)))
def kT (A : Nat → Int32) (q : Nat) : Int := (A (q * 15 + 2)).toInt
def kL (A : Nat → Int32) (q : Nat) : Int := (A (q * 15 + 3)).toInt
abbrev AH (A : Nat → Int32) (p q : Nat) : Prop := kT A q < kT A p ∨ (kT A p = kT A q ∧ (kL A p < kL A q ∨ (kL A p = kL A q ∧ kS A p < kS A q)))
theorem v_ahead {J : zM} {p q : Nat} (hp : p < 12) (hq : q < 12) (n1 : NM (J 1 (p * 15 + 0))) (n2 : NM (J 1 (q * 15 + 0))) : f_X9_isAhead J (nI p) (nI q) = some (if AH (J 1) p q then 1 else 0) := by
  obtain ⟨a, ea, a1, a2, a3⟩ := n1
  obtain ⟨b, eb, b1, b2, b3⟩ := n2
  have r0 : f_X9_p J (nI p) 0 = some (nI a) := by rw [← ea]; exact sp_p J (q := p) (f := 0) (by omega)
  have r2 : f_X9_p J (nI p) 2 = some (J 1 (p * 15 + 2)) := sp_p J (q := p) (f := 2) (by omega)
  have r3 : f_X9_p J (nI p) 3 = some (J 1 (p * 15 + 3)) := sp_p J (q := p) (f := 3) (by omega)
  have s0 : f_X9_p J (nI q) 0 = some (nI b) := by rw [← eb]; exact sp_p J (q := q) (f := 0) (by omega)
  have s2 : f_X9_p J (nI q) 2 = some (J 1 (q * 15 + 2)) := sp_p J (q := q) (f := 2) (by omega)
  have s3 : f_X9_p J (nI q) 3 = some (J 1 (q * 15 + 3)) := sp_p J (q := q) (f := 3) (by omega)
  have z1 : kS (J 1) p = sprN a := by unfold kS; rw [ea, cN_n (by omega)]
  have z2 : kS (J 1) q = sprN b := by unfold kS; rw [eb, cN_n (by omega)]
  have l1 := sprN_le a2
  have l2 := sprN_le b2
  unfold f_X9_isAhead
  rw [r2, zb_s, s2, zb_s]
  by_cases c1 : J 1 (p * 15 + 2) = J 1 (q * 15 + 2)
  · have t1 : kT (J 1) p = kT (J 1) q := by unfold kT; rw [c1]
    rw [if_pos c1, r3, zb_s, s3, zb_s]
    by_cases c2 : J 1 (p * 15 + 3) = J 1 (q * 15 + 3)
    · have t2 : kL (J 1) p = kL (J 1) q := by unfold kL; rw [c2]
      rw [if_pos c2, r0, zb_s, v_spread a2, zb_s, s0, zb_s, v_spread b2, zb_s]
      by_cases c3 : sprN b ≤ sprN a
      · rw [if_pos (nI_le c3 (by omega)), if_neg (show ¬ AH (J 1) p q from fun h => by unfold AH at h; omega)]
      · rw [if_neg (nI_ge (by omega) (by omega)), if_pos (show AH (J 1) p q from Or.inr ⟨t1, Or.inr ⟨t2, by omega⟩⟩)]
    · have t2 : kL (J 1) p ≠ kL (J 1) q := fun h => c2 (Int32.toInt_inj.mp h)
      rw [if_neg c2]
      by_cases c3 : J 1 (q * 15 + 3) ≤ J 1 (p * 15 + 3)
      · have t3 : kL (J 1) q ≤ kL (J 1) p := Int32.le_iff_toInt_le.mp c3
        rw [zb_s, zb_s, if_pos c3, if_neg (show ¬ AH (J 1) p q from fun h => by unfold AH at h; omega)]
      · have t3 : ¬ kL (J 1) q ≤ kL (J 1) p := fun h => c3 (Int32.le_iff_toInt_le.mpr h)
        rw [zb_s, zb_s, if_neg c3, if_pos (show AH (J 1) p q from Or.inr ⟨t1, Or.inl (by omega)⟩)]
  · have t1 : kT (J 1) p ≠ kT (J 1) q := fun h => c1 (Int32.toInt_inj.mp h)
    rw [if_neg c1]
    by_cases c3 : J 1 (p * 15 + 2) ≤ J 1 (q * 15 + 2)
    · have t3 : kT (J 1) p ≤ kT (J 1) q := Int32.le_iff_toInt_le.mp c3
      rw [zb_s, zb_s, if_pos c3, if_neg (show ¬ AH (J 1) p q from fun h => by unfold AH at h; omega)]
    · have t3 : ¬ kT (J 1) p ≤ kT (J 1) q := fun h => c3 (Int32.le_iff_toInt_le.mpr h)
      rw [zb_s, zb_s, if_neg c3, if_pos (show AH (J 1) p q from Or.inl (by omega))]
def RK (A : Nat → Int32) (q : Nat) : Nat → Nat
  | 0 => 0
  | n + 1 => RK A q n + (if n ≠ q ∧ AH A n q then 1 else 0)
theorem RK_e {A : Nat → Int32} {q n : Nat} : RK A q (n + 1) = RK A q n + (if n ≠ q ∧ AH A n q then 1 else 0) := rfl
theorem RK_le {A : Nat → Int32} {q : Nat} : ∀ n, RK A q n ≤ n
  | 0 => Nat.le_refl _
  | n + 1 => by
    have ih := RK_le (A := A) (q := q) n
    rw [RK_e]
    split <;> omega
theorem RK_lt {A : Nat → Int32} {a b : Nat} (hab : AH A a b) (hne : a ≠ b) : ∀ n, RK A a n ≤ RK A b n ∧ (a < n → RK A a n < RK A b n)
  | 0 => ⟨Nat.le_refl _, fun h => absurd h (Nat.not_lt_zero a)⟩
  | n + 1 => by
    obtain ⟨h1, h2⟩ := RK_lt hab hne n
    rw [RK_e, RK_e]
    by_cases c : n ≠ a ∧ AH A n a
    · have hb : n ≠ b ∧ AH A n b := by
        obtain ⟨-, c2⟩ := c
        refine ⟨fun e => ?_, ?_⟩
        · subst e
          unfold AH at hab c2
          omega
        · unfold AH at hab c2 ⊢
          omega
      rw [if_pos c, if_pos hb]
      exact ⟨by omega, fun h => by have := h2 (by omega); omega⟩
    · rw [if_neg c]
      by_cases e : a = n
      · subst e
        rw [if_pos (show a ≠ b ∧ AH A a b from ⟨hne, hab⟩)]
        exact ⟨by omega, fun _ => by omega⟩
      · refine ⟨by omega, fun h => ?_⟩
        have := h2 (by omega)
        omega
theorem RK_inj {A : Nat → Int32} {np nt C B p q : Nat} (hF : FA A np nt C B) (hp : p < np) (hq : q < np) (h : RK A p np = RK A q np) : p = q := by
  by_cases e : p = q
  · exact e
  · obtain ⟨-, -, a, ea, a1, a2, a3⟩ := hF.1 p hp
    obtain ⟨-, -, b, eb, b1, b2, b3⟩ := hF.1 q hq
    have hs : kS A p ≠ kS A q := by
      unfold kS
      rw [ea, eb, cN_n (by omega), cN_n (by omega)]
      intro z
      have hab := sprN_inj a1 a3 b1 b3 z
      rcases Nat.lt_or_ge p q with c | c
      · exact hF.2.1 q p hq c (by rw [ea, eb, hab])
      · exact hF.2.1 p q hp (by omega) (by rw [ea, eb, hab])
    by_cases c : AH A p q
    · have := (RK_lt c e np).2 hp
      omega
    · have c2 : AH A q p := by
        unfold AH at c ⊢
        omega
      have := (RK_lt c2 (fun z => e z.symm) np).2 hq
      omega
theorem l_rk {J : zM} {np nt C B q : Nat} (hA : J 1 1080 = nI np) (hnp : np ≤ 12) (hF : FA (J 1) np nt C B) (hq : q < np) : ∀ (d y fuel : Nat), np = y + d → d < fuel → f_X9_rankOf_l4 J (nI q) fuel (nI (RK (J 1) q y)) (nI y) = some (nI (RK (J 1) q np)) := by
  intro d
  induction d with
  | zero =>
    intro y fuel hd hf
    obtain ⟨m, rfl⟩ : ∃ m, fuel = m + 1 := ⟨fuel - 1, by omega⟩
    rw [f_X9_rankOf_l4, hA, if_pos (nI_le (by omega) (by omega)), show y = np by omega]
  | succ d ih =>
    intro y fuel hd hf
    obtain ⟨m, rfl⟩ : ∃ m, fuel = m + 1 := ⟨fuel - 1, by omega⟩
    have ih := ih (y + 1) m (by omega) (by omega)
    rw [RK_e] at ih
    rw [f_X9_rankOf_l4, hA, if_neg (nI_ge (by omega) (by omega))]
    by_cases e : y = q
    · rw [if_neg (show ¬ (y ≠ q ∧ AH (J 1) y q) from fun h => h.1 e)] at ih
      rw [if_pos (show nI y = nI q by rw [e]), zlet_s, a0, nI_1]
      exact ih
    · rw [if_neg (show ¬ nI y = nI q from fun z => e (nI_inj z (by omega) (by omega))), v_ahead (by omega) (by omega) (hF.1 y (by omega)).2.2 (hF.1 q hq).2.2, zb_s]
      by_cases c : AH (J 1) y q
      · rw [if_pos (show y ≠ q ∧ AH (J 1) y q from ⟨e, c⟩)] at ih
        rw [if_pos c, if_neg one0, zlet_s, nI_1, nI_1]
        exact ih
      · rw [if_neg (show ¬ (y ≠ q ∧ AH (J 1) y q) from fun h => c h.2)] at ih
        rw [if_neg c, if_pos rfl, zlet_s, a0, nI_1]
        exact ih
theorem v_rank {J : zM} {np nt C B q : Nat} (hA : J 1 1080 = nI np) (hnp : np ≤ 12) (hF : FA (J 1) np nt C B) (hq : q < np) : f_X9_rankOf J (nI q) = some (nI (RK (J 1) q np)) := by
  have hz := zFu_big
  exact l_rk hA hnp hF hq np 0 zFu (by omega) (by omega)
theorem l_rd {J : zM} {np nt C B p : Nat} (hA : J 1 1080 = nI np) (hnp : np ≤ 12) (hF : FA (J 1) np nt C B) (hp : p < np) : ∀ (d y fuel : Nat), np = y + d → d < fuel → y ≤ p → f_X9_rankedAt_l2 J (nI (RK (J 1) p np)) fuel (nI y) = some (nI p) := by
  have hl : ∀ q, RK (J 1) q np < 2 ^ 31 := fun q => by
    have := RK_le (A := J 1) (q := q) np
    omega
  intro d
  induction d with
  | zero =>
    intro y fuel hd hf hy
    omega
  | succ d ih =>
    intro y fuel hd hf hy
    obtain ⟨m, rfl⟩ : ∃ m, fuel = m + 1 := ⟨fuel - 1, by omega⟩
    rw [f_X9_rankedAt_l2, hA, if_neg (nI_ge (by omega) (by omega)), v_rank hA hnp hF (show y < np by omega), zb_s]
    by_cases e : y = p
    · rw [e, if_pos rfl]
    · rw [if_neg (show ¬ nI (RK (J 1) y np) = nI (RK (J 1) p np) from fun z => e (RK_inj hF (by omega) hp (nI_inj z (hl y) (hl p)))), nI_1]
      exact ih (y + 1) m (by omega) (by omega) (by omega)
theorem v_ranked {J : zM} {np nt C B p : Nat} (hA : J 1 1080 = nI np) (hnp : np ≤ 12) (hF : FA (J 1) np nt C B) (hp : p < np) : f_X9_ranked J (nI (RK (J 1) p np)) = some (nI p) := by
  have hz := zFu_big
  have hl := RK_le (A := J 1) (q := p) np
  have e : f_X9_rankedAt J (nI (RK (J 1) p np)) = some (nI p) := l_rd hA hnp hF hp np 0 zFu (by omega) (by omega) (Nat.zero_le _)
  unfold f_X9_ranked
  rw [if_pos (nI_pos' (by omega)), e, zb_s]
