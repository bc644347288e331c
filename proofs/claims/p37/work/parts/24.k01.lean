/-! FAIR 1: what the law's property stands on: a row A of the reference, np persons, nt tools, C coins; B bounds the time -/
def cN (x : Int32) : Nat := x.toNatClampNeg
theorem cN_n {k : Nat} (h : k < 2 ^ 31) : cN (nI k) = k := nI_clamp h
-- all purses, all deposits
def SP (A : Nat → Int32) : Nat → Nat
  | 0 => 0
  | n + 1 => SP A n + cN (A (n * 15 + 1))
def SD (A : Nat → Int32) : Nat → Nat
  | 0 => 0
  | n + 1 => SD A n + cN (A (180 + n * 90 + 5))
theorem SP_c {A A2 : Nat → Int32} : ∀ n, (∀ q, q < n → A2 (q * 15 + 1) = A (q * 15 + 1)) → SP A2 n = SP A n
  | 0, _ => rfl
  | n + 1, h => by
    show SP A2 n + cN (A2 (n * 15 + 1)) = SP A n + cN (A (n * 15 + 1))
    rw [SP_c n (fun q hq => h q (by omega)), h n (by omega)]
theorem SD_c {A A2 : Nat → Int32} : ∀ n, (∀ t, t < n → A2 (180 + t * 90 + 5) = A (180 + t * 90 + 5)) → SD A2 n = SD A n
  | 0, _ => rfl
  | n + 1, h => by
    show SD A2 n + cN (A2 (180 + n * 90 + 5)) = SD A n + cN (A (180 + n * 90 + 5))
    rw [SD_c n (fun q hq => h q (by omega)), h n (by omega)]
theorem SP_1 {A A2 : Nat → Int32} {q : Nat} : ∀ n, q < n → (∀ u, u < n → u ≠ q → A2 (u * 15 + 1) = A (u * 15 + 1)) → SP A2 n + cN (A (q * 15 + 1)) = SP A n + cN (A2 (q * 15 + 1))
  | 0, hq, _ => absurd hq (Nat.not_lt_zero _)
  | n + 1, hq, h => by
    show SP A2 n + cN (A2 (n * 15 + 1)) + cN (A (q * 15 + 1)) = SP A n + cN (A (n * 15 + 1)) + cN (A2 (q * 15 + 1))
    rcases Nat.lt_or_ge q n with c | c
    · have e := SP_1 (A := A) (A2 := A2) n c (fun u hu hn => h u (by omega) hn)
      rw [h n (by omega) (by omega)]
      omega
    · have e : q = n := by omega
      subst e
      rw [SP_c (A := A) (A2 := A2) q (fun u hu => h u (by omega) (by omega))]
      omega
theorem SD_1 {A A2 : Nat → Int32} {t : Nat} : ∀ n, t < n → (∀ u, u < n → u ≠ t → A2 (180 + u * 90 + 5) = A (180 + u * 90 + 5)) → SD A2 n + cN (A (180 + t * 90 + 5)) = SD A n + cN (A2 (180 + t * 90 + 5))
  | 0, hq, _ => absurd hq (Nat.not_lt_zero _)
  | n + 1, hq, h => by
    show SD A2 n + cN (A2 (180 + n * 90 + 5)) + cN (A (180 + t * 90 + 5)) = SD A n + cN (A (180 + n * 90 + 5)) + cN (A2 (180 + t * 90 + 5))
    rcases Nat.lt_or_ge t n with c | c
    · have e := SD_1 (A := A) (A2 := A2) n c (fun u hu hn => h u (by omega) hn)
      rw [h n (by omega) (by omega)]
      omega
    · have e : t = n := by omega
      subst e
      rw [SD_c (A := A) (A2 := A2) t (fun u hu => h u (by omega) (by omega))]
      omega
theorem SP_le {A : Nat → Int32} {q : Nat} : ∀ n, q < n → cN (A (q * 15 + 1)) ≤ SP A n
  | 0, hq => absurd hq (Nat.not_lt_zero _)
  | n + 1, hq => by
    show cN (A (q * 15 + 1)) ≤ SP A n + cN (A (n * 15 + 1))
    rcases Nat.lt_or_ge q n with c | c
    · have := SP_le (A := A) n c
      omega
    · have e : q = n := by omega
      subst e
      omega
theorem SD_le {A : Nat → Int32} {t : Nat} : ∀ n, t < n → cN (A (180 + t * 90 + 5)) ≤ SD A n
  | 0, hq => absurd hq (Nat.not_lt_zero _)
  | n + 1, hq => by
    show cN (A (180 + t * 90 + 5)) ≤ SD A n + cN (A (180 + n * 90 + 5))
    rcases Nat.lt_or_ge t n with c | c
    · have := SD_le (A := A) n c
      omega
    · have e : t = n := by omega
      subst e
      omega
-- a name's last letter is one
def NM (x : Int32) : Prop := ∃ k, x = nI k ∧ 1 ≤ k ∧ k ≤ 19682 ∧ k % 27 ≠ 0
-- a person's purse, debt, name
def FP (A : Nat → Int32) (B q : Nat) : Prop := (∃ k, k < 2 ^ 31 ∧ A (q * 15 + 1) = nI k) ∧ (∃ d, d ≤ 99 * B ∧ A (q * 15 + 4) = nI d) ∧ NM (A (q * 15 + 0))
-- n links, in order, by day dd at latest; h holds the tool
def FL (r : Nat → Nat → Int32) (n dd : Nat) (h : Int32) : Prop :=
  (∀ i, i < n → ∃ s, s ≤ dd ∧ r i 1 = nI s) ∧ (∀ i, i + 1 < n → ∃ e s, e ≤ s ∧ s ≤ dd ∧ r i 2 = nI e ∧ r (i + 1) 1 = nI s) ∧ (1 ≤ n → (h = -1 ∧ ∃ e, e ≤ dd ∧ r (n - 1) 2 = nI e) ∨ (¬ h = -1 ∧ r (n - 1) 2 = -2 ∧ r (n - 1) 0 = h))
abbrev lkR (A : Nat → Int32) (b : Nat) (i j : Nat) : Int32 := A (b + (8 + 3 * i + j))
-- a tool: out with a deposit, or here with none
def FT (A : Nat → Int32) (dd b : Nat) : Prop := ∃ n, n ≤ 8 ∧ A (b + 6) = nI n ∧ FL (lkR A b) n dd (A (b + 2)) ∧ ((A (b + 2) = -1 ∧ A (b + 5) = nI 0) ∨ ∃ p g, p < 12 ∧ A (b + 2) = nI p ∧ 1 ≤ g ∧ g ≤ 99 ∧ A (b + 5) = nI g ∧ 1 ≤ n) ∧ ∃ m x, 1 ≤ m ∧ m ≤ 6 ∧ x ≤ 9 ∧ A (b + 32) = nI m ∧ A (b + (33 + 4 * (m - 1) + 1)) = nI x
def FA (A : Nat → Int32) (np nt C B : Nat) : Prop := (∀ q, q < np → FP A B q) ∧ (∀ q u, q < np → u < q → A (q * 15 + 0) ≠ A (u * 15 + 0)) ∧ (∃ dd, dd ≤ 99 * B ∧ A 1082 = nI dd ∧ ∀ t, t < nt → FT A dd (180 + t * 90)) ∧ (∃ c, c < 2 ^ 31 ∧ A 1083 = nI c) ∧ SP A np + SD A nt + cN (A 1083) = C
theorem FL_c {r r2 : Nat → Nat → Int32} {n dd dd2 : Nat} {h : Int32} (H : FL r n dd h) (hr : ∀ i j, i < n → j < 3 → r2 i j = r i j) (hd : dd ≤ dd2) : FL r2 n dd2 h := by
  obtain ⟨h1, h2, h3⟩ := H
  refine ⟨fun i hi => ?_, fun i hi => ?_, fun hn => ?_⟩
  · obtain ⟨s, a, b⟩ := h1 i hi
    exact ⟨s, by omega, (hr i 1 hi (by decide)).trans b⟩
  · obtain ⟨e, s, a, b, c, d⟩ := h2 i hi
    exact ⟨e, s, a, by omega, (hr i 2 (by omega) (by decide)).trans c, (hr (i + 1) 1 hi (by decide)).trans d⟩
  · rcases h3 hn with ⟨a, e, b, c⟩ | ⟨a, b, c⟩
    · exact Or.inl ⟨a, e, by omega, (hr (n - 1) 2 (by omega) (by decide)).trans c⟩
    · exact Or.inr ⟨a, (hr (n - 1) 2 (by omega) (by decide)).trans b, (hr (n - 1) 0 (by omega) (by decide)).trans c⟩
theorem FT_c {A A2 : Nat → Int32} {dd dd2 b : Nat} (h : FT A dd b) (h2 : A2 (b + 2) = A (b + 2)) (h5 : A2 (b + 5) = A (b + 5)) (h6 : A2 (b + 6) = A (b + 6)) (hl : sameA A A2 (b + 8) (b + 57)) (hd : dd ≤ dd2) : FT A2 dd2 b := by
  obtain ⟨n, n8, a6, L, c, m, x, m1, m2, x9, m3, m4⟩ := h
  refine ⟨n, n8, h6.trans a6, ?_, ?_, m, x, m1, m2, x9, (hl _ (by omega) (by omega)).trans m3, (hl _ (by omega) (by omega)).trans m4⟩
  · rw [h2]
    exact FL_c L (fun i j hi hj => hl _ (by omega) (by omega)) hd
  · rw [h2, h5]
    exact c
theorem FP_c {A A2 : Nat → Int32} {B B2 q : Nat} (h : FP A B q) (h0 : A2 (q * 15 + 0) = A (q * 15 + 0)) (h1 : A2 (q * 15 + 1) = A (q * 15 + 1)) (h4 : A2 (q * 15 + 4) = A (q * 15 + 4)) (hB : B ≤ B2) : FP A2 B2 q := by
  obtain ⟨a, ⟨d, b, c⟩, e⟩ := h
  unfold FP
  rw [h0, h1, h4]
  exact ⟨a, ⟨d, by omega, c⟩, e⟩
-- what FA looks at is the same
def sameF (A A2 : Nat → Int32) (np nt : Nat) : Prop := (∀ q f, q < np → (f = 0 ∨ f = 1 ∨ f = 4) → A2 (q * 15 + f) = A (q * 15 + f)) ∧ (∀ t f, t < nt → (f = 2 ∨ f = 5 ∨ f = 6 ∨ (8 ≤ f ∧ f < 57)) → A2 (180 + t * 90 + f) = A (180 + t * 90 + f)) ∧ A2 1082 = A 1082 ∧ A2 1083 = A 1083
theorem FA_c {A A2 : Nat → Int32} {np nt C B B2 : Nat} (h : FA A np nt C B) (hs : sameF A A2 np nt) (hB : B ≤ B2) : FA A2 np nt C B2 := by
  obtain ⟨h1, h2, ⟨dd, d1, d2, d3⟩, h4, h5⟩ := h
  obtain ⟨s1, s2, s3, s4⟩ := hs
  refine ⟨fun q hq => FP_c (h1 q hq) (s1 q 0 hq (Or.inl rfl)) (s1 q 1 hq (Or.inr (Or.inl rfl))) (s1 q 4 hq (Or.inr (Or.inr rfl))) hB, fun q u hq hu => ?_, ⟨dd, by omega, s3.trans d2, fun t ht => FT_c (d3 t ht) (s2 t 2 ht (by omega)) (s2 t 5 ht (by omega)) (s2 t 6 ht (by omega)) (fun k a b => ?_) (Nat.le_refl _)⟩, ?_, ?_⟩
  · rw [s1 q 0 hq (Or.inl rfl), s1 u 0 (by omega) (Or.inl rfl)]
    exact h2 q u hq hu
  · have e := s2 t (k - (180 + t * 90)) ht (by omega)
    rw [show 180 + t * 90 + (k - (180 + t * 90)) = k by omega] at e
    exact e
  · rw [s4]
    exact h4
  · rw [SP_c np (fun q hq => s1 q 1 hq (Or.inr (Or.inl rfl))), SD_c nt (fun t ht => s2 t 5 ht (by omega)), s4]
    exact h5
theorem FA_m {A : Nat → Int32} {np nt C B B2 : Nat} (h : FA A np nt C B) (hB : B ≤ B2) : FA A np nt C B2 := FA_c h ⟨fun _ _ _ _ => rfl, fun _ _ _ _ => rfl, rfl, rfl⟩ hB
-- a tool goes out: its links take one more
theorem FL_push {r : Nat → Nat → Int32} {n dd : Nat} {p : Int32} (H : FL r n dd (-1)) (hp : ¬ p = -1) (hn : n ≤ 8) {r2 : Nat → Nat → Int32} (h2 : ∀ i j, i < pushN n 8 → j < 3 → r2 i j = pushR n 8 r (n3 p (nI dd) (-2)) i j) : FL r2 (pushN n 8) dd p := by
  obtain ⟨h1, h3, h4⟩ := H
  have hN : 1 ≤ pushN n 8 := pushN_pos (by decide)
  -- the last is new, the others old
  have old : ∃ g, ∀ i j, i + 1 < pushN n 8 → j < 3 → i + g < n ∧ r2 i j = r (i + g) j ∧ (i + 1 < pushN n 8 - 1 ↔ i + g + 1 < n) := by
    rcases Nat.lt_or_ge n 8 with c | c
    · refine ⟨0, fun i j hi hj => ?_⟩
      have e : pushN n 8 = n + 1 := if_pos c
      rw [e] at hi
      refine ⟨by omega, ?_, by rw [e]; omega⟩
      rw [h2 i j (by rw [e]; omega) hj]
      unfold pushR
      rw [if_pos c, if_pos (by omega)]
      rfl
    · refine ⟨1, fun i j hi hj => ?_⟩
      have e : pushN n 8 = 8 := if_neg (by omega)
      rw [e] at hi
      refine ⟨by omega, ?_, by rw [e]; omega⟩
      rw [h2 i j (by rw [e]; omega) hj]
      unfold pushR
      rw [if_neg (by omega), if_pos (by omega)]
  obtain ⟨g, old⟩ := old
  have last : ∀ j, j < 3 → r2 (pushN n 8 - 1) j = n3 p (nI dd) (-2) j := fun j hj => by
    rw [h2 _ j (by omega) hj]
    exact pushR_last (by decide)
  refine ⟨fun i hi => ?_, fun i hi => ?_, fun _ => Or.inr ⟨hp, last 2 (by decide), last 0 (by decide)⟩⟩
  · by_cases c : i + 1 < pushN n 8
    · obtain ⟨a, b, -⟩ := old i 1 c (by decide)
      obtain ⟨s, s1, s2⟩ := h1 _ a
      exact ⟨s, s1, b.trans s2⟩
    · rw [show i = pushN n 8 - 1 by omega]
      exact ⟨dd, Nat.le_refl _, last 1 (by decide)⟩
  · obtain ⟨a, b, c⟩ := old i 2 hi (by decide)
    by_cases d : i + 1 + 1 < pushN n 8
    · obtain ⟨a2, b2, -⟩ := old (i + 1) 1 d (by decide)
      obtain ⟨e, s, e1, e2, e3, e4⟩ := h3 (i + g) (c.mp (by omega))
      exact ⟨e, s, e1, e2, b.trans e3, b2.trans (by rw [show i + 1 + g = i + g + 1 by omega]; exact e4)⟩
    · have e9 : i + g = n - 1 := by
        have : ¬ i + g + 1 < n := fun h9 => absurd (c.mpr h9) (by omega)
        omega
      rcases h4 (by omega) with ⟨-, e, e1, e2⟩ | ⟨q, -⟩
      · refine ⟨e, dd, e1, Nat.le_refl _, b.trans (by rw [e9]; exact e2), ?_⟩
        rw [show i + 1 = pushN n 8 - 1 by omega]
        exact last 1 (by decide)
      · exact absurd rfl q
-- a tool comes back: its last link ends today
theorem FL_end {r : Nat → Nat → Int32} {n dd : Nat} {h : Int32} (H : FL r n dd h) (hn : 1 ≤ n) {r2 : Nat → Nat → Int32} (h2 : ∀ i j, i < n → j < 3 → r2 i j = if i = n - 1 ∧ j = 2 then nI dd else r i j) : FL r2 n dd (-1) := by
  obtain ⟨h1, h3, h4⟩ := H
  refine ⟨fun i hi => ?_, fun i hi => ?_, fun _ => Or.inl ⟨rfl, dd, Nat.le_refl _, ?_⟩⟩
  · rw [h2 i 1 hi (by decide), if_neg (by omega)]
    exact h1 i hi
  · rw [h2 i 2 (by omega) (by decide), if_neg (by omega), h2 (i + 1) 1 hi (by decide), if_neg (by omega)]
    exact h3 i hi
  · rw [h2 (n - 1) 2 (by omega) (by decide), if_pos ⟨rfl, rfl⟩]
theorem FA_w {A A2 : Nat → Int32} {np nt C C2 B B2 dd c : Nat} (hF : FA A np nt C B) (hd : dd ≤ 99 * B2) (h82 : A2 1082 = nI dd) (hp : ∀ q, q < np → FP A2 B2 q) (hn : ∀ q, q < np → A2 (q * 15 + 0) = A (q * 15 + 0)) (ht : ∀ t, t < nt → FT A2 dd (180 + t * 90)) (hc : c < 2 ^ 31) (h83 : A2 1083 = nI c) (hs : SP A2 np + SD A2 nt + c = C2) : FA A2 np nt C2 B2 := by
  refine ⟨hp, fun q u hq hu => ?_, ⟨dd, hd, h82, ht⟩, ⟨c, hc, h83⟩, ?_⟩
  · rw [hn q hq, hn u (by omega)]
    exact hF.2.1 q u hq hu
  · rw [h83, cN_n hc]
    exact hs
theorem nI_nm1 {q : Nat} (hq : q < 2 ^ 31) : ¬ nI q = -1 := fun h => absurd (show nI q < 0 by rw [h]; decide) (nI_pos hq)
theorem nI_inj {a b : Nat} (h : nI a = nI b) (ha : a < 2 ^ 31) (hb : b < 2 ^ 31) : a = b := (nI_eq ha hb).mp h
-- the same with its counts
def FF (C B : Nat) (J : zM) : Prop := ∃ np nt, np ≤ 12 ∧ nt ≤ 10 ∧ J 1 1080 = nI np ∧ J 1 1081 = nI nt ∧ FA (J 1) np nt C B
theorem FF_at {I J : zM} {np nt B B0 C : Nat} (hR : RO I 1 (J 1) np nt B0) (hF : FF C B J) : FA (J 1) np nt C B := by
  obtain ⟨np', nt', a1, a2, a3, a4, h⟩ := hF
  have b1 := hR.1.1
  have b2 := hR.1.2.1
  have e1 : np' = np := nI_inj (a3.symm.trans hR.1.2.2.2.1) (by omega) (by omega)
  have e2 : nt' = nt := nI_inj (a4.symm.trans hR.1.2.2.2.2.2.1) (by omega) (by omega)
  rw [← e1, ← e2]
  exact h
theorem FF_of {I J N : zM} {np nt B B0 C : Nat} (hR : RO I 1 (J 1) np nt B0) (h1 : N 1 1080 = J 1 1080) (h2 : N 1 1081 = J 1 1081) (hF : FA (N 1) np nt C B) : FF C B N :=
  ⟨np, nt, hR.1.1, hR.1.2.1, h1.trans hR.1.2.2.2.1, h2.trans hR.1.2.2.2.2.2.1, hF⟩
theorem FF_m {J : zM} {C B B2 : Nat} (h : FF C B J) (hB : B ≤ B2) : FF C B2 J := by
  obtain ⟨np, nt, a1, a2, a3, a4, a5⟩ := h
  exact ⟨np, nt, a1, a2, a3, a4, FA_m a5 hB⟩
-- what FA looks at, and the counts, are the same
def KS (J N : zM) (np nt : Nat) : Prop := sameF (J 1) (N 1) np nt ∧ N 1 1080 = J 1 1080 ∧ N 1 1081 = J 1 1081
theorem KS_r {J : zM} {np nt : Nat} : KS J J np nt := ⟨⟨fun _ _ _ _ => rfl, fun _ _ _ _ => rfl, rfl, rfl⟩, rfl, rfl⟩
theorem KS_e {J N : zM} {np nt : Nat} {v r : Int32} (h : some (v, J) = some (r, N)) : KS J N np nt := by
  obtain ⟨-, rfl⟩ := Prod.mk.inj (Option.some.inj h)
  exact KS_r
theorem KS_1 {J N : zM} {np nt : Nat} (h : N 1 = J 1) : KS J N np nt := by
  unfold KS
  rw [h]
  exact KS_r
theorem KS_t {J N M : zM} {np nt : Nat} (h : KS J N np nt) (h2 : KS N M np nt) : KS J M np nt :=
  ⟨⟨fun q f a b => (h2.1.1 q f a b).trans (h.1.1 q f a b), fun t f a b => (h2.1.2.1 t f a b).trans (h.1.2.1 t f a b), h2.1.2.2.1.trans h.1.2.2.1, h2.1.2.2.2.trans h.1.2.2.2⟩, h2.2.1.trans h.2.1, h2.2.2.trans h.2.2⟩
-- only a person's other numbers, a tool's worth, wear, since, due, how many links, claims, the whys are written
theorem KS_w {J N : zM} {np nt : Nat} (hp : np ≤ 12) (hn : nt ≤ 10) (h : ∀ a, ((∃ q f, q < 12 ∧ f < 15 ∧ (f = 0 ∨ f = 1 ∨ f = 4) ∧ a = q * 15 + f) ∨ (∃ t f, t < 10 ∧ (f = 2 ∨ f = 5 ∨ f = 6 ∨ (8 ≤ f ∧ f < 57)) ∧ a = 180 + t * 90 + f) ∨ (1080 ≤ a ∧ a < 1084)) → N 1 a = J 1 a) : KS J N np nt :=
  ⟨⟨fun q f hq hf => h _ (Or.inl ⟨q, f, by omega, by omega, hf, rfl⟩), fun t f ht hf => h _ (Or.inr (Or.inl ⟨t, f, by omega, hf, rfl⟩)), h _ (Or.inr (Or.inr (by omega))), h _ (Or.inr (Or.inr (by omega)))⟩, h _ (Or.inr (Or.inr (by omega))), h _ (Or.inr (Or.inr (by omega)))⟩
-- only a tool's claims are written
theorem KS_c {J N : zM} {np nt t : Nat} (hp : np ≤ 12) (hn : nt ≤ 10) (ht : t < 10) (h : ∀ a, (a < 180 + t * 90 + 57 ∨ 180 + t * 90 + 90 ≤ a) → N 1 a = J 1 a) : KS J N np nt := KS_w hp hn (fun a ha => h a (by
  rcases ha with ⟨q, f, h1, h2, h3, h4⟩ | ⟨u, f, h1, h2, h3⟩ | h1
  · omega
  · omega
  · omega))
theorem FF_k {I J N : zM} {np nt B B0 C : Nat} (hR : RO I 1 (J 1) np nt B0) (hF : FF C B J) (hk : KS J N np nt) : FF C B N := FF_of hR hk.2.1 hk.2.2 (FA_c (FF_at hR hF) hk.1 (Nat.le_refl _))
