/-! PURE 4: what holds between an office of the class, at cell o, and a row A of the reference -/
-- the measures of an office's tables
def MT (I : zM) (o : Nat) : Prop := (∀ t, t < 10 → TM I (o + 39 + 7 * t + 1) 8 3 ∧ TM I (o + 39 + 7 * t + 3) 6 4 ∧ TM I (o + 39 + 7 * t + 5) 8 4) ∧ TM I (o + 13) 12 1
-- a person: 5 numbers and 10 wishes; trust from 0 to 99; no wish for a tool that isn't there
def RP (I : zM) (o : Nat) (A : Nat → Int32) (nt q : Nat) : Prop := (∀ f, f < 5 → I (o + 15 + 2 * q) f = A (q * 15 + f)) ∧ (∀ j, j < 10 → I (o + 15 + 2 * q + 1) j = A (q * 15 + (5 + j))) ∧ (∀ j, j < 10 → ∃ w, w ≤ 9 ∧ (nt ≤ j → w = 0) ∧ A (q * 15 + (5 + j)) = nI w) ∧ ∃ k, k ≤ 99 ∧ A (q * 15 + 2) = nI k
-- a tool's own numbers; e links ever, n of them kept
def RTa (I : zM) (T : Nat) (A : Nat → Int32) (b np B e n : Nat) : Prop := (I T 0 = A (b + 0) ∧ ∃ k, 1 ≤ k ∧ k ≤ 99 ∧ A (b + 0) = nI k) ∧ (I T 1 = A (b + 1) ∧ ∃ k, k ≤ 9 ∧ A (b + 1) = nI k) ∧ ((I T 2 = -2 ∧ A (b + 2) = -1 ∧ I T 3 = -2 ∧ I T 4 = -2 ∧ A (b + 5) = nI 0) ∨ (∃ p d, p < np ∧ I T 2 = nI p ∧ A (b + 2) = nI p ∧ I T 3 = A (b + 3) ∧ I T 4 = nI d ∧ A (b + 4) = nI d ∧ d ≤ 99 * B + 30 ∧ 1 ≤ n)) ∧ (I T 5 = A (b + 5) ∧ ∃ k, k ≤ 99 ∧ A (b + 5) = nI k) ∧ I T 6 = nI e ∧ A (b + 7) = nI e ∧ e ≤ B ∧ n ≤ e
-- its n links
def RTl (I : zM) (T : Nat) (A : Nat → Int32) (b np n : Nat) : Prop := TB I (T + 1) 8 3 n ∧ A (b + 6) = nI n ∧ (∀ i j, i < n → j < 3 → I (T + 1 + 1) (i * 3 + j) = A (b + (8 + 3 * i + j))) ∧ ∀ i, i < n → ∃ p, p < np ∧ A (b + (8 + 3 * i + 0)) = nI p
-- its m looks
def RTk (I : zM) (T : Nat) (A : Nat → Int32) (b e m : Nat) : Prop := TB I (T + 3) 6 4 m ∧ 1 ≤ m ∧ A (b + 32) = nI m ∧ (∀ i j, i < m → j < 4 → I (T + 3 + 1) (i * 4 + j) = A (b + (33 + 4 * i + j))) ∧ ∃ l op, op ≤ 1 ∧ op ≤ l ∧ l ≤ e ∧ A (b + (33 + 4 * (m - 1) + 2)) = nI l ∧ A (b + (33 + 4 * (m - 1) + 3)) = nI op
-- a claim: person, urgency, days, day
abbrev zCl := Nat × Nat × Nat × Nat
def clGo (a b : zCl) : Bool := decide (b.2.1 < a.2.1) || (decide (a.2.1 = b.2.1) && (decide (a.2.2.2 < b.2.2.2) || (decide (a.2.2.2 = b.2.2.2) && decide (a.1 < b.1))))
def clAt (f : Nat → Int32) (c : zCl) : Prop := f 0 = nI c.1 ∧ f 1 = nI c.2.1 ∧ f 2 = nI c.2.2.1 ∧ f 3 = nI c.2.2.2
def clOk (np B : Nat) (c : zCl) : Prop := c.1 < np ∧ c.2.1 ≤ 9 ∧ 1 ≤ c.2.2.1 ∧ c.2.2.1 ≤ 30 ∧ c.2.2.2 ≤ 99 * B
-- its claims: L as the class has them, in order; S as the reference has them
def RTc (I : zM) (T : Nat) (A : Nat → Int32) (b np B : Nat) (L S : List zCl) : Prop := TB I (T + 5) 8 4 L.length ∧ A (b + 57) = nI L.length ∧ (∀ i c, L[i]? = some c → clAt (fun j => I (T + 5 + 1) (i * 4 + j)) c) ∧ (∀ i c, S[i]? = some c → clAt (fun j => A (b + (58 + 4 * i + j))) c) ∧ L.Perm S ∧ L.Pairwise (fun a b => clGo a b = true) ∧ (∀ c, c ∈ L → clOk np B c) ∧ (L.map (·.1)).Nodup
def RT (I : zM) (o : Nat) (A : Nat → Int32) (np B t : Nat) : Prop := ∃ e n m L S, RTa I (o + 39 + 7 * t) A (180 + t * 90) np B e n ∧ RTl I (o + 39 + 7 * t) A (180 + t * 90) np n ∧ RTk I (o + 39 + 7 * t) A (180 + t * 90) e m ∧ RTc I (o + 39 + 7 * t) A (180 + t * 90) np B L S
-- why the latest was refused
def RW (x y : Int32) (A : Nat → Int32) : Prop := (A 1084 = nI 0 ∧ x = 0 ∧ y = 0) ∨ (A 1084 = nI 1 ∧ x = A 1085 ∧ x ≠ 0 ∧ y = 0) ∨ (A 1084 = nI 2 ∧ x = A 1085 ∧ x ≠ 0 ∧ y = A 1086 ∧ y ≠ 0)
-- the counts, the day, the till, the whys
def RC (I : zM) (o : Nat) (A : Nat → Int32) (np nt B : Nat) : Prop := np ≤ 12 ∧ nt ≤ 10 ∧ I o 5 = nI np ∧ A 1080 = nI np ∧ I o 6 = nI nt ∧ A 1081 = nI nt ∧ (∃ d, d ≤ 99 * B ∧ I o 7 = nI d ∧ A 1082 = nI d) ∧ I o 8 = A 1083 ∧ RW (I o 9) (I o 10) A
def RO (I : zM) (o : Nat) (A : Nat → Int32) (np nt B : Nat) : Prop := RC I o A np nt B ∧ (∀ q, q < np → RP I o A nt q) ∧ ∀ t, t < nt → RT I o A np B t
-- frames
def sameI (I I2 : zM) (lo hi : Nat) : Prop := ∀ k, lo ≤ k → k < hi → I2 k = I k
def sameA (A A2 : Nat → Int32) (lo hi : Nat) : Prop := ∀ k, lo ≤ k → k < hi → A2 k = A k
theorem RP_c {I I2 : zM} {o : Nat} {A A2 : Nat → Int32} {nt q : Nat} (h : RP I o A nt q) (hI : sameI I I2 (o + 15 + 2 * q) (o + 15 + 2 * q + 2)) (hA : sameA A A2 (q * 15) (q * 15 + 15)) : RP I2 o A2 nt q := by
  obtain ⟨h1, h2, h3, k, hk, h4⟩ := h
  refine ⟨fun f hf => ?_, fun j hj => ?_, fun j hj => ?_, k, hk, ?_⟩
  · rw [hI _ (by omega) (by omega), hA _ (by omega) (by omega)]
    exact h1 f hf
  · rw [hI _ (by omega) (by omega), hA _ (by omega) (by omega)]
    exact h2 j hj
  · rw [hA _ (by omega) (by omega)]
    exact h3 j hj
  · rw [hA _ (by omega) (by omega)]
    exact h4
theorem RTa_c {I I2 : zM} {T b np B e n : Nat} {A A2 : Nat → Int32} (h : RTa I T A b np B e n) (hI : I2 T = I T) (hA : sameA A A2 b (b + 8)) : RTa I2 T A2 b np B e n := by
  unfold RTa at *
  rw [hI, hA (b + 0) (by omega) (by omega), hA (b + 1) (by omega) (by omega), hA (b + 2) (by omega) (by omega), hA (b + 3) (by omega) (by omega), hA (b + 4) (by omega) (by omega), hA (b + 5) (by omega) (by omega), hA (b + 7) (by omega) (by omega)]
  exact h
theorem TB_c {I I2 : zM} {h R w n : Nat} (hT : TB I h R w n) (hI : I2 h = I h) : TB I2 h R w n := by
  unfold TB at *
  rw [hI]
  exact hT
theorem TM_c {I I2 : zM} {h R w : Nat} (hT : TM I h R w) (hI : I2 h = I h) : TM I2 h R w := by
  unfold TM at *
  rw [hI]
  exact hT
theorem RTl_c {I I2 : zM} {T b np n : Nat} {A A2 : Nat → Int32} (h : RTl I T A b np n) (hI : I2 (T + 1) = I (T + 1)) (hI2 : I2 (T + 1 + 1) = I (T + 1 + 1)) (hA6 : A2 (b + 6) = A (b + 6)) (hA : sameA A A2 (b + 8) (b + 32)) : RTl I2 T A2 b np n := by
  obtain ⟨h1, h2, h3, h4⟩ := h
  have hn := h1.2.2.2.1
  refine ⟨TB_c h1 hI, by rw [hA6]; exact h2, fun i j hi hj => ?_, fun i hi => ?_⟩
  · rw [hI2, hA _ (by omega) (by omega)]
    exact h3 i j hi hj
  · rw [hA _ (by omega) (by omega)]
    exact h4 i hi
theorem RTk_c {I I2 : zM} {T b e m : Nat} {A A2 : Nat → Int32} (h : RTk I T A b e m) (hI : I2 (T + 3) = I (T + 3)) (hI2 : I2 (T + 3 + 1) = I (T + 3 + 1)) (hA : sameA A A2 (b + 32) (b + 57)) : RTk I2 T A2 b e m := by
  obtain ⟨h1, h2, h3, h4, l, op, h5, h6, h7, h8, h9⟩ := h
  have hn := h1.2.2.2.1
  refine ⟨TB_c h1 hI, h2, by rw [hA _ (by omega) (by omega)]; exact h3, fun i j hi hj => ?_, l, op, h5, h6, h7, ?_, ?_⟩
  · rw [hI2, hA _ (by omega) (by omega)]
    exact h4 i j hi hj
  · rw [hA _ (by omega) (by omega)]
    exact h8
  · rw [hA _ (by omega) (by omega)]
    exact h9
theorem clAt_c {f g : Nat → Int32} {c : zCl} (h : clAt f c) (e : ∀ j, j < 4 → g j = f j) : clAt g c := by
  unfold clAt at *
  rw [e 0 (by decide), e 1 (by decide), e 2 (by decide), e 3 (by decide)]
  exact h
theorem RTc_c {I I2 : zM} {T b np B : Nat} {A A2 : Nat → Int32} {L S : List zCl} (h : RTc I T A b np B L S) (hI : I2 (T + 5) = I (T + 5)) (hI2 : I2 (T + 5 + 1) = I (T + 5 + 1)) (hA : sameA A A2 (b + 57) (b + 90)) : RTc I2 T A2 b np B L S := by
  obtain ⟨h1, h2, h3, h4, h5, h6, h7, h8⟩ := h
  have hn := h1.2.2.2.1
  refine ⟨TB_c h1 hI, by rw [hA _ (by omega) (by omega)]; exact h2, fun i c hi => ?_, fun i c hi => ?_, h5, h6, h7, h8⟩
  · refine clAt_c (h3 i c hi) (fun j hj => ?_)
    show I2 (T + 5 + 1) _ = _
    rw [hI2]
  · have hl : i < S.length := (List.getElem?_eq_some_iff.mp hi).1
    have hp := h5.length_eq
    refine clAt_c (h4 i c hi) (fun j hj => hA _ (by omega) (by omega))
theorem RT_c {I I2 : zM} {o np B t : Nat} {A A2 : Nat → Int32} (h : RT I o A np B t) (hI : sameI I I2 (o + 39 + 7 * t) (o + 39 + 7 * t + 7)) (hA : sameA A A2 (180 + t * 90) (180 + t * 90 + 90)) : RT I2 o A2 np B t := by
  obtain ⟨e, n, m, L, S, h1, h2, h3, h4⟩ := h
  refine ⟨e, n, m, L, S, RTa_c h1 (hI _ (by omega) (by omega)) (fun k a b => hA k (by omega) (by omega)), RTl_c h2 (hI _ (by omega) (by omega)) (hI _ (by omega) (by omega)) (hA _ (by omega) (by omega)) (fun k a b => hA k (by omega) (by omega)), RTk_c h3 (hI _ (by omega) (by omega)) (hI _ (by omega) (by omega)) (fun k a b => hA k (by omega) (by omega)), RTc_c h4 (hI _ (by omega) (by omega)) (hI _ (by omega) (by omega)) (fun k a b => hA k (by omega) (by omega))⟩
theorem RC_c {I I2 : zM} {o np nt B : Nat} {A A2 : Nat → Int32} (h : RC I o A np nt B) (hI : I2 o = I o) (hA : sameA A A2 1080 1087) : RC I2 o A2 np nt B := by
  unfold RC RW at *
  rw [hI, hA 1080 (by omega) (by omega), hA 1081 (by omega) (by omega), hA 1082 (by omega) (by omega), hA 1083 (by omega) (by omega), hA 1084 (by omega) (by omega), hA 1085 (by omega) (by omega), hA 1086 (by omega) (by omega)]
  exact h
theorem RO_c {I I2 : zM} {o np nt B : Nat} {A A2 : Nat → Int32} (h : RO I o A np nt B) (hI : sameI I I2 o (o + 109)) (hA : sameA A A2 0 1087) : RO I2 o A2 np nt B := by
  obtain ⟨hc, hp, ht⟩ := h
  have h1 := hc.1
  have h2 := hc.2.1
  refine ⟨RC_c hc (hI o (by omega) (by omega)) (fun k a b => hA k (by omega) (by omega)), fun q hq => RP_c (hp q hq) (fun k a b => hI k (by omega) (by omega)) (fun k a b => hA k (by omega) (by omega)), fun t hq => RT_c (ht t hq) (fun k a b => hI k (by omega) (by omega)) (fun k a b => hA k (by omega) (by omega))⟩
-- one tool is written
theorem RO_t {I I2 : zM} {o np nt B t : Nat} {A A2 : Nat → Int32} (h : RO I o A np nt B) (h1 : sameI I I2 o (o + 39 + 7 * t)) (h2 : sameI I I2 (o + 39 + 7 * t + 7) (o + 109)) (h3 : sameA A A2 0 (180 + t * 90)) (h4 : sameA A A2 (180 + t * 90 + 90) 1087) (ht : t < nt) (hR : RT I2 o A2 np B t) : RO I2 o A2 np nt B := by
  obtain ⟨hc, hp, hT⟩ := h
  have hnp := hc.1
  have hnt := hc.2.1
  refine ⟨RC_c hc (h1 o (by omega) (by omega)) (fun k a b => h4 k (by omega) (by omega)), fun q hq => RP_c (hp q hq) (fun k a b => h1 k (by omega) (by omega)) (fun k a b => h3 k (by omega) (by omega)), fun u hu => ?_⟩
  rcases Nat.lt_trichotomy u t with c | c | c
  · exact RT_c (hT u hu) (fun k a b => h1 k (by omega) (by omega)) (fun k a b => h3 k (by omega) (by omega))
  · rw [c]
    exact hR
  · exact RT_c (hT u hu) (fun k a b => h2 k (by omega) (by omega)) (fun k a b => h4 k (by omega) (by omega))
-- one person is written
theorem RO_p {I I2 : zM} {o np nt B q : Nat} {A A2 : Nat → Int32} (h : RO I o A np nt B) (h1 : sameI I I2 o (o + 15 + 2 * q)) (h2 : sameI I I2 (o + 15 + 2 * q + 2) (o + 109)) (h3 : sameA A A2 0 (q * 15)) (h4 : sameA A A2 (q * 15 + 15) 1087) (hq : q < np) (hR : RP I2 o A2 nt q) : RO I2 o A2 np nt B := by
  obtain ⟨hc, hp, hT⟩ := h
  have hnp := hc.1
  have hnt := hc.2.1
  refine ⟨RC_c hc (h1 o (by omega) (by omega)) (fun k a b => h4 k (by omega) (by omega)), fun u hu => ?_, fun t ht => RT_c (hT t ht) (fun k a b => h2 k (by omega) (by omega)) (fun k a b => h4 k (by omega) (by omega))⟩
  rcases Nat.lt_trichotomy u q with c | c | c
  · exact RP_c (hp u hu) (fun k a b => h1 k (by omega) (by omega)) (fun k a b => h3 k (by omega) (by omega))
  · rw [c]
    exact hR
  · exact RP_c (hp u hu) (fun k a b => h2 k (by omega) (by omega)) (fun k a b => h4 k (by omega) (by omega))
-- the office's own numbers are written
theorem RO_o {I I2 : zM} {o np nt B : Nat} {A A2 : Nat → Int32} (h : RO I o A np nt B) (h1 : sameI I I2 (o + 15) (o + 109)) (h3 : sameA A A2 0 1080) (hR : RC I2 o A2 np nt B) : RO I2 o A2 np nt B := by
  obtain ⟨hc, hp, hT⟩ := h
  have hnp := hc.1
  have hnt := hc.2.1
  exact ⟨hR, fun q hq => RP_c (hp q hq) (fun k a b => h1 k (by omega) (by omega)) (fun k a b => h3 k (by omega) (by omega)), fun t ht => RT_c (hT t ht) (fun k a b => h1 k (by omega) (by omega)) (fun k a b => h3 k (by omega) (by omega))⟩
-- more time: a higher bound
theorem RTa_m {I : zM} {T b np np2 B B2 e n : Nat} {A : Nat → Int32} (h : RTa I T A b np B e n) (hB : B ≤ B2) (hp : np ≤ np2) : RTa I T A b np2 B2 e n := by
  obtain ⟨h1, h2, h3, h4, h5, h6, h7, h8⟩ := h
  refine ⟨h1, h2, ?_, h4, h5, h6, by omega, h8⟩
  rcases h3 with h3 | ⟨p, d, a1, a2, a3, a4, a5, a6, a7, a8⟩
  · exact Or.inl h3
  · exact Or.inr ⟨p, d, by omega, a2, a3, a4, a5, a6, by omega, a8⟩
theorem RT_m {I : zM} {o np np2 B B2 t : Nat} {A : Nat → Int32} (h : RT I o A np B t) (hB : B ≤ B2) (hp : np ≤ np2) : RT I o A np2 B2 t := by
  obtain ⟨e, n, m, L, S, h1, h2, h3, h4⟩ := h
  refine ⟨e, n, m, L, S, RTa_m h1 hB hp, ⟨h2.1, h2.2.1, h2.2.2.1, fun i hi => ?_⟩, h3, ⟨h4.1, h4.2.1, h4.2.2.1, h4.2.2.2.1, h4.2.2.2.2.1, h4.2.2.2.2.2.1, fun c hc => ?_, h4.2.2.2.2.2.2.2⟩⟩
  · obtain ⟨p, a, b⟩ := h2.2.2.2 i hi
    exact ⟨p, by omega, b⟩
  · obtain ⟨a1, a2, a3, a4, a5⟩ := h4.2.2.2.2.2.2.1 c hc
    exact ⟨by omega, a2, a3, a4, by omega⟩
theorem RO_m {I : zM} {o np nt B B2 : Nat} {A : Nat → Int32} (h : RO I o A np nt B) (hB : B ≤ B2) : RO I o A np nt B2 := by
  obtain ⟨hc, hp, hT⟩ := h
  obtain ⟨c1, c2, c3, c4, c5, c6, ⟨d, d1, d2⟩, c8⟩ := hc
  exact ⟨⟨c1, c2, c3, c4, c5, c6, ⟨d, by omega, d2⟩, c8⟩, hp, fun t ht => RT_m (hT t ht) hB (Nat.le_refl _)⟩
