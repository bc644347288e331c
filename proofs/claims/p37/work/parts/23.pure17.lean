/-! PURE 17: who is blamed for a tool; the loop -/
theorem FB_t {I I2 I3 : zM} {h : Nat} (a : FB I I2 h) (b : FB I2 I3 h) : FB I I3 h := fun k h1 h2 h3 => (b k h1 h2 h3).trans (a k h1 h2 h3)
theorem FBJ_t {J J2 J3 : zM} (a : FBJ J J2) (b : FBJ J2 J3) : FBJ J J3 := ⟨fun k h1 h2 => (b.1 k h1 h2).trans (a.1 k h1 h2), fun s h => (b.2 s h).trans (a.2 s h)⟩
-- what the loop asks of the links, in the class and in the reference
def LK (I J : zM) (T b n gone lim : Nat) : Prop := TB I (T + 1) 8 3 n ∧ (∀ i, i < n → ∃ p, p < lim ∧ I (T + 1 + 1) (i * 3 + 0) = nI p ∧ J 1 (b + (8 + 3 * i + 0)) = nI p) ∧ J 1 (b + 7) = nI (gone + n)
theorem l_blame {h T t n gone lim : Nat} (hlim : lim ≤ 12) (ht : t < 10) (hn : n ≤ 8) (hg : gone ≤ 2 ^ 21) (hT1 : T + 1 ≠ h ∧ T + 1 ≠ h + 1 ∧ T + 1 ≠ h + 1 + 1) (hT2 : T + 1 + 1 ≠ h ∧ T + 1 + 1 ≠ h + 1 ∧ T + 1 + 1 ≠ h + 1 + 1) : ∀ (d y fI fJ : Nat) (I J : zM) (P : List Nat), n = y + d → d < fI → d < fJ → LK I J T (180 + t * 90) n gone lim → BL I J h P → (∀ q, q ∈ P → q < lim) → ∃ P2 I2 J2, (∀ q, q ∈ P2 → q < lim) ∧ f_X0_findFor_l66 h T fI I (nI y) = some I2 ∧ f_X9_blames_l69 (nI t) (nI gone) fJ J (nI (gone + y)) = some J2 ∧ BL I2 J2 h P2 ∧ FB I I2 h ∧ FBJ J J2 := by
  have hz := zFu_big
  intro d
  induction d with
  | zero =>
    intro y fI fJ I J P hd hfI hfJ hL hb hPl
    obtain ⟨m, rfl⟩ : ∃ m, fI = m + 1 := ⟨fI - 1, by omega⟩
    obtain ⟨m', rfl⟩ : ∃ m, fJ = m + 1 := ⟨fJ - 1, by omega⟩
    have q7 : f_X9_t J (nI t) 7 = some (nI (gone + n)) := by rw [← hL.2.2]; exact sp_t J (t := t) (f := 7) (by omega)
    rw [f_X0_findFor_l66, f_X9_blames_l69, sp_size hL.1, zb_s, if_pos (nI_le (by omega) (by omega)), q7, zb_s, if_pos (nI_le (by omega) (by omega))]
    exact ⟨P, I, J, hPl, rfl, rfl, hb, fun _ _ _ _ => rfl, fun _ _ _ => rfl, fun _ _ => rfl⟩
  | succ d ih =>
    intro y fI fJ I J P hd hfI hfJ hL hb hPl
    obtain ⟨m, rfl⟩ : ∃ m, fI = m + 1 := ⟨fI - 1, by omega⟩
    obtain ⟨m', rfl⟩ : ∃ m, fJ = m + 1 := ⟨fJ - 1, by omega⟩
    have q7 : f_X9_t J (nI t) 7 = some (nI (gone + n)) := by rw [← hL.2.2]; exact sp_t J (t := t) (f := 7) (by omega)
    obtain ⟨p, hpl, p1, p2⟩ := hL.2.1 y (by omega)
    have hp : p < 12 := by omega
    have c0 := sp_cell hL.1 (i := y) (j := 0) (by omega) (by decide)
    have c0 : f_X4_cell I (T + 1) (nI y) 0 = _ := c0
    rw [p1] at c0
    have e8 : (8 : Int32) + 3 * (nI (gone + y) - nI gone) = nI (8 + 3 * y) := by
      rw [pk_sub (by omega), show gone + y - gone = y by omega, show (3 : Int32) = nI 3 from rfl, show (8 : Int32) = nI 8 from rfl, pk_mul, nI_add]
    have q8 : f_X9_t J (nI t) (nI (8 + 3 * y)) = some (nI p) := by rw [← p2]; exact sp_t J (t := t) (f := 8 + 3 * y) (by omega)
    rw [f_X0_findFor_l66, f_X9_blames_l69, sp_size hL.1, zb_s, if_neg (nI_ge (by omega) (by omega)), q7, zb_s, if_neg (nI_ge (by omega) (by omega)), c0, zb_s, e8, q8, zb_s, nI_1, nI_1]
    have hnew := fun K => l_new (J := J) (P := P) (q := p) hb.2.2.2.1 (fun i q hi => (hb.2.1 i q hi).2) hb.len hb.2.2.2.2.2 hp (nI t) (nI gone) (nI (gone + y)) K P.length 0 zFu (by omega) (by have := hb.len; omega)
    have hnew : ∀ K, f_X9_blames_l104 J (nI t) (nI gone) (nI (gone + y)) (nI p) K zFu 1 0 = K (if p ∈ P then 0 else 1) := hnew
    rw [hnew]
    rcases pr_addOnce hb hp with ⟨hin, ea⟩ | ⟨hin, hlen, M, ea, hb2, hfr⟩
    · rw [ea, zb_s, if_pos hin, if_pos rfl]
      exact ih (y + 1) m m' I J P (by omega) (by omega) (by omega) hL hb hPl
    · have h06 := hb.2.2.2.1
      rw [ea, zb_s, if_neg hin, if_neg one0, zlet_s, h06, zck_t (zin_t (by omega) (by decide)), nI_clamp (by omega), zlet_s, nI_1]
      have hL2 : LK M (ms (ms J 0 6 (nI (P.length + 1))) 5 P.length (nI p)) T (180 + t * 90) n gone lim := by
        refine ⟨TB_c hL.1 (hfr _ hT1.1 hT1.2.1 hT1.2.2), fun i hi => ?_, ?_⟩
        · rw [hfr _ hT2.1 hT2.2.1 hT2.2.2, ms_n (by decide), ms_n (by decide)]
          exact hL.2.1 i hi
        · rw [ms_n (by decide), ms_n (by decide)]
          exact hL.2.2
      obtain ⟨P2, I2, J2, r0, r1, r2, r3, r4, r5⟩ := ih (y + 1) m m' M _ (P ++ [p]) (by omega) (by omega) (by omega) hL2 hb2 (fun q hq => (List.mem_append.mp hq).elim (hPl q) (fun e => by rw [List.mem_singleton.mp e]; exact hpl))
      refine ⟨P2, I2, J2, r0, r1, r2, r3, FB_t hfr r4, FBJ_t ⟨fun a h1 h2 => by rw [ms_n h2, ms_n h1], fun s hs => by rw [ms_n (by decide), ms_sn hs]⟩ r5⟩
theorem pr_blame {I J : zM} {o np nt B t h : Nat} (hB : B ≤ 2 ^ 20) (hR : RO I o (J 1) np nt B) (ht : t < nt) (hM : TM I (h + 1) 12 1) (hh : h = o + 12 ∨ o + 110 ≤ h) : ∃ P I2 J2, (∀ q, q ∈ P → q < np) ∧ f_X0_findFor I h (o + 39 + 7 * t) = some I2 ∧ f_X9_blames J (nI t) = some J2 ∧ BL I2 J2 h P ∧ FB I I2 h ∧ FBJ J J2 := by
  have hz := zFu_big
  have hnp := hR.1.1
  have hnt := hR.1.2.1
  obtain ⟨e, n, m, L, S, ⟨a1, a2, a3, a4, a5, a6, a7, a8⟩, hl, hk, hc⟩ := hR.2.2 t ht
  obtain ⟨k1, k2, k3, k4, l, op, k5, k6, k7, k8, k9⟩ := hk
  have hm6 : m ≤ 6 := k1.2.2.2.1
  have hn8 : n ≤ 8 := hl.1.2.2.2.1
  unfold f_X0_findFor f_X9_blames
  rw [sp_clear, zb_s, zlet_s]
  generalize hI1 : ms (ms I (h + 1) 3 (nI 0)) h 1 0 = I1
  have f1 : FB I I1 h := fun k q1 q2 q3 => by rw [← hI1, ms_n q1, ms_n q2]
  have t3 : TB I1 (o + 39 + 7 * t + 3) 6 4 m := TB_c k1 (f1 _ (by omega) (by omega) (by omega))
  have t1 : TB I1 (o + 39 + 7 * t + 1) 8 3 n := TB_c hl.1 (f1 _ (by omega) (by omega) (by omega))
  have rl : I1 (o + 39 + 7 * t + 3 + 1) ((m - 1) * 4 + 2) = nI l := by rw [f1 _ (by omega) (by omega) (by omega), k4 _ _ (by omega) (by decide), k8]
  have ro : I1 (o + 39 + 7 * t + 3 + 1) ((m - 1) * 4 + 3) = nI op := by rw [f1 _ (by omega) (by omega) (by omega), k4 _ _ (by omega) (by decide), k9]
  have u2 : f_X4_cell I1 (o + 39 + 7 * t + 3) (nI (m - 1)) 2 = some (nI l) := by rw [← rl]; exact sp_cell t3 (i := m - 1) (j := 2) (by omega) (by decide)
  have u3 : f_X4_cell I1 (o + 39 + 7 * t + 3) (nI (m - 1)) 3 = some (nI op) := by rw [← ro]; exact sp_cell t3 (i := m - 1) (j := 3) (by omega) (by decide)
  have em : nI m - 1 = nI (m - 1) := pk_sub (a := m) (b := 1) k2
  have e6 : I1 (o + 39 + 7 * t) 6 = nI e := by rw [f1 _ (by omega) (by omega) (by omega), a5]
  rw [sp_size t3, zb_s, zlet_s, em, u2, zb_s, u3, zb_s, zlet_s, sp_size t1, zb_s, zlet_s, e6, pk_sub k6, pk_sub a8]
  -- the reference
  have w32 : f_X9_t J (nI t) 32 = some (nI m) := by rw [← k3]; exact sp_t J (t := t) (f := 32) (by omega)
  have e33 : (33 : Int32) + 4 * (nI m - 1) = nI (33 + 4 * (m - 1)) := by rw [em, show (4 : Int32) = nI 4 from rfl, show (33 : Int32) = nI 33 from rfl, pk_mul, nI_add]
  have w2 : f_X9_t J (nI t) (nI (33 + 4 * (m - 1)) + 2) = some (nI l) := by
    rw [show nI (33 + 4 * (m - 1)) + 2 = nI (33 + 4 * (m - 1) + 2) from nI_add _ 2, ← k8]
    exact sp_t J (t := t) (f := 33 + 4 * (m - 1) + 2) (by omega)
  have w3 : f_X9_t J (nI t) (nI (33 + 4 * (m - 1)) + 3) = some (nI op) := by
    rw [show nI (33 + 4 * (m - 1)) + 3 = nI (33 + 4 * (m - 1) + 3) from nI_add _ 3, ← k9]
    exact sp_t J (t := t) (f := 33 + 4 * (m - 1) + 3) (by omega)
  have w7 : f_X9_t J (nI t) 7 = some (nI e) := by rw [← a6]; exact sp_t J (t := t) (f := 7) (by omega)
  have w6 : f_X9_t J (nI t) 6 = some (nI n) := by rw [← hl.2.1]; exact sp_t J (t := t) (f := 6) (by omega)
  rw [w32, zb_s, zlet_s, e33, zlet_s, w2, zb_s, w3, zb_s, zlet_s, w7, zb_s, w6, zb_s, zlet_s, zlet_s, pk_sub k6, pk_sub a8]
  unfold f_X9_blames_j67
  have hbl : BL I1 (ms J 0 6 0) h [] := by
    refine ⟨(TM_ms (TM_ms hM (Or.inr (by decide))) (Or.inl (by omega)) : TM (ms (ms I (h + 1) 3 (nI 0)) h 1 0) (h + 1) 12 1).b ?_ (by decide) |> fun z => hI1 ▸ z, fun i q hi => by simp at hi, ?_, ?_, List.nodup_nil, fun q hq => absurd hq List.not_mem_nil⟩
    · rw [ms_n (by omega), ms_ss]
      rfl
    · rw [← hI1, ms_ss]
      rfl
    · rw [ms_ss]
      rfl
  have hL : LK I1 (ms J 0 6 0) (o + 39 + 7 * t) (180 + t * 90) n (e - n) np := by
    refine ⟨t1, fun i hi => ?_, ?_⟩
    · obtain ⟨p, hp, hp2⟩ := hl.2.2.2 i hi
      refine ⟨p, hp, ?_, ?_⟩
      · rw [f1 _ (by omega) (by omega) (by omega), hl.2.2.1 i 0 hi (by decide), hp2]
      · rw [ms_n (by decide), hp2]
    · rw [ms_n (by decide), a6, show e - n + n = e by omega]
  have fin : ∀ y, y ≤ n → ∃ P I2 J2, (∀ q, q ∈ P → q < np) ∧ f_X0_findFor_l66 h (o + 39 + 7 * t) zFu I1 (nI y) = some I2 ∧ f_X9_blames_l69 (nI t) (nI (e - n)) zFu (ms J 0 6 0) (nI (e - n + y)) = some J2 ∧ BL I2 J2 h P ∧ FB I I2 h ∧ FBJ J J2 := by
    intro y hy
    obtain ⟨P, I2, J2, r0, r1, r2, r3, r4, r5⟩ := l_blame (lim := np) hnp (h := h) (T := o + 39 + 7 * t) (t := t) (n := n) (gone := e - n) (by omega) hn8 (by omega) ⟨by omega, by omega, by omega⟩ ⟨by omega, by omega, by omega⟩ (n - y) y zFu zFu I1 (ms J 0 6 0) [] (by omega) (by omega) (by omega) hL hbl (fun q hq => absurd hq List.not_mem_nil)
    exact ⟨P, I2, J2, r0, r1, r2, r3, FB_t f1 r4, FBJ_t ⟨fun a h1 h2 => by rw [ms_n h1], fun s hs => by rw [ms_sn hs]⟩ r5⟩
  by_cases c : e - n ≤ l - op
  · rw [if_pos (nI_le c (by omega)), pk_sub c, if_neg (nI_pos (by omega))]
    by_cases c2 : l - op - (e - n) ≤ n
    · have := fin (l - op - (e - n)) c2
      rw [show e - n + (l - op - (e - n)) = l - op by omega] at this
      exact this
    · omega
  · have hs : nI (l - op) - nI (e - n) < 0 := pk_sneg (by omega) (by omega)
    rw [if_neg (nI_ge (by omega) (by omega)), if_pos hs]
    exact fin 0 (Nat.zero_le _)
