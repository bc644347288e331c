/-! PURE 16: who is blamed -/
theorem len_lt : ∀ (m : Nat) (P : List Nat), P.Nodup → (∀ x, x ∈ P → x < m) → P.length ≤ m := by
  intro m
  induction m with
  | zero =>
    intro P _ h
    cases P with
    | nil => exact Nat.le_refl _
    | cons a l => exact absurd (h a List.mem_cons_self) (Nat.not_lt_zero a)
  | succ m ih =>
    intro P hn h
    by_cases c : m ∈ P
    · have h1 := List.length_erase_of_mem c
      have h2 := ih (P.erase m) (hn.erase m) (fun x hx => by
        have h3 := (hn.mem_erase_iff).mp hx
        have := h x h3.2
        have := h3.1
        omega)
      omega
    · have h2 := ih P hn (fun x hx => by
        have := h x hx
        have : x ≠ m := fun e => c (e ▸ hx)
        omega)
      omega
theorem or_nI (a b : Nat) : nI a ||| nI b = nI (a ||| b) := by
  apply Int32.toBitVec_inj.mp
  apply BitVec.eq_of_toNat_eq
  show (BitVec.ofNat 32 a ||| BitVec.ofNat 32 b).toNat = (BitVec.ofNat 32 (a ||| b)).toNat
  rw [BitVec.toNat_or, BitVec.toNat_ofNat, BitVec.toNat_ofNat, BitVec.toNat_ofNat, ← Nat.or_mod_two_pow]
theorem sh_one : ∀ q, q < 12 → (1 : Int32) <<< (nI q &&& 31) = nI (2 ^ q) := by decide +kernel
theorem sh_amt : ∀ q, q < 12 → ((nI q &&& 31 : Int32).toBitVec.smod 32).toNat = q := by decide +kernel
def bitN (P : List Nat) : Nat := P.foldl (fun b q => b ||| 2 ^ q) 0
theorem bitN_app (P : List Nat) (q : Nat) : bitN (P ++ [q]) = bitN P ||| 2 ^ q := by
  unfold bitN
  rw [List.foldl_append]
  rfl
theorem bitN_lt (P : List Nat) (h : ∀ x, x ∈ P → x < 12) : bitN P < 2 ^ 12 := by
  unfold bitN
  have : ∀ (P : List Nat) (b : Nat), (∀ x, x ∈ P → x < 12) → b < 2 ^ 12 → P.foldl (fun b q => b ||| 2 ^ q) b < 2 ^ 12 := by
    intro P
    induction P with
    | nil =>
      intro b _ hb
      exact hb
    | cons a l ih =>
      intro b h hb
      exact ih _ (fun x hx => h x (List.mem_cons_of_mem _ hx)) (Nat.or_lt_two_pow hb (Nat.pow_lt_pow_right (by decide) (h a List.mem_cons_self)))
  exact this P 0 h (by decide)
theorem bitN_t (P : List Nat) (q : Nat) : (bitN P).testBit q = decide (q ∈ P) := by
  unfold bitN
  have : ∀ (P : List Nat) (b : Nat), (P.foldl (fun b q => b ||| 2 ^ q) b).testBit q = (b.testBit q || decide (q ∈ P)) := by
    intro P
    induction P with
    | nil =>
      intro b
      simp
    | cons a l ih =>
      intro b
      rw [List.foldl_cons, ih, Nat.testBit_or, Nat.testBit_two_pow]
      by_cases c : a = q
      · subst c
        simp
      · have c2 : q ≠ a := fun e => c e.symm
        simp [c, c2]
  rw [this P 0]
  simp
-- those blamed, on both sides
def BL (I J : zM) (h : Nat) (P : List Nat) : Prop := TB I (h + 1) 12 1 P.length ∧ (∀ i q, P[i]? = some q → I (h + 1 + 1) i = nI q ∧ J 5 i = nI q) ∧ I h 1 = nI (bitN P) ∧ J 0 6 = nI P.length ∧ P.Nodup ∧ ∀ q, q ∈ P → q < 12
theorem BL.len {I J : zM} {h : Nat} {P : List Nat} (b : BL I J h P) : P.length ≤ 12 := len_lt 12 P b.2.2.2.2.1 b.2.2.2.2.2
theorem sp_isBlamed {I : zM} {h q : Nat} {P : List Nat} (hb : I h 1 = nI (bitN P)) (hP : ∀ q, q ∈ P → q < 12) (hq : q < 12) : f_X0_isBlamed I h (nI q) = some (if q ∈ P then 1 else 0) := by
  have hlt := bitN_lt P hP
  have h31 : bitN P / 2 ^ q < 2 ^ 32 := Nat.lt_of_le_of_lt (Nat.div_le_self _ _) (by omega)
  unfold f_X0_isBlamed
  rw [hb, pk_shrN (by omega) _ q (sh_amt q hq), pk_andN h31 1 (by decide)]
  have ht := bitN_t P q
  rw [Nat.testBit_eq_decide_div_mod_eq] at ht
  by_cases c : q ∈ P
  · have e1 : bitN P / 2 ^ q % 2 = 1 := by simpa [c] using ht
    rw [Nat.pow_one, e1, if_pos (show nI 1 = 1 from rfl), if_pos c]
  · have e1 : ¬ bitN P / 2 ^ q % 2 = 1 := by simpa [c] using ht
    have e0 : bitN P / 2 ^ q % 2 = 0 := by omega
    rw [Nat.pow_one, e0, if_neg (by decide), if_neg c]
-- the reference looks whether one is new
theorem l_new {J : zM} {P : List Nat} {q : Nat} (h6 : J 0 6 = nI P.length) (h5 : ∀ i q, P[i]? = some q → J 5 i = nI q) (hlen : P.length ≤ 12) (hP : ∀ q, q ∈ P → q < 12) (hq : q < 12) (x1 y4 y5 : Int32) (K : Int32 → Option zM) : ∀ (d y fuel : Nat), P.length = y + d → d < fuel → f_X9_blames_l104 J x1 y4 y5 (nI q) K fuel (if q ∈ P.take y then 0 else 1) (nI y) = K (if q ∈ P then 0 else 1) := by
  intro d
  induction d with
  | zero =>
    intro y fuel hd hf
    obtain ⟨m, rfl⟩ : ∃ m, fuel = m + 1 := ⟨fuel - 1, by omega⟩
    rw [f_X9_blames_l104, h6, if_pos (nI_le (by omega) (by omega)), List.take_of_length_le (by omega)]
  | succ d ih =>
    intro y fuel hd hf
    obtain ⟨m, rfl⟩ : ∃ m, fuel = m + 1 := ⟨fuel - 1, by omega⟩
    have hy : y < P.length := by omega
    have hp := h5 y P[y] (List.getElem?_eq_getElem hy)
    have hp12 : P[y] < 12 := hP _ (List.getElem_mem hy)
    have ht : P.take (y + 1) = P.take y ++ [P[y]] := (List.take_append_getElem hy).symm
    have ih := ih (y + 1) m (by omega) (by omega)
    rw [ht] at ih
    rw [f_X9_blames_l104, h6, if_neg (nI_ge (by omega) (by omega)), zck_t (zin_t (by omega) (by decide)), nI_clamp (by omega), hp, zlet_s, zlet_s, nI_1]
    by_cases c : P[y] = q
    · rw [if_pos (by rw [c]), ← ih]
      have e1 : q ∈ P.take y ++ [P[y]] := List.mem_append_right _ (by rw [c]; exact List.mem_singleton.mpr rfl)
      rw [if_pos e1]
      by_cases c2 : q ∈ P.take y
      · rw [if_pos c2]
        rfl
      · rw [if_neg c2]
        rfl
    · have hne : ¬ nI P[y] = nI q := fun e => c ((nI_eq (by omega) (by omega)).mp e)
      rw [if_neg hne, ← ih]
      by_cases c2 : q ∈ P.take y
      · rw [if_pos c2, if_pos (List.mem_append_left _ c2)]
        rfl
      · have e1 : ¬ q ∈ P.take y ++ [P[y]] := fun e => (List.mem_append.mp e).elim c2 (fun e => c (List.mem_singleton.mp e).symm)
        rw [if_neg c2, if_neg e1]
        rfl
def FB (I I2 : zM) (h : Nat) : Prop := ∀ k, k ≠ h → k ≠ h + 1 → k ≠ h + 1 + 1 → I2 k = I k
def FBJ (J J2 : zM) : Prop := (∀ a, a ≠ 0 → a ≠ 5 → J2 a = J a) ∧ ∀ s, s ≠ 6 → J2 0 s = J 0 s
theorem pr_addOnce {I J : zM} {h q : Nat} {P : List Nat} (hb : BL I J h P) (hq : q < 12) : (q ∈ P ∧ f_X0_addOnce I h (nI q) = some I) ∨ (q ∉ P ∧ P.length < 12 ∧ ∃ M, f_X0_addOnce I h (nI q) = some M ∧ BL M (ms (ms J 0 6 (nI (P.length + 1))) 5 P.length (nI q)) h (P ++ [q]) ∧ FB I M h) := by
  have hlen := hb.len
  obtain ⟨b1, b2, b3, b4, b5, b6⟩ := hb
  unfold f_X0_addOnce
  rw [sp_isBlamed b3 b6 hq, zb_s]
  by_cases c : q ∈ P
  · rw [if_pos c, if_neg one0]
    exact Or.inl ⟨c, rfl⟩
  · right
    have hn : (P ++ [q]).Nodup := by
      rw [List.nodup_append]
      refine ⟨b5, List.nodup_cons.mpr ⟨List.not_mem_nil, List.nodup_nil⟩, fun a ha b hb => ?_⟩
      intro e
      rw [List.mem_singleton.mp hb] at e
      exact c (e ▸ ha)
    have hall : ∀ x, x ∈ P ++ [q] → x < 12 := fun x hx => (List.mem_append.mp hx).elim (b6 x) (fun e => by rw [List.mem_singleton.mp e]; exact hq)
    have hl2 := len_lt 12 _ hn hall
    rw [List.length_append, List.length_singleton] at hl2
    rw [if_neg c, if_pos rfl, zlet_s, b3, sh_one q hq, or_nI, ← bitN_app]
    have hT : TB (ms I h 1 (nI (bitN (P ++ [q])))) (h + 1) 12 1 P.length := TB_c b1 (ms_n (by omega))
    have ha := sp_append_lt hT (by omega)
    rw [Nat.mul_one, Nat.mul_one] at ha
    obtain ⟨M, e1, hTB, hfr, hrow⟩ := sp_append hT (by decide)
    have hP1 : pushN P.length 12 = P.length + 1 := by
      unfold pushN
      rw [if_pos (by omega)]
    rw [hP1, Nat.add_sub_cancel] at e1
    rw [hP1] at hTB hrow
    rw [e1, zb_s]
    have s0 := sp_setCell hTB (i := P.length) (j := 0) (by omega) (by decide) (nI q)
    have s0 : f_X4_setCell M (h + 1) (nI P.length) 0 (nI q) = _ := s0
    rw [s0, zb_s]
    refine ⟨c, by omega, _, rfl, ⟨?_, fun i x hi => ?_, ?_, ?_, hn, hall⟩, fun k h1 h2 h3 => ?_⟩
    · rw [List.length_append, List.length_singleton]
      exact TB_c hTB (ms_n (by omega))
    · rw [ms_at, ms_at]
      by_cases ci : i = P.length
      · subst ci
        rw [List.getElem?_append_right (Nat.le_refl _), Nat.sub_self] at hi
        have hx : q = x := by simpa using hi
        subst hx
        rw [if_pos (by omega), if_pos rfl]
        exact ⟨rfl, rfl⟩
      · have hi2 : i < P.length := by
          have := (List.getElem?_eq_some_iff.mp hi).1
          rw [List.length_append, List.length_singleton] at this
          omega
        rw [List.getElem?_append_left hi2] at hi
        rw [if_neg (by omega), if_neg ci, ms_n (by decide)]
        obtain ⟨y1, y2⟩ := b2 i x hi
        refine ⟨?_, y2⟩
        have hr := hrow i 0 (by omega) (by decide)
        have ei : i * 1 + 0 = i := by omega
        rw [ei] at hr
        rw [hr]
        unfold pushR
        rw [if_pos (by omega), if_pos hi2]
        show ms I h 1 _ (h + 1 + 1) (i * 1 + 0) = nI x
        rw [ei, ms_n (by omega), y1]
    · rw [ms_n (by omega), hfr h (by omega) (by omega), ms_ss]
    · rw [ms_n (by decide), ms_ss, List.length_append, List.length_singleton]
    · rw [ms_n h3, hfr k h2 h3, ms_n h1]
