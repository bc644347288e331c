/-! PURE 45: a text is done, line by line -/
theorem pk_cases {ty k : Nat} (h : (ty, k) ∈ pkL) : (ty = 99 ∧ k = 4) ∨ (ty = 100 ∧ k = 1) ∨ (ty = 103 ∧ k = 2) ∨ (ty = 107 ∧ k = 1) ∨ (ty = 108 ∧ k = 3) ∨ (ty = 112 ∧ k = 2) ∨ (ty = 114 ∧ k = 1) ∨ (ty = 115 ∧ k = 2) ∨ (ty = 116 ∧ k = 1) ∨ (ty = 117 ∧ k = 2) ∨ (ty = 119 ∧ k = 3) := by
  simp only [pkL, List.mem_cons, Prod.mk.injEq, List.not_mem_nil, or_false] at h
  exact h
theorem zL1 : ∀ q, q < 12 → zLn (1 + 15 + 2 * q + 1) = 10 := by decide +kernel
theorem d_claimT {I J : zM} {B : Nat} (hB : B ≤ 2 ^ 20) (x t u w : Int32) {fJ : Option (Int32 × zM)} (hf : fJ = zb (f_X9_in J u 0 9) (fun q1 => if q1 = 0 then some (-1, J) else zb (f_X9_in J w 1 30) (fun q3 => if q3 = 0 then some (-1, J) else zb (f_X9_claim J x t (100 * u + w)) (fun q5 => some (q5.1, q5.2))))) : Deed2 I J 1 B (f_X2_enterClaim I 1 x t u w) fJ := by
  intro np nt hM hR
  obtain ⟨c1, c2, c3, c4, c5, c6, -⟩ := hR.1
  have hp := pr_isPerson c3 c4 c1 x
  have ht := pr_isTool c5 c6 c2 t
  have hp2 : f_X2_isPerson I 1 x = some 0 ∨ f_X2_isPerson I 1 x = some 1 := hp.elim (fun h => Or.inl h.1) (fun ⟨q, _, _, h, _⟩ => Or.inr h)
  have ht2 : f_X2_isTool I 1 t = some 0 ∨ f_X2_isTool I 1 t = some 1 := ht.elim (fun h => Or.inl h.1) (fun ⟨q, _, _, h, _⟩ => Or.inr h)
  rw [in_e, in_e] at hf
  by_cases a1 : u < 0
  · rw [if_pos a1, zb_s, if_pos rfl] at hf
    exact dd_two (dd_same hM hR (-1) (bad_claim hp2 ht2 (Or.inl a1)) hf)
  · rw [if_neg a1] at hf
    by_cases a2 : u ≤ 9
    · rw [if_pos a2, zb_s, if_neg one0] at hf
      by_cases a3 : w < 1
      · rw [if_pos a3, zb_s, if_pos rfl] at hf
        exact dd_two (dd_same hM hR (-1) (bad_claim hp2 ht2 (Or.inr (Or.inr (Or.inl a3)))) hf)
      · rw [if_neg a3] at hf
        by_cases a4 : w ≤ 30
        · rw [if_pos a4, zb_s, if_neg one0, zb_eta] at hf
          obtain ⟨ur, h1, rfl⟩ := nI_of2 (M := 9) (n := 9) (by decide) a1 a2
          have a5 : ¬ w < 0 := fun h => a3 (Int32.lt_trans h (by decide))
          obtain ⟨dd, h2, rfl⟩ := nI_of2 (M := 30) (n := 30) (by decide) a5 a4
          have h3 : 1 ≤ dd := by
            rcases Nat.eq_zero_or_pos dd with h | h
            · rw [h] at a3
              exact absurd (show nI 0 < 1 by decide) a3
            · exact h
          have e : (100 : Int32) * nI ur + nI dd = nI (100 * ur + dd) := by
            have e1 : (100 : Int32) * nI ur + nI dd = nI 100 * nI ur + nI dd := rfl
            rw [e1, pk_mul, nI_add]
          rw [e] at hf
          rw [hf]
          exact (Deed.two (d_claimN hB x t (by omega) h3 (by omega))) np nt hM hR
        · rw [if_neg a4, zb_s, if_pos rfl] at hf
          exact dd_two (dd_same hM hR (-1) (bad_claim hp2 ht2 (Or.inr (Or.inr (Or.inr a4)))) hf)
    · rw [if_neg a2, zb_s, if_pos rfl] at hf
      exact dd_two (dd_same hM hR (-1) (bad_claim hp2 ht2 (Or.inr (Or.inl (Int32.not_le.mp a2)))) hf)
theorem d_line {M N : zM} {B m i ty : Nat} {vs : List Nat} (hB : B + 1 ≤ 2 ^ 20) (hL : TB M 335 31 5 m) (hi : i < m) (hp : (ty, vs.length) ∈ pkL) (h0 : M 336 (i * 5) = nI ty) (hv : ∀ j v, vs[j]? = some v → M 336 (i * 5 + 1 + j) = nI v) (hN : ∀ j v, vs[j]? = some v → N 17 j = nI v) : Deed2 M N 1 B (f_X8_doLine M 335 (nI i)) (f_X9_does N (nI ty)) ∧ ∀ r, f_X8_doLine M 335 (nI i) = some r → FM 1 110 M r.2 := by
  have e : ∀ j, j < 5 → f_X4_cell M 335 (nI i) (nI j) = some (M 336 (i * 5 + j)) := fun j hj => sp_cell hL hi hj
  have e0 : f_X4_cell M 335 (nI i) 0 = some (M 336 (i * 5 + 0)) := e 0 (by decide)
  have e1 : f_X4_cell M 335 (nI i) 1 = some (M 336 (i * 5 + 1)) := e 1 (by decide)
  have e2 : f_X4_cell M 335 (nI i) 2 = some (M 336 (i * 5 + 2)) := e 2 (by decide)
  have e3 : f_X4_cell M 335 (nI i) 3 = some (M 336 (i * 5 + 3)) := e 3 (by decide)
  have e4 : f_X4_cell M 335 (nI i) 4 = some (M 336 (i * 5 + 4)) := e 4 (by decide)
  have hq : ∀ j, j < vs.length → M 336 (i * 5 + (1 + j)) = N 17 j := fun j hj => by
    have hg : vs[j]? = some vs[j] := List.getElem?_eq_getElem hj
    rw [hN j _ hg, ← hv j _ hg, show i * 5 + (1 + j) = i * 5 + 1 + j by omega]
  have z1 : zK 1 = 2 := by decide +kernel
  have z2 : (1 : Nat) ≤ 1 ∧ 1 + 109 ≤ 110 := by decide
  unfold f_X8_doLine f_X9_does
  rw [e1, e2, e3, e4, e0]
  simp only [zb_s]
  rw [show i * 5 + 0 = i * 5 from rfl, h0]
  rcases pk_cases hp with ⟨rfl, hk⟩ | ⟨rfl, hk⟩ | ⟨rfl, hk⟩ | ⟨rfl, hk⟩ | ⟨rfl, hk⟩ | ⟨rfl, hk⟩ | ⟨rfl, hk⟩ | ⟨rfl, hk⟩ | ⟨rfl, hk⟩ | ⟨rfl, hk⟩ | ⟨rfl, hk⟩
  · have v0 : M 336 (i * 5 + 1) = N 17 0 := hq 0 (by omega)
    have v1 : M 336 (i * 5 + 2) = N 17 1 := hq 1 (by omega)
    have v2 : M 336 (i * 5 + 3) = N 17 2 := hq 2 (by omega)
    have v3 : M 336 (i * 5 + 4) = N 17 3 := hq 3 (by omega)
    rw [if_pos (by rfl), if_pos (by rfl), zb_eta, v0, v1, v2, v3]
    exact ⟨d_claimT (by omega) _ _ _ _ rfl, fun r hr => fm_X2_enterClaim 1 110 z1 z2 hr⟩
  · have v0 : M 336 (i * 5 + 1) = N 17 0 := hq 0 (by omega)
    rw [if_neg (by decide), if_pos (by rfl), if_neg (by decide), if_neg (by decide), if_neg (by decide), if_neg (by decide), if_neg (by decide), if_neg (by decide), if_neg (by decide), if_neg (by decide), if_neg (by decide), if_neg (by decide), zb_eta, zb_eta, v0]
    exact ⟨Deed.two (d_days (by omega) _), fun r hr => fm_X2_passDays 1 110 z1 z2 hr⟩
  · have v0 : M 336 (i * 5 + 1) = N 17 0 := hq 0 (by omega)
    have v1 : M 336 (i * 5 + 2) = N 17 1 := hq 1 (by omega)
    rw [if_neg (by decide), if_neg (by decide), if_pos (by rfl), if_neg (by decide), if_pos (by rfl), zb_eta, zb_eta, v0, v1]
    exact ⟨Deed.two (d_pass (by omega) _ _), fun r hr => fm_X2_passOn 1 110 z1 z2 hr⟩
  · have v0 : M 336 (i * 5 + 1) = N 17 0 := hq 0 (by omega)
    rw [if_neg (by decide), if_neg (by decide), if_neg (by decide), if_pos (by rfl), if_neg (by decide), if_neg (by decide), if_pos (by rfl), zb_eta, zb_eta, v0]
    exact ⟨Deed.two (d_look (by omega) _), fun r hr => fm_X2_lookAt 1 110 z1 z2 hr⟩
  · have v0 : M 336 (i * 5 + 1) = N 17 0 := hq 0 (by omega)
    have v1 : M 336 (i * 5 + 2) = N 17 1 := hq 1 (by omega)
    have v2 : M 336 (i * 5 + 3) = N 17 2 := hq 2 (by omega)
    rw [if_neg (by decide), if_neg (by decide), if_neg (by decide), if_neg (by decide), if_pos (by rfl), if_neg (by decide), if_neg (by decide), if_neg (by decide), if_pos (by rfl), zb_eta, zb_eta, v0, v1, v2]
    exact ⟨Deed.two (d_lease (by omega) _ _ _), fun r hr => fm_X2_leaseTo 1 110 z1 z2 hr⟩
  · have v0 : M 336 (i * 5 + 1) = N 17 0 := hq 0 (by omega)
    have v1 : M 336 (i * 5 + 2) = N 17 1 := hq 1 (by omega)
    rw [if_neg (by decide), if_neg (by decide), if_neg (by decide), if_neg (by decide), if_neg (by decide), if_pos (by rfl), if_neg (by decide), if_neg (by decide), if_neg (by decide), if_neg (by decide), if_pos (by rfl), zb_eta, zb_eta, v0, v1]
    exact ⟨Deed.two (d_person zL1 _ _), fun r hr => fm_X2_enterPerson 1 110 z1 z2 hr⟩
  · have v0 : M 336 (i * 5 + 1) = N 17 0 := hq 0 (by omega)
    rw [if_neg (by decide), if_neg (by decide), if_neg (by decide), if_neg (by decide), if_neg (by decide), if_neg (by decide), if_pos (by rfl), if_neg (by decide), if_neg (by decide), if_neg (by decide), if_neg (by decide), if_neg (by decide), if_pos (by rfl), zb_eta, zb_eta, v0]
    exact ⟨Deed.two (d_returned (by omega) _), fun r hr => fm_X2_giveBack 1 110 z1 z2 hr⟩
  · have v0 : M 336 (i * 5 + 1) = N 17 0 := hq 0 (by omega)
    have v1 : M 336 (i * 5 + 2) = N 17 1 := hq 1 (by omega)
    rw [if_neg (by decide), if_neg (by decide), if_neg (by decide), if_neg (by decide), if_neg (by decide), if_neg (by decide), if_neg (by decide), if_pos (by rfl), if_neg (by decide), if_neg (by decide), if_neg (by decide), if_neg (by decide), if_neg (by decide), if_neg (by decide), if_pos (by rfl), zb_eta, zb_eta, v0, v1]
    exact ⟨d_swap hB _ _, fun r hr => fm_X2_exchange 1 110 z1 z2 hr⟩
  · have v0 : M 336 (i * 5 + 1) = N 17 0 := hq 0 (by omega)
    rw [if_neg (by decide), if_neg (by decide), if_neg (by decide), if_neg (by decide), if_neg (by decide), if_neg (by decide), if_neg (by decide), if_neg (by decide), if_pos (by rfl), if_neg (by decide), if_neg (by decide), if_neg (by decide), if_neg (by decide), if_neg (by decide), if_neg (by decide), if_neg (by decide), if_pos (by rfl), zb_eta, zb_eta, v0]
    exact ⟨Deed.two (d_tool _), fun r hr => fm_X2_enterTool 1 110 z1 z2 hr⟩
  · have v0 : M 336 (i * 5 + 1) = N 17 0 := hq 0 (by omega)
    have v1 : M 336 (i * 5 + 2) = N 17 1 := hq 1 (by omega)
    rw [if_neg (by decide), if_neg (by decide), if_neg (by decide), if_neg (by decide), if_neg (by decide), if_neg (by decide), if_neg (by decide), if_neg (by decide), if_neg (by decide), if_pos (by rfl), if_neg (by decide), if_neg (by decide), if_neg (by decide), if_neg (by decide), if_neg (by decide), if_neg (by decide), if_neg (by decide), if_neg (by decide), if_pos (by rfl), zb_eta, zb_eta, v0, v1]
    exact ⟨Deed.two (d_use _ _), fun r hr => fm_X2_wearDown 1 110 z1 z2 hr⟩
  · have v0 : M 336 (i * 5 + 1) = N 17 0 := hq 0 (by omega)
    have v1 : M 336 (i * 5 + 2) = N 17 1 := hq 1 (by omega)
    have v2 : M 336 (i * 5 + 3) = N 17 2 := hq 2 (by omega)
    rw [if_neg (by decide), if_neg (by decide), if_neg (by decide), if_neg (by decide), if_neg (by decide), if_neg (by decide), if_neg (by decide), if_neg (by decide), if_neg (by decide), if_neg (by decide), if_pos (by rfl), if_neg (by decide), if_neg (by decide), if_neg (by decide), if_neg (by decide), if_neg (by decide), if_neg (by decide), if_neg (by decide), if_neg (by decide), if_neg (by decide), if_pos (by rfl), zb_eta, zb_eta, v0, v1, v2]
    exact ⟨Deed.two (d_wish _ _ _), fun r hr => fm_X2_setWish 1 110 z1 z2 hr⟩
