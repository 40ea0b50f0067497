/-! the past: what remember keeps, and what stands between two calls -/
theorem isI_0 : ∀ j, j < 13 → 5 ≤ j → p_isI 0 j = false := by decide +kernel
theorem isI_1 : ∀ j, j < 10 → 1 ≤ j → p_isI 1 j = false := by decide +kernel
theorem Cln_at {sl : pS} {ρ : pR} {rf : pF} (h : Cln (HP sl ρ rf)) {k kd n : Nat} (h1 : 1 ≤ k) (hs : (SH sl)[k]? = some (kd, n)) {j : Nat} (hj : n ≤ j ∨ (kd < 6 ∧ p_isI kd j = false)) : ρ k j = 0 := h k kd n h1 hs j hj
theorem VEq_cells {sl : pS} {ρ ρ' : pR} {rf rf' : pF} {a b : Nat} (hb : StOK sl rf b) (ha : StOK sl rf' a) (hc : Cln (HP sl ρ rf)) (hc' : Cln (HP sl ρ' rf')) (hV : VEq ρ b ρ' a) : Eq3 (vw ρ b) (vw ρ' a) := by
  obtain ⟨v1, v2, v3, v4, v5⟩ := hV
  obtain ⟨-, -, -, -, b1, b10, b2, -, b11, b12⟩ := hb
  obtain ⟨-, -, -, -, a1, a10, a2, -, a11, a12⟩ := ha
  intro k k1 k2
  funext j
  show ρ' (a + k - 2) j = ρ (b + k - 2) j
  rcases (show k = 3 ∨ (4 ≤ k ∧ k ≤ 11) ∨ k = 12 ∨ k = 13 ∨ 14 ≤ k by omega) with rfl | ⟨h1, h2⟩ | rfl | rfl | h1
  · rw [show a + 3 - 2 = a + 1 by omega, show b + 3 - 2 = b + 1 by omega]
    by_cases hj : j < 5
    · exact v1 j hj
    · have hh : 13 ≤ j ∨ (0 < 6 ∧ p_isI 0 j = false) := by
        by_cases g : 13 ≤ j
        · exact Or.inl g
        · exact Or.inr ⟨by decide, isI_0 j (by omega) (by omega)⟩
      rw [Cln_at hc' (by omega) a1 hh, Cln_at hc (by omega) b1 hh]
  · rw [show a + k - 2 = a + (k - 2) by omega, show b + k - 2 = b + (k - 2) by omega]
    by_cases hj : j < 16
    · exact v2 (k - 2) (by omega) (by omega) j hj
    · have e1 := (a2 (k - 4) (by omega)).2
      have e2 := (b2 (k - 4) (by omega)).2
      rw [show a + 2 + (k - 4) = a + (k - 2) by omega] at e1
      rw [show b + 2 + (k - 4) = b + (k - 2) by omega] at e2
      rw [Cln_at hc' (by omega) e1 (Or.inl (by omega)), Cln_at hc (by omega) e2 (Or.inl (by omega))]
  · rw [show a + 12 - 2 = a + 10 by omega, show b + 12 - 2 = b + 10 by omega]
    by_cases hj : j = 0
    · subst hj
      exact v3
    · have hh : 10 ≤ j ∨ (1 < 6 ∧ p_isI 1 j = false) := by
        by_cases g : 10 ≤ j
        · exact Or.inl g
        · exact Or.inr ⟨by decide, isI_1 j (by omega) (by omega)⟩
      rw [Cln_at hc' (by omega) a10 hh, Cln_at hc (by omega) b10 hh]
  · rw [show a + 13 - 2 = a + 11 by omega, show b + 13 - 2 = b + 11 by omega]
    by_cases hj : j < 24
    · exact v4 j hj
    · rw [Cln_at hc' (by omega) a11 (Or.inl (by omega)), Cln_at hc (by omega) b11 (Or.inl (by omega))]
  · rw [show a + k - 2 = a + (k - 2) by omega, show b + k - 2 = b + (k - 2) by omega]
    by_cases hj : j < 6
    · exact v5 (k - 2) (by omega) (by omega) j hj
    · have e1 := a12 (k - 14) (by omega)
      have e2 := b12 (k - 14) (by omega)
      rw [show a + 12 + (k - 14) = a + (k - 2) by omega] at e1
      rw [show b + 12 + (k - 14) = b + (k - 2) by omega] at e2
      rw [Cln_at hc' (by omega) e1 (Or.inl (by omega)), Cln_at hc (by omega) e2 (Or.inl (by omega))]
theorem Eq3.trans {σ σ' σ'' : pR} (h : Eq3 σ σ') (h2 : Eq3 σ' σ'') : Eq3 σ σ'' := fun k k1 k2 => (h2 k k1 k2).trans (h k k1 k2)
theorem Eq3_vw {ρ ρ' : pR} {a : Nat} (ha : 2 ≤ a) (h : ∀ k, a < k → k < a + 20 → ρ' k = ρ k) : Eq3 (vw ρ a) (vw ρ' a) := fun k k1 k2 => h _ (by omega) (by omega)
theorem Eq3_2 {ρ ρ' : pR} (h : ∀ k, 3 ≤ k → k ≤ 21 → ρ' k = ρ k) : Eq3 ρ ρ' := h
def mp (p : Nat) : Nat := if p < 4 then p + 1 else 4
/-- what the state at depth d of the past shows -/
def hL (ρ : pR) (h : Nat → Nat) (p d : Nat) : Int64 := sL (vw ρ (h (p - 1 - d)))
/-- what holds of the board between two calls: h: where the past lies, p: its length -/
def CI (sl : pS) (ρ : pR) (rf : pF) (h : Nat → Nat) (p : Nat) : Prop := RFok rf ∧ StC ρ ∧ Cln (HP sl ρ rf) ∧ HOK rf h ∧ p ≤ 4 ∧ ρ 1 2 = nI p ∧ ∀ i, i < p → StC (vw ρ (h i))
/-- behind a change -/
def Aft (sl : pS) (ρ : pR) (rf : pF) (h : Nat → Nat) (p : Nat) (ρ' : pR) (rf' : pF) (h' : Nat → Nat) : Prop := CI sl ρ' rf' h' (mp p) ∧ hL ρ' h' (mp p) 0 = sL ρ ∧ (∀ d, d + 1 < mp p → hL ρ' h' (mp p) (d + 1) = hL ρ h p d) ∧ (∀ k, 103 ≤ k → ρ' k = ρ k) ∧ (∀ j, j ≠ 2 → ρ' 1 j = ρ 1 j) ∧ (∀ k, k ≠ 22 → rf' k = rf k) ∧ ρ' 0 = ρ 0
section
variable {sl : pS} {ρ : pR} {rf : pF} {h : Nat → Nat} {p : Nat}
theorem rem_ok (hrf : RFok rf) (hh : HOK rf h) (h1 : ρ 1 2 = nI p) (h4 : p ≤ 4) (hc : Cln (HP sl ρ rf)) : ∃ (ρa : pR) (rfa : pF) (ha : Nat → Nat), PC 89 [.ref 1] (HP sl ρ rf) none (HP sl ρa rfa) ∧ RFok rfa ∧ HOK rfa ha ∧ ρa 1 2 = nI (mp p) ∧ (∀ k, k ≠ 1 → ¬ (24 ≤ k ∧ k ≤ 102) → ρa k = ρ k) ∧ (∀ j, j ≠ 2 → ρa 1 j = ρ 1 j) ∧ (∀ k, k ≠ 22 → rfa k = rf k) ∧
    Eq3 ρ (vw ρa (ha (mp p - 1))) ∧ ∀ d, 1 ≤ d → d < mp p → Eq3 (vw ρ (h (p - d))) (vw ρa (ha (mp p - 1 - d))) := by
  have hm := m_remember (sl := sl) hrf hh h1 h4
  have hr : ∀ i, i < 4 → h i = 23 ∨ h i = 43 ∨ h i = 63 ∨ h i = 83 := fun i hi => (hh.1 i hi).2
  have hcm := PC_cln hm hc
  by_cases hp : p < 4
  · rw [if_pos hp] at hm hcm
    have e1 : mp p = p + 1 := if_pos hp
    have hka : ∀ k, k ≠ 1 → ¬ (h p < k ∧ k < h p + 20) → u2 (cpS (h p) 2 ρ) 1 2 (nI (p + 1)) k = ρ k := fun k k1 k2 => by rw [u2_ne k1, cpS_out (by omega)]
    have hp0 := hr p hp
    refine ⟨_, _, h, hm, hrf, hh, by rw [e1, u2_at, up_eq], fun k k1 k2 => hka k k1 (by omega), fun j hj => by rw [u2_at, up_ne hj, cpS_out (by omega)], fun _ _ => rfl, ?_, fun d d1 d2 => ?_⟩
    · rw [e1, Nat.add_sub_cancel]
      have hv := cpS_V (r := ρ) (a := h p) (b := 2) (by omega)
      have hv2 : VEq ρ 2 (u2 (cpS (h p) 2 ρ) 1 2 (nI (p + 1))) (h p) := hv.trans (VEq.of fun k k1 k2 => u2_ne (by omega))
      have := VEq_cells (StOK_2 hrf) (StOK_h hrf hp0) hc hcm hv2
      rw [vw_2] at this
      exact this
    · rw [e1] at d2 ⊢
      rw [show p + 1 - 1 - d = p - d by omega]
      have hd := hh.2 (p - d) p (by omega) hp (by omega)
      have hri := hr (p - d) (by omega)
      exact Eq3_vw (by omega) fun k k1 k2 => hka k (by omega) (by omega)
  · have hp : p = 4 := by omega
    subst hp
    rw [if_neg (by decide)] at hm hcm
    have e1 : mp 4 = 4 := rfl
    have h0 := hr 0 (by decide)
    have hka : ∀ k, k ≠ 1 → ¬ (h 0 < k ∧ k < h 0 + 20) → u2 (cpS (h 0) 2 (u2 ρ 1 2 (nI 3))) 1 2 (nI 4) k = ρ k := fun k k1 k2 => by rw [u2_ne k1, cpS_out (by omega), u2_ne k1]
    refine ⟨_, _, rotH h, hm, rot_RF hrf, rot_H hh, by rw [e1, u2_at, up_eq], fun k k1 k2 => hka k k1 (by omega), fun j hj => by rw [u2_at, up_ne hj, cpS_out (by omega), u2_at, up_ne hj], fun k hk => ?_, ?_, fun d d1 d2 => ?_⟩
    · unfold rot
      rw [q2_ne hk, q2_ne hk, q2_ne hk, q2_ne hk]
    · rw [e1, show rotH h (4 - 1) = h 0 from rfl]
      have hv := cpS_V (r := u2 ρ 1 2 (nI 3)) (a := h 0) (b := 2) (by omega)
      have hv2 : VEq ρ 2 (u2 (cpS (h 0) 2 (u2 ρ 1 2 (nI 3))) 1 2 (nI 4)) (h 0) := (VEq.of (ρ := ρ) (ρ' := u2 ρ 1 2 (nI 3)) (a := 2) fun k k1 k2 => u2_ne (by omega)).trans (hv.trans (VEq.of fun k k1 k2 => u2_ne (by omega)))
      have := VEq_cells (StOK_2 hrf) (StOK_h (rot_RF (h := h) hrf) h0) hc hcm hv2
      rw [vw_2] at this
      exact this
    · rw [e1] at d2 ⊢
      rw [show rotH h (4 - 1 - d) = h (4 - d) by
        show (if 4 - 1 - d = 3 then h 0 else h (4 - 1 - d + 1)) = _
        rw [if_neg (by omega), show 4 - 1 - d + 1 = 4 - d by omega]]
      have hd := hh.2 (4 - d) 0 (by omega) (by decide) (by omega)
      have hri := hr (4 - d) (by omega)
      exact Eq3_vw (by omega) fun k k1 k2 => hka k (by omega) (by omega)
theorem mp_le (p : Nat) : 1 ≤ mp p ∧ mp p ≤ 4 ∧ mp p ≤ p + 1 := by
  unfold mp
  split <;> omega
/-- a change: first the past, then the present state alone -/
theorem rem_step (hC : CI sl ρ rf h p) : ∃ (ρa : pR) (rfa : pF) (ha : Nat → Nat), PC 89 [.ref 1] (HP sl ρ rf) none (HP sl ρa rfa) ∧ RFok rfa ∧ (∀ k, 3 ≤ k → k ≤ 21 → ρa k = ρ k) ∧ StC ρa ∧ (∀ k, 103 ≤ k → ρa k = ρ k) ∧
    ∀ {k : Nat} {args : List Value} {v : Option Value} {ρ' : pR}, PC k args (HP sl ρ rf) v (HP sl ρ' rfa) → (∀ k, ¬ (3 ≤ k ∧ k ≤ 21) → ρ' k = ρa k) → StC ρ' → Aft sl ρ rf h p ρ' rfa ha := by
  obtain ⟨f1, f2, f3, f4, f5, f6, f7⟩ := hC
  obtain ⟨ρa, rfa, ha, g1, g2, g3, g4, g5, g6, g7, g8, g9⟩ := rem_ok (sl := sl) f1 f4 f6 f5 f3
  have hnow : ∀ k, 3 ≤ k → k ≤ 21 → ρa k = ρ k := fun k k1 k2 => g5 k (by omega) (by omega)
  refine ⟨ρa, rfa, ha, g1, g2, hnow, StC_c hnow f2, fun k hk => g5 k (by omega) (by omega), fun {k args v ρ'} hM hk hS => ?_⟩
  obtain ⟨m1, m2, m3⟩ := mp_le p
  have hra : ∀ i, i < 4 → ha i = 23 ∨ ha i = 43 ∨ ha i = 63 ∨ ha i = 83 := fun i hi => (g3.1 i hi).2
  have hvw : ∀ i, i < 4 → Eq3 (vw ρa (ha i)) (vw ρ' (ha i)) := fun i hi => Eq3_vw (by have := hra i hi; omega) fun k k1 k2 => hk k (by have := hra i hi; omega)
  have q0 : Eq3 ρ (vw ρ' (ha (mp p - 1))) := Eq3.trans g8 (hvw _ (by omega))
  have q1 : ∀ d, 1 ≤ d → d < mp p → Eq3 (vw ρ (h (p - d))) (vw ρ' (ha (mp p - 1 - d))) := fun d d1 d2 => Eq3.trans (g9 d d1 d2) (hvw _ (by omega))
  refine ⟨⟨g2, hS, PC_cln hM f3, g3, m2, by rw [hk 1 (by decide)]; exact g4, fun i hi => ?_⟩, ?_, fun d hd => ?_, fun k hk2 => by rw [hk k (by omega), g5 k (by omega) (by omega)], fun j hj => by rw [hk 1 (by decide)]; exact g6 j hj, g7, by rw [hk 0 (by decide), g5 0 (by decide) (by decide)]⟩
  · by_cases e : i = mp p - 1
    · rw [e]
      exact StC_c q0 f2
    · have := q1 (mp p - 1 - i) (by omega) (by omega)
      rw [show mp p - 1 - (mp p - 1 - i) = i by omega] at this
      exact StC_c this (f7 _ (by omega))
  · unfold hL
    rw [Nat.sub_zero]
    exact sL_c q0
  · unfold hL
    rw [show p - 1 - d = p - (d + 1) by omega]
    exact sL_c (q1 (d + 1) (by omega) hd)
end
