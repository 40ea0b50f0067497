/-! one call in both: fault, read -/
section
variable {sl : Nat} {s : Nat → Int32} {ρ ρ' ρ0 σ : pR} {rf : pF} {T : Nat → Nat} {l n a : Nat} {rc : Nat → Nat}
theorem FI_md (hF : FI s ρ rf) (hm : Md ρ ρ') : FI s ρ' rf := by
  obtain ⟨f1, f2, f3, ⟨h, p, f4⟩, f5, f6⟩ := hF
  have k : ∀ k, k ≠ 146 → k ≠ 152 → ρ' k = ρ k := hm.1
  refine ⟨f1, by rw [k 0 (by decide) (by decide)]; exact f2, ?_, ⟨h, p, HI_f (by rw [k 1 (by decide) (by decide)]) (hm.2 2 (by decide)) (k 148 (by decide) (by decide)) (fun i k1 k2 => k i (by omega) (by omega)) f4⟩, SI_f (by rw [k 1 (by decide) (by decide)]) (k 150 (by decide) (by decide)) (k 149 (by decide) (by decide)) (fun i k1 k2 => k i (by omega) (by omega)) f5, TI_f (k 144 (by decide) (by decide)) (k 145 (by decide) (by decide)) (hm.2 6 (by decide)) (k 151 (by decide) (by decide)) f6⟩
  rw [k 147 (by decide) (by decide)]
  exact StR_V (VEq_k fun i k1 k2 => k i (by omega) (by omega)) (fun _ _ => rfl) f3
theorem x_fault_bad (x : Int32) (h : inR 2 x = false) : PC 167 [.ref 146, .int x] (HP sl ρ rf) (some (.int (-1))) (HP sl ρ rf) := by
  refine PC_of (cd := p_c_X5_fault) (L0 := [some (.ref 146), some (.int x), none]) rfl rfl ?_
  refine R_ld1 rfl ?_
  refine R_c0 rfl (x_isTwo _) rfl rfl rfl ?_
  refine BB_ne rfl (fun g2 => ?_) (fun g2 => ?_)
  · revert h; simp_all
  · refine R_i rfl ?_
    exact R_iret rfl (rfl)

theorem x_fault_00 (hrf : RFok rf) (hpc : PC 166 [.ref 146] (HP sl ρ rf) (some (.int (nI 0))) (HP sl ρ' rf)) : PC 167 [.ref 146, .int (nI 0)] (HP sl ρ rf) (some (.int (-4))) (HP sl ρ' rf) := by
  refine PC_of (cd := p_c_X5_fault) (L0 := [some (.ref 146), some (.int (nI 0)), none]) rfl rfl ?_
  refine R_ld1 rfl ?_
  refine R_c0 rfl (x_isTwo _) rfl rfl rfl ?_
  refine BB_neT rfl (by first | decide | rfl) ?_
  refine R_la0 rfl ?_
  refine R_c1 rfl (hpc) rfl rfl rfl sh_146 rfl rfl ?_
  refine R_st2 rfl ?_
  refine R_ld2 rfl ?_
  refine B1_neF rfl (rfl) ?_
  refine R_i rfl ?_
  refine R_goto rfl ?_
  exact R_iret rfl (rfl)

theorem x_fault_01 (hrf : RFok rf) {q : Nat} {p : Nat} (hq : 0 < q) (hq4 : q < 2 ^ 31) (hp : ρ' 146 12 = nI p) (hpc : PC 166 [.ref 146] (HP sl ρ rf) (some (.int (nI q))) (HP sl ρ' rf)) : PC 167 [.ref 146, .int (nI 0)] (HP sl ρ rf) (some (.int (nI p))) (HP sl ρ' rf) := by
  refine PC_of (cd := p_c_X5_fault) (L0 := [some (.ref 146), some (.int (nI 0)), none]) rfl rfl ?_
  refine R_ld1 rfl ?_
  refine R_c0 rfl (x_isTwo _) rfl rfl rfl ?_
  refine BB_neT rfl (by first | decide | rfl) ?_
  refine R_la0 rfl ?_
  refine R_c1 rfl (hpc) rfl rfl rfl sh_146 rfl rfl ?_
  refine R_st2 rfl ?_
  refine R_ld2 rfl ?_
  refine B1_neT rfl (nI_ne0 hq hq4) ?_
  refine R_ld1 rfl ?_
  refine B1_neF rfl (rfl) ?_
  refine R_la0 rfl ?_
  refine R_getI rfl sh_146 rfl hp ?_
  refine R_goto rfl ?_
  exact R_iret rfl (rfl)

theorem x_fault_10 (hrf : RFok rf) (hpc : PC 166 [.ref 146] (HP sl ρ rf) (some (.int (nI 0))) (HP sl ρ' rf)) : PC 167 [.ref 146, .int (nI 1)] (HP sl ρ rf) (some (.int (-4))) (HP sl ρ' rf) := by
  refine PC_of (cd := p_c_X5_fault) (L0 := [some (.ref 146), some (.int (nI 1)), none]) rfl rfl ?_
  refine R_ld1 rfl ?_
  refine R_c0 rfl (x_isTwo _) rfl rfl rfl ?_
  refine BB_neT rfl (by first | decide | rfl) ?_
  refine R_la0 rfl ?_
  refine R_c1 rfl (hpc) rfl rfl rfl sh_146 rfl rfl ?_
  refine R_st2 rfl ?_
  refine R_ld2 rfl ?_
  refine B1_neF rfl (rfl) ?_
  refine R_i rfl ?_
  refine R_goto rfl ?_
  exact R_iret rfl (rfl)

theorem x_fault_11 (hrf : RFok rf) {q : Nat} {p : Nat} (hq : 0 < q) (hq4 : q < 2 ^ 31) (hp : ρ' 146 12 = nI p) (hpc : PC 166 [.ref 146] (HP sl ρ rf) (some (.int (nI q))) (HP sl ρ' rf)) : PC 167 [.ref 146, .int (nI 1)] (HP sl ρ rf) (some (.int (nI q))) (HP sl ρ' rf) := by
  refine PC_of (cd := p_c_X5_fault) (L0 := [some (.ref 146), some (.int (nI 1)), none]) rfl rfl ?_
  refine R_ld1 rfl ?_
  refine R_c0 rfl (x_isTwo _) rfl rfl rfl ?_
  refine BB_neT rfl (by first | decide | rfl) ?_
  refine R_la0 rfl ?_
  refine R_c1 rfl (hpc) rfl rfl rfl sh_146 rfl rfl ?_
  refine R_st2 rfl ?_
  refine R_ld2 rfl ?_
  refine B1_neT rfl (nI_ne0 hq hq4) ?_
  refine R_ld1 rfl ?_
  refine B1_neT rfl (by decide) ?_
  refine R_ld2 rfl ?_
  exact R_iret rfl (rfl)

theorem TI_TM (h : TX ρ T l) (h1 : ρ 146 6 = nI l) (h2 : ∀ j, j < l → ρ 151 j = nI (T j)) : TM ρ T l := ⟨h1, h.2.1, fun j hj => ⟨h2 j hj, (h.2.2 j hj).2⟩⟩
theorem o_fault (hF : FI s ρ rf) (x : Int32) : Ag sl s 72 167 [.int x] ρ rf := by
  obtain ⟨n, rc, t, hR, ht, ht1, hB⟩ := hF.2.2.1
  have hrf := hF.1
  have hn16 := hR.b.1
  obtain ⟨T, l, hT, hT2, hT3, hT4⟩ := hF.2.2.2.2.2
  cases hx : inR 2 x with
  | false => exact Ag_p hF (c_fault_bad x hx) (x_fault_bad x hx)
  | true =>
    have hTM := TI_TM hT hT3 hT4
    have hrr : ∀ m, m < 6 → ρ 14 m = nI (rc m) ∧ rc m ≤ 4 := fun m hm => ⟨(hR.m hm).2.1, (hR.m hm).1⟩
    obtain ⟨q, ρ2, ⟨hm, hq⟩, hpc⟩ := e_reason (sl := sl) hrf hR hTM
    have hF2 := FI_md hF hm
    rcases hq with ⟨h1, h2⟩ | ⟨p, h1, h2, h3, h4⟩
    · subst h2
      rcases inR_2.mp hx with h | h
      · subst h
        exact ⟨_, _, _, _, c_fault_none0 hrf hR.b.2.1 hn16 hT hrr h1, x_fault_00 hrf hpc, hF2⟩
      · subst h
        exact ⟨_, _, _, _, c_fault_none1 hrf hR.b.2.1 hn16 hT hrr h1, x_fault_10 hrf hpc, hF2⟩
    · have hq4 : q < 2 ^ 31 := by
        have := fo_le T l n (ρ 12 0) rc p (eor T l p)
        omega
      rcases inR_2.mp hx with h | h
      · subst h
        exact ⟨_, _, _, _, c_fault_0 hrf hR.b.2.1 hn16 hT hrr h1, x_fault_01 hrf h2 hq4 h4 hpc, hF2⟩
      · subst h
        have hx1 := x_fault_11 (sl := sl) hrf h2 hq4 h4 hpc
        rw [h3] at hx1
        exact ⟨_, _, _, _, c_fault_1 hrf hR.b.2.1 hn16 hT hrr h1, hx1, hF2⟩
theorem FI_rem2 (hF : FI s ρ rf) : ∃ (ρa : pR) (rfa : pF) (p : Nat), PC 89 [.ref 1] (HP sl ρ rf) none (HP sl ρa rfa) ∧ RFok rfa ∧ (∀ k, k ≠ 1 → ¬ (24 ≤ k ∧ k ≤ 102) → ρa k = ρ k) ∧ (∀ j, j ≠ 2 → ρa 1 j = ρ 1 j) ∧ p ≤ 4 ∧ ρa 146 2 = nI p ∧
    ∀ ρ1, (∀ k, ¬ (3 ≤ k ∧ k ≤ 21) → ρ1 k = ρa k) → PC 105 [.ref 146] (HP sl ρ1 rfa) none (HP sl (rcM ρ1 p) rfa) ∧ ∀ ρ2, (∀ k, k ≠ 147 → ρ2 k = rcM ρ1 p k) → StR ρ2 (ρ2 147) → FI s ρ2 rfa := by
  obtain ⟨f1, f2, f3, ⟨h, p, g1, g2, g3, g4, g5⟩, f5, f6⟩ := hF
  have hm := m_remember (sl := sl) f1 g1 g3 g2
  have hr : ∀ i, i < 4 → h i = 23 ∨ h i = 43 ∨ h i = 63 ∨ h i = 83 := fun i hi => (g1.1 i hi).2
  by_cases h4 : p < 4
  · rw [if_pos h4] at hm
    have hka : ∀ k, k ≠ 1 → ¬ (h p < k ∧ k < h p + 20) → u2 (cpS (h p) 2 ρ) 1 2 (nI (p + 1)) k = ρ k := fun k k1 k2 => by rw [u2_ne k1, cpS_out (by omega)]
    have hk1 : ∀ j, j ≠ 2 → u2 (cpS (h p) 2 ρ) 1 2 (nI (p + 1)) 1 j = ρ 1 j := fun j hj => by
      rw [u2_at, up_ne hj, cpS_out (by have := hr p h4; omega)]
    refine ⟨_, _, p, hm, f1, fun k k1 k2 => hka k k1 (by have := hr p h4; omega), hk1, g2, (congrFun (hka 146 (by decide) (by have := hr p h4; omega)) 2).trans g4, fun ρ1 h1 => ?_⟩
    have e146 : ρ1 146 = ρ 146 := (h1 146 (by decide)).trans (hka 146 (by decide) (by have := hr p h4; omega))
    have e147 : ρ1 147 = ρ 147 := (h1 147 (by decide)).trans (hka 147 (by decide) (by have := hr p h4; omega))
    have e148 : ρ1 148 = ρ 148 := (h1 148 (by decide)).trans (hka 148 (by decide) (by have := hr p h4; omega))
    refine ⟨x_records f1 (by rw [e146]; exact g4) g2, fun ρ2 h2 hS => ?_⟩
    rw [rc_lt h4] at h2
    have hk : ∀ k, ¬ (3 ≤ k ∧ k ≤ 21) → k ≠ 1 → k ≠ 146 → k ≠ 147 → k ≠ 148 → ¬ (h p < k ∧ k < h p + 20) → ρ2 k = ρ k := fun k a b c d e f => by
      rw [h2 k d, u2_ne c, u1_ne e, h1 k a, hka k b f]
    have e1 : ρ2 1 = u2 (cpS (h p) 2 ρ) 1 2 (nI (p + 1)) 1 := by rw [h2 1 (by decide), u2_ne (by decide), u1_ne (by decide), h1 1 (by decide)]
    have e2 : ∀ j, j ≠ 2 → ρ2 146 j = ρ 146 j := fun j hj => by rw [h2 146 (by decide), u2_at, up_ne hj, u1_ne (by decide), e146]
    have e3 : ρ2 148 = cpy (ρ 148) p (ρ 147) 263 := by rw [h2 148 (by decide), u2_ne (by decide), u1_at, e148, e147]
    have hh := hr p h4
    refine ⟨f1, by rw [hk 0 (by decide) (by decide) (by decide) (by decide) (by decide) (by omega)]; exact f2, hS, ⟨h, p + 1, g1, by omega, by rw [e1, u2_at, up_eq], by rw [h2 146 (by decide), u2_at, up_eq], fun i hi => ?_⟩, SI_f (by rw [e1]; exact hk1 4 (by decide)) (hk 150 (by decide) (by decide) (by decide) (by decide) (by decide) (by omega)) (hk 149 (by decide) (by decide) (by decide) (by decide) (by decide) (by omega)) (fun k k1 k2 => hk k (by omega) (by omega) (by omega) (by omega) (by omega) (by omega)) f5, TI_f (hk 144 (by decide) (by decide) (by decide) (by decide) (by decide) (by omega)) (hk 145 (by decide) (by decide) (by decide) (by decide) (by decide) (by omega)) (e2 6 (by decide)) (hk 151 (by decide) (by decide) (by decide) (by decide) (by decide) (by omega)) f6⟩
    by_cases e : i = p
    · subst e
      rw [e3]
      have hv := cpS_V (r := ρ) (a := h i) (b := 2) (by omega)
      have hv2 : VEq ρ 2 ρ2 (h i) := hv.trans (VEq.of fun k k1 k2 => by
        rw [h2 k (by omega), u2_ne (by omega), u1_ne (by omega), h1 k (by omega), u2_ne (by omega)])
      have := VEq_vw (by decide) (by omega) hv2
      rw [vw_2] at this
      exact StR_V this (sg_cpy _ _ _) f3
    · have hd := g1.2 i p (by omega) h4 e
      have hri := hr i (by omega)
      rw [e3]
      exact StR_V (VEq_vw (by omega) (by omega) (VEq.of fun k k1 k2 => hk k (by omega) (by omega) (by omega) (by omega) (by omega) (by omega))) (sg_cpy2 _ _ (by omega)) (g5 i (by omega))
  · have hp : p = 4 := by omega
    subst hp
    rw [if_neg h4] at hm
    have h0 := hr 0 (by decide)
    have hka : ∀ k, k ≠ 1 → ¬ (h 0 < k ∧ k < h 0 + 20) → u2 (cpS (h 0) 2 (u2 ρ 1 2 (nI 3))) 1 2 (nI 4) k = ρ k := fun k k1 k2 => by rw [u2_ne k1, cpS_out (by omega), u2_ne k1]
    have hk1 : ∀ j, j ≠ 2 → u2 (cpS (h 0) 2 (u2 ρ 1 2 (nI 3))) 1 2 (nI 4) 1 j = ρ 1 j := fun j hj => by
      rw [u2_at, up_ne hj, cpS_out (by omega), u2_at, up_ne hj]
    refine ⟨_, _, 4, hm, rot_RF f1, fun k k1 k2 => hka k k1 (by omega), hk1, g2, (congrFun (hka 146 (by decide) (by omega)) 2).trans g4, fun ρ1 h1 => ?_⟩
    have e146 : ρ1 146 = ρ 146 := (h1 146 (by decide)).trans (hka 146 (by decide) (by omega))
    have e147 : ρ1 147 = ρ 147 := (h1 147 (by decide)).trans (hka 147 (by decide) (by omega))
    have e148 : ρ1 148 = ρ 148 := (h1 148 (by decide)).trans (hka 148 (by decide) (by omega))
    refine ⟨x_records (rot_RF f1) (by rw [e146]; exact g4) g2, fun ρ2 h2 hS => ?_⟩
    rw [rc_ge h4] at h2
    have hk : ∀ k, ¬ (3 ≤ k ∧ k ≤ 21) → k ≠ 1 → k ≠ 146 → k ≠ 147 → k ≠ 148 → ¬ (h 0 < k ∧ k < h 0 + 20) → ρ2 k = ρ k := fun k a b c d e f => by
      rw [h2 k d, u2_ne c, u1_ne e, h1 k a, hka k b f]
    have e1 : ρ2 1 = u2 (cpS (h 0) 2 (u2 ρ 1 2 (nI 3))) 1 2 (nI 4) 1 := by rw [h2 1 (by decide), u2_ne (by decide), u1_ne (by decide), h1 1 (by decide)]
    have e2 : ∀ j, j ≠ 2 → ρ2 146 j = ρ 146 j := fun j hj => by rw [h2 146 (by decide), u2_at, up_ne hj, u1_ne (by decide), e146]
    have e3 : ρ2 148 = cpy (shf (ρ 148) 789) 3 (ρ 147) 263 := by rw [h2 148 (by decide), u2_ne (by decide), u1_at, e148, e147]
    refine ⟨rot_RF f1, by rw [hk 0 (by decide) (by decide) (by decide) (by decide) (by decide) (by omega)]; exact f2, hS, ⟨rotH h, 4, rot_H g1, by omega, by rw [e1, u2_at, up_eq], by rw [h2 146 (by decide), u2_at, up_eq], fun i hi => ?_⟩, SI_f (by rw [e1]; exact hk1 4 (by decide)) (hk 150 (by decide) (by decide) (by decide) (by decide) (by decide) (by omega)) (hk 149 (by decide) (by decide) (by decide) (by decide) (by decide) (by omega)) (fun k k1 k2 => hk k (by omega) (by omega) (by omega) (by omega) (by omega) (by omega)) f5, TI_f (hk 144 (by decide) (by decide) (by decide) (by decide) (by decide) (by omega)) (hk 145 (by decide) (by decide) (by decide) (by decide) (by decide) (by omega)) (e2 6 (by decide)) (hk 151 (by decide) (by decide) (by decide) (by decide) (by decide) (by omega)) f6⟩
    rw [e3]
    by_cases e : i = 3
    · subst e
      rw [show rotH h 3 = h 0 from rfl]
      have hv := cpS_V (r := u2 ρ 1 2 (nI 3)) (a := h 0) (b := 2) (by omega)
      have hv2 : VEq (u2 ρ 1 2 (nI 3)) 2 ρ2 (h 0) := hv.trans (VEq.of fun k k1 k2 => by
        rw [h2 k (by omega), u2_ne (by omega), u1_ne (by omega), h1 k (by omega), u2_ne (by omega)])
      have hv3 : VEq ρ 2 ρ2 (h 0) := (VEq.of (ρ := ρ) (ρ' := u2 ρ 1 2 (nI 3)) (a := 2) fun k k1 k2 => u2_ne (by omega)).trans hv2
      have := VEq_vw (by decide) (by omega) hv3
      rw [vw_2] at this
      exact StR_V this (sg_cpy _ _ _) f3
    · rw [show rotH h i = h (i + 1) from if_neg e]
      have hd := g1.2 (i + 1) 0 (by omega) (by decide) (by omega)
      have hri := hr (i + 1) (by omega)
      exact StR_V (VEq_vw (by omega) (by omega) (VEq.of fun k k1 k2 => hk k (by omega) (by omega) (by omega) (by omega) (by omega) (by omega))) (fun s hs => (sg_cpy2 _ _ (by omega) s hs).trans (sg_shf _ (by omega) s hs)) (g5 (i + 1) (by omega))
theorem rcM_md {p : Nat} (hm : Md ρ ρ') : Md (rcM ρ p) (rcM ρ' p) := by
  have h7 : ρ' 147 = ρ 147 := hm.1 147 (by decide) (by decide)
  have h8 : ρ' 148 = ρ 148 := hm.1 148 (by decide) (by decide)
  refine ⟨fun k k1 k2 => ?_, fun j hj => ?_⟩
  · by_cases q : k = 148
    · subst q
      unfold rcM
      split <;> rw [u2_ne (by decide), u2_ne (by decide), u1_at, u1_at, h7, h8]
    · rw [rcM_f ρ' p ⟨k1, q⟩, rcM_f ρ p ⟨k1, q⟩]
      exact hm.1 k k1 k2
  · unfold rcM
    by_cases q : j = 2
    · subst q
      split <;> rw [u2_at, u2_at, up_eq, up_eq]
    · split <;> rw [u2_at, u2_at, up_ne q, up_ne q, u1_ne (by decide), u1_ne (by decide)] <;> exact hm.2 j hj
theorem nv_hv (T : Nat → Nat) (a : Nat) : ∀ i, nv T a i ≤ hv T a i
  | 0 => Nat.le_refl _
  | i + 1 => Nat.le_max_right _ _
theorem is16_w {x : Int32} (h : is16 x) {j : Nat} (hj : j < 16) : is16 (wI x j true) := by
  obtain ⟨w, hw, rfl⟩ := h
  rw [M_of hw, M_w _ hj]
  exact is16_M _
theorem is16_iv (T : Nat → Nat) (a : Nat) : ∀ i, hv T a i < 16 → is16 (iv T a i)
  | 0, _ => ⟨0, by decide, rfl⟩
  | i + 1, h => by
    have h1 : hv T a i < 16 := Nat.lt_of_le_of_lt (Nat.le_max_left _ _) h
    have ih := is16_iv T a i h1
    by_cases q : T (a + 2 + i) = 46
    · rw [iv_p q]
      exact is16_w ih (Nat.lt_of_le_of_lt (nv_hv T a i) h1)
    · rw [iv_s q]
      exact ih
theorem fo_0 {run : Int32} {a e : Nat} (h : fo T l n run rc a e = 0) : isRowT T l a e = true ∧ hv T a (e - (a + 2)) < n ∧ rc (T a - 48) + ctR T a (T a - 48) < 4 := by
  unfold fo at h
  split at h
  · cases h
  · rename_i h1
    split at h
    · cases h
    · rename_i h2
      split at h
      · cases h
      · split at h
        · cases h
        · rename_i h3
          refine ⟨by cases q : isRowT T l a e with | true => rfl | false => exact absurd q h1, by omega, by unfold ctR; omega⟩
theorem rd_2 {ρa : pR} {run : Int32} (hok : ∀ j, j < l → T j = 59 → fo T l n run rc (fr T j) j = 0) : ∀ j, j ≤ l → ∀ m, m < 6 → (rdS ρa rc T j).2 m = rc m + ctR T (fr T j) m
  | 0, _, m, _ => rfl
  | j + 1, hj, m, hm => by
    have ih := rd_2 (ρa := ρa) hok j (by omega) m hm
    by_cases e : T j = 59
    · rw [rd_t e, fr_t e, ctR_row (fo_0 (hok j (by omega) e)).1 e hm]
      show (if m = T (fr T j) - 48 then (rdS ρa rc T j).2 m + 1 else (rdS ρa rc T j).2 m) = _
      rw [ih]
      by_cases q : m = T (fr T j) - 48
      · rw [if_pos q, if_pos q]; rfl
      · rw [if_neg q, if_neg q]
    · rw [rd_f e, fr_f e, ih]
theorem rd_to {ρa : pR} {a : Nat} : ∀ k, (∀ j, a ≤ j → j < a + k → ¬ T j = 59) → rdS ρa rc T (a + k) = rdS ρa rc T a
  | 0, _ => rfl
  | k + 1, h => by
    rw [show a + (k + 1) = a + k + 1 from rfl, rd_f (h _ (by omega) (by omega))]
    exact rd_to k fun j j1 j2 => h j j1 (by omega)
theorem ct59_to {a : Nat} : ∀ k, (∀ j, a ≤ j → j < a + k → ¬ T j = 59) → fb_ct (fun j => decide (T j = 59)) (a + k) = fb_ct (fun j => decide (T j = 59)) a
  | 0, _ => rfl
  | k + 1, h => by
    rw [show a + (k + 1) = a + k + 1 from rfl, ct_f (f := fun j => decide (T j = 59)) (j := a + k) (decide_eq_false (h _ (by omega) (by omega)))]
    exact ct59_to k fun j j1 j2 => h j j1 (by omega)
theorem x_read_np (hrf : RFok rf) {q : Nat} (hq : 0 < q) (hq4 : q < 2 ^ 31) (hpc : PC 166 [.ref 146] (HP sl ρ rf) (some (.int (nI q))) (HP sl ρ' rf)) : PC 168 [.ref 146] (HP sl ρ rf) (some (.int (-2))) (HP sl ρ' rf) := by
  refine PC_of (cd := p_c_X5_read) (L0 := [some (.ref 146), none, none]) rfl rfl ?_
  refine R_la0 rfl ?_
  refine R_c1 rfl (hpc) rfl rfl rfl sh_146 rfl rfl ?_
  refine B1_eqF rfl (nI_ne0 hq hq4) ?_
  refine R_i rfl ?_
  exact R_iret rfl (rfl)

theorem rd_loop {ρa : pR} {run : Int32} (hrf : RFok rf) (hT0 : TM ρ0 T l) (h16 : n ≤ 16) (hfl : fr T l = l) (hok : ∀ j, j < l → T j = 59 → fo T l n run rc (fr T j) j = 0) : ∀ (f a : Nat) (ρ : pR) (w : Option Value), l - a ≤ f → a ≤ l → Md (u1 ρ0 147 (ρ 147)) ρ → ρ 146 7 = nI a → fr T a = a → Rel (rdS ρa rc T a).1 (ρ 147) n (rdS ρa rc T a).2 → PW p_c_X5_read 12 [some (.ref 146), some (.int (nI (fb_ct (fun j => decide (T j = 59)) a))), w] [] (HP sl ρ rf) (fun zz => ∃ r ρ', (r = some (.int (nI (fb_ct (fun j => decide (T j = 59)) l))) ∧ Rel (rdS ρa rc T l).1 (ρ' 147) n (rdS ρa rc T l).2 ∧ Md (u1 ρ0 147 (ρ' 147)) ρ') ∧ zz = (r, HP sl ρ' rf)) := by
  intro f
  induction f with
  | zero =>
    intro a ρ w hf hal hm hp hfr hR
    have e : a = l := by omega
    subst e
    have hl80 := hT0.2.1
    have hT : TM ρ T a := TM.md (ρ := u1 ρ0 147 (ρ 147)) ⟨by rw [u1_ne (by decide)]; exact hT0.1, hT0.2.1, fun j hj => by rw [u1_ne (by decide)]; exact hT0.2.2 j hj⟩ hm
    refine R_la0 rfl ?_
    refine R_getI rfl sh_146 rfl hp ?_
    refine R_la0 rfl ?_
    refine R_getI rfl sh_146 rfl hT.1 ?_
    refine N2_geT rfl (by omega) (by omega) (by omega) ?_
    refine R_ld1 rfl ?_
    exact R_iret rfl (⟨_, _, ⟨rfl, hR, hm⟩, rfl⟩)
  | succ f ih =>
    intro a ρ w hf hal hm hp hfr hR
    have hl80 := hT0.2.1
    have hT : TM ρ T l := TM.md (ρ := u1 ρ0 147 (ρ 147)) ⟨by rw [u1_ne (by decide)]; exact hT0.1, hT0.2.1, fun j hj => by rw [u1_ne (by decide)]; exact hT0.2.2 j hj⟩ hm
    by_cases hlt : a < l
    · have hel : eor T l a < l := by
        have h1 := (eor_b T hal).2
        rcases Nat.eq_or_lt_of_le h1 with q | q
        · have h2 := fr_to hfr hal (by have := (eor_sp (T := T) hal).1; rw [q] at this; exact this)
          omega
        · exact q
      have h59 := (eor_sp (T := T) hal).2 hel
      have hno := (eor_sp (T := T) hal).1
      have hae := (eor_b T hal).1
      have hfe : fr T (eor T l a) = a := fr_to hfr hae hno
      have hfo := hok _ hel h59
      rw [hfe] at hfo
      obtain ⟨g1, g2, g3⟩ := fo_0 hfo
      obtain ⟨b, ρ2, ⟨hm2, h12, h152, hff, htt⟩, hpc⟩ := e_form (sl := sl) hrf hT hR.b.2.2.1 h16 hp hal
      have hb : b = true := by
        cases b with
        | true => rfl
        | false =>
          have := hff rfl _ h59
          rw [g1] at this
          exact absurd this (by decide)
      subst hb
      obtain ⟨e, e1, e2, e3, e4, e6, e7, e8, e9, e10⟩ := htt rfl
      have hee : eor T l a = e := eor_eq (by omega) e2 e3 e6
      rw [hee] at g1 g2 hfe hno
      obtain ⟨q1, q2, q3, q4, q5⟩ := isRowT_c g1
      have hk6 : T a - 48 < 6 := by omega
      have h147 : ρ2 147 = ρ 147 := hm2.1 147 (by decide) (by decide)
      have hR2 : Rel (rdS ρa rc T a).1 (ρ2 147) n (rdS ρa rc T a).2 := by rw [h147]; exact hR
      have hr4 : (rdS ρa rc T a).2 (T a - 48) < 4 := by
        rw [rd_2 (ρa := ρa) hok a hal _ hk6, hfr]
        exact g3
      have hx : is16 (wI (iv T a (e - (a + 2))) (nv T a (e - (a + 2))) true) := is16_w (is16_iv T a _ (by omega)) (by have := nv_hv T a (e - (a + 2)); omega)
      obtain ⟨μ', hR3, hpn⟩ := e_newRow (sl := sl) hrf hR2 hk6 hr4 hx
      have hre : rdS ρa rc T e = rdS ρa rc T a := by
        have := rd_to (ρa := ρa) (rc := rc) (T := T) (a := a) (e - a) (fun j j1 j2 => hno j j1 (by omega))
        rwa [show a + (e - a) = e by omega] at this
      have hce : fb_ct (fun j => decide (T j = 59)) e = fb_ct (fun j => decide (T j = 59)) a := by
        have := ct59_to (T := T) (a := a) (e - a) (fun j j1 j2 => hno j j1 (by omega))
        rwa [show a + (e - a) = e by omega] at this
      have hce1 : fb_ct (fun j => decide (T j = 59)) (e + 1) = fb_ct (fun j => decide (T j = 59)) a + 1 := by rw [ct_t (f := fun j => decide (T j = 59)) (j := e) (decide_eq_true e3), hce]
      have hmn : Md (u1 ρ0 147 ((u1 ρ2 147 μ') 147)) (u1 ρ2 147 μ') := by
        have hmm := hm.tr hm2
        refine ⟨fun k k1 k2 => ?_, fun j hj => ?_⟩
        · by_cases q : k = 147
          · subst q; simp only [u1_at]
          · rw [u1_ne q, u1_ne q]
            have := hmm.1 k k1 k2
            rwa [u1_ne q] at this
        · rw [u1_ne (by decide), u1_ne (by decide)]
          have := hmm.2 j hj
          rwa [u1_ne (by decide)] at this
      have hR4 : Rel (rdS ρa rc T (e + 1)).1 ((u1 ρ2 147 μ') 147) n (rdS ρa rc T (e + 1)).2 := by
        rw [rd_t e3, hfe, hre, u1_at]
        exact hR3
      have hnext := ih (e + 1) (u1 ρ2 147 μ') (some (.int (nI ((rdS ρa rc T a).2 (T a - 48) + 1)))) (by omega) (by omega) hmn (by rw [u1_ne (by decide)]; exact e7) (fr_t e3) hR4
      rw [hce1] at hnext
      refine R_la0 rfl ?_
      refine R_getI rfl sh_146 rfl hp ?_
      refine R_la0 rfl ?_
      refine R_getI rfl sh_146 rfl hT.1 ?_
      refine N2_geF rfl (by omega) (by omega) (hlt) ?_
      refine R_la0 rfl ?_
      refine R_c1 rfl (hpc) rfl rfl rfl sh_146 rfl rfl ?_
      refine BB_eqF rfl (rfl) ?_
      refine R_la0 rfl ?_
      refine R_la0 rfl ?_
      refine R_getI rfl sh_146 rfl e8 ?_
      refine R_la0 rfl ?_
      refine R_getI rfl sh_146 rfl (e10 g2) ?_
      refine R_c1 rfl (hpn) rfl rfl rfl sh_146 rfl rfl ?_
      refine R_st2 rfl ?_
      refine R_ld1 rfl ?_
      refine R_ld2 rfl ?_
      refine B1_leF rfl (nI_nle (Nat.succ_pos _) (by omega)) ?_
      refine R_n 1 rfl rfl ?_
      refine R_goto rfl ?_
      refine R_addN rfl ?_
      refine R_st1 rfl ?_
      refine R_goto rfl ?_
      exact hnext
    · have e : a = l := by omega
      subst e
      refine R_la0 rfl ?_
      refine R_getI rfl sh_146 rfl hp ?_
      refine R_la0 rfl ?_
      refine R_getI rfl sh_146 rfl hT.1 ?_
      refine N2_geT rfl (by omega) (by omega) (by omega) ?_
      refine R_ld1 rfl ?_
      exact R_iret rfl (⟨_, _, ⟨rfl, hR, hm⟩, rfl⟩)
theorem e_read {ρa ρ2 : pR} {run : Int32} {p : Nat} (hrf : RFok rf) (hT0 : TM ρ2 T l) (h16 : n ≤ 16) (hfl : fr T l = l) (hok : ∀ j, j < l → T j = 59 → fo T l n run rc (fr T j) j = 0) (hp : ρ2 146 2 = nI p) (hp4 : p ≤ 4) (hR : Rel ρa (ρ2 147) n rc) (hpc : PC 166 [.ref 146] (HP sl ρ rf) (some (.int (nI 0))) (HP sl ρ2 rf)) : ∃ ρ', Rel (rdS ρa rc T l).1 (ρ' 147) n (rdS ρa rc T l).2 ∧ Md (u1 (rcM ρ2 p) 147 (ρ' 147)) ρ' ∧ PC 168 [.ref 146] (HP sl ρ rf) (some (.int (nI (fb_ct (fun j => decide (T j = 59)) l)))) (HP sl ρ' rf) := by
  have hrec := x_records (sl := sl) hrf hp hp4
  have hT1 : TM (rcM ρ2 p) T l := by
    refine ⟨?_, hT0.2.1, fun j hj => by rw [rcM_f ρ2 p (by decide)]; exact hT0.2.2 j hj⟩
    unfold rcM
    split <;> rw [u2_at, up_ne (by decide), u1_ne (by decide)] <;> exact hT0.1
  have key : ∃ r ρ', (r = some (.int (nI (fb_ct (fun j => decide (T j = 59)) l))) ∧ Rel (rdS ρa rc T l).1 (ρ' 147) n (rdS ρa rc T l).2 ∧ Md (u1 (rcM ρ2 p) 147 (ρ' 147)) ρ') ∧ PC 168 [.ref 146] (HP sl ρ rf) r (HP sl ρ' rf) := by
    refine PC_o (cd := p_c_X5_read) (L0 := [some (.ref 146), none, none]) rfl rfl ?_
    refine R_la0 rfl ?_
    refine R_c1 rfl (hpc) rfl rfl rfl sh_146 rfl rfl ?_
    refine B1_eqT rfl (rfl) ?_
    refine R_la0 rfl ?_
    refine R_c1 rfl (hrec) rfl rfl rfl sh_146 rfl rfl ?_
    refine R_la0 rfl ?_
    refine R_n 0 rfl rfl ?_
    refine R_putI rfl sh_146 rfl ?_
    refine R_n 0 rfl rfl ?_
    refine R_st1 rfl ?_
    refine rd_loop (ρ0 := rcM ρ2 p) hrf hT1 h16 hfl hok _ 0 _ _ (Nat.le_refl _) (Nat.zero_le _) ?_ (up7 _ _) rfl ?_
    · rw [show (u2 (rcM ρ2 p) 146 7 (nI 0)) 147 = (rcM ρ2 p) 147 from u2_ne (by decide), u1_id]
      exact (Md.rf _).w (by decide) _
    · rw [show (u2 (rcM ρ2 p) 146 7 (nI 0)) 147 = ρ2 147 from (u2_ne (by decide)).trans (rcM_f ρ2 p (by decide))]
      exact hR
  obtain ⟨r, ρ', ⟨h1, h2, h3⟩, h4⟩ := key
  rw [h1] at h4
  exact ⟨ρ', h2, h3, h4⟩
theorem o_read (hF : FI s ρ rf) : Ag sl s 73 168 [] ρ rf := by
  obtain ⟨n, rc, t, hR, ht, ht1, hB⟩ := hF.2.2.1
  have hrf := hF.1
  have hn16 := hR.b.1
  obtain ⟨T, l, hT, hT2, hT3, hT4⟩ := hF.2.2.2.2.2
  have hTM := TI_TM hT hT3 hT4
  have hrr : ∀ m, m < 6 → ρ 14 m = nI (rc m) ∧ rc m ≤ 4 := fun m hm => ⟨(hR.m hm).2.1, (hR.m hm).1⟩
  cases hpf : pf T (fo T l n (ρ 12 0) rc) l with
  | some p =>
    obtain ⟨q, ρ2, ⟨hm, hq⟩, hpc⟩ := e_reason (sl := sl) hrf hR hTM
    rcases hq with ⟨h1, h2⟩ | ⟨p', h1, h2, h3, h4⟩
    · rw [hpf] at h1; cases h1
    · have hq4 : q < 2 ^ 31 := by
        have := fo_le T l n (ρ 12 0) rc p' (eor T l p')
        omega
      exact ⟨_, _, _, _, c_read_np hrf hR.b.2.1 hn16 hT hrr hpf, x_read_np hrf h2 hq4 hpc, FI_md hF hm⟩
  | none =>
    obtain ⟨hfl, hok⟩ := pf_inv hpf
    obtain ⟨ρa, rfa, p, h1, h2, h3, h4, hp4, hp, h5⟩ := FI_rem2 (sl := sl) hF
    have hka : ∀ k, 103 ≤ k → ρa k = ρ k := fun k k1 => h3 k (by omega) (by omega)
    have hTa : TX ρa T l := by
      unfold TX
      rw [hka 144 (by decide), hka 145 (by decide)]
      exact hT
    have hra : ∀ m, m < 6 → ρa 14 m = nI (rc m) := fun m hm => by rw [h3 14 (by decide) (by decide)]; exact (hrr m hm).1
    have hcok : ∀ j, j < l → T j = 59 → isRowT T l (fr T j) j = true ∧ (rdS ρa rc T j).2 (T (fr T j) - 48) < 4 := fun j hj hs => by
      obtain ⟨g1, g2, g3⟩ := fo_0 (hok j hj hs)
      obtain ⟨q1, q2, q3, q4, q5⟩ := isRowT_c g1
      refine ⟨g1, ?_⟩
      rw [rd_2 (ρa := ρa) hok j (by omega) _ (by omega)]
      exact g3
    have hcl := c_read_ok (sl := sl) hrf hR.b.2.1 hn16 hT hrr hpf h1 h2 hTa hra hcok
    -- the class's heap
    have hck : ∀ k, ¬ (3 ≤ k ∧ k ≤ 21) → (rdS ρa rc T l).1 k = ρa k := fun k hk => rd_k ρa rc T (by omega) l
    have hc147 : (rdS ρa rc T l).1 147 = ρ 147 := (hck 147 (by decide)).trans (hka 147 (by decide))
    have hRa : Rel ρa (ρ 147) n rc := Rel_k (fun k k1 k2 => h3 k (by omega) (by omega)) hR
    have hTc : TM (rdS ρa rc T l).1 T l := by
      refine ⟨?_, hTM.2.1, fun j hj => ?_⟩
      · rw [hck 146 (by decide), hka 146 (by decide)]; exact hTM.1
      · rw [hck 151 (by decide), hka 151 (by decide)]; exact hTM.2.2 j hj
    obtain ⟨q, ρ2, ⟨hm, hq⟩, hpc⟩ := e_reason (sl := sl) (σ := ρ) (ρ := (rdS ρa rc T l).1) (n := n) (rc := rc) h2 (by rw [hc147]; exact hR) hTc
    have hq0 : q = 0 := by
      rcases hq with ⟨g1, g2⟩ | ⟨p', g1, g2, g3, g4⟩
      · exact g2
      · rw [hpf] at g1; cases g1
    subst hq0
    have h1472 : ρ2 147 = ρ 147 := (hm.1 147 (by decide) (by decide)).trans hc147
    have hp2 : ρ2 146 2 = nI p := by rw [hm.2 2 (by decide), hck 146 (by decide)]; exact hp
    obtain ⟨ρ', r1, r2, r3⟩ := e_read (sl := sl) (ρa := ρa) (p := p) h2 (hTc.md hm) hn16 hfl hok hp2 hp4 (by rw [h1472]; exact hRa) hpc
    refine ⟨_, _, _, _, hcl, r3, ?_⟩
    have hF1 : FI s (u1 (rcM (rdS ρa rc T l).1 p) 147 (ρ' 147)) rfa := by
      refine (h5 _ hck).2 _ (fun k hk => u1_ne hk) ?_
      rw [u1_at]
      refine StR_V (σ := (rdS ρa rc T l).1) (μ := ρ' 147) (VEq_k fun k k1 k2 => by rw [u1_ne (by omega), rcM_f _ p (by omega)]) (fun _ _ => rfl) ⟨n, _, t, r1, ?_, ht1, ?_⟩
      · rw [rd_k ρa rc T (by decide) l, h3 3 (by decide) (by decide)]; exact ht
      · exact brc_e (by rw [rd_k ρa rc T (by decide) l, h3 8 (by decide) (by decide)]) hB
    refine FI_md hF1 (Md.tr ?_ r2)
    have hmr := rcM_md (p := p) hm
    refine ⟨fun k k1 k2 => ?_, fun j hj => ?_⟩
    · by_cases e : k = 147
      · subst e; rw [u1_at, u1_at]
      · rw [u1_ne e, u1_ne e]; exact hmr.1 k k1 k2
    · rw [u1_ne (by decide), u1_ne (by decide)]; exact hmr.2 j hj
end
