/-! the class's text -/
def dgB (c : Nat) : Bool := decide (48 ≤ c) && decide (c ≤ 57)
/-- reading a row's inputs: how many digits of the present number have been read; none: not of the form -/
def dstep (d c : Nat) : Option Nat := if dgB c = true ∧ d < 2 then some (d + 1) else if c = 46 ∧ 0 < d then some 0 else none
def ds (T : Nat → Nat) (a : Nat) : Nat → Option Nat
  | 0 => some 0
  | i + 1 => match ds T a i with
    | none => none
    | some d => dstep d (T (a + 2 + i))
def isRowT (T : Nat → Nat) (l a e : Nat) : Bool := decide (e < l) && (decide (a + 3 ≤ e) && (decide (48 ≤ T a ∧ T a ≤ 53) && (decide (T (a + 1) = 58) && (match ds T a (e - (a + 2)) with
  | some d => decide (0 < d)
  | none => false))))
theorem ds_none {T : Nat → Nat} {a i : Nat} (h : ds T a i = none) : ∀ k, ds T a (i + k) = none
  | 0 => h
  | k + 1 => by
    show (match ds T a (i + k) with | none => none | some d => dstep d (T (a + 2 + (i + k)))) = none
    rw [ds_none h k]
theorem ds_le {T : Nat → Nat} {a i j : Nat} (hij : i ≤ j) {d : Nat} (h : ds T a j = some d) : ∃ d', ds T a i = some d' := by
  cases e : ds T a i with
  | some d' => exact ⟨d', rfl⟩
  | none =>
    have := ds_none e (j - i)
    rw [show i + (j - i) = j by omega, h] at this
    cases this
theorem ds_step {T : Nat → Nat} {a i d : Nat} (h : ds T a i = some d) : ds T a (i + 1) = dstep d (T (a + 2 + i)) := by
  show (match ds T a i with | none => none | some d => dstep d (T (a + 2 + i))) = _
  rw [h]
theorem ds_2 {T : Nat → Nat} {a : Nat} : ∀ {i d : Nat}, ds T a i = some d → d ≤ 2
  | 0, d, h => by cases h; decide
  | i + 1, d, h => by
    obtain ⟨d', hd⟩ := ds_le (Nat.le_succ i) h
    rw [ds_step hd] at h
    unfold dstep at h
    split at h
    · cases h; omega
    · split at h
      · cases h; decide
      · cases h
/-- the value of the present number -/
def nv (T : Nat → Nat) (a : Nat) : Nat → Nat
  | 0 => 0
  | i + 1 => if T (a + 2 + i) = 46 then 0 else nv T a i * 10 + T (a + 2 + i) - 48
theorem nv_le {T : Nat → Nat} {a : Nat} : ∀ {i d : Nat}, ds T a i = some d → nv T a i + 1 ≤ 10 ^ d
  | 0, d, h => by cases h; exact Nat.le_refl 1
  | i + 1, d, h => by
    obtain ⟨d', hd⟩ := ds_le (Nat.le_succ i) h
    have ih := nv_le hd
    have h2 := ds_2 hd
    rw [ds_step hd] at h
    unfold dstep at h
    unfold nv
    split at h
    · rename_i hc
      cases h
      have h3 := hc.1
      unfold dgB at h3
      simp only [Bool.and_eq_true, decide_eq_true_eq] at h3
      rw [if_neg (by omega), Nat.pow_succ]
      omega
    · split at h
      · rename_i hc
        cases h
        rw [if_pos hc.1]
        decide
      · cases h
/-- the highest number read, the set of the numbers that have ended -/
def hv (T : Nat → Nat) (a : Nat) : Nat → Nat
  | 0 => 0
  | i + 1 => max (hv T a i) (nv T a (i + 1))
def iv (T : Nat → Nat) (a : Nat) : Nat → Int32
  | 0 => 0
  | i + 1 => if T (a + 2 + i) = 46 then wI (iv T a i) (nv T a i) true else iv T a i
theorem hv_le {T : Nat → Nat} {a : Nat} : ∀ {i d : Nat}, ds T a i = some d → hv T a i < 100
  | 0, d, h => by show 0 < 100; decide
  | i + 1, d, h => by
    obtain ⟨d', hd⟩ := ds_le (Nat.le_succ i) h
    have ih := hv_le hd
    have h1 := nv_le h
    have h2 := ds_2 h
    have h3 : 10 ^ d ≤ 100 := by
      rcases (show d = 0 ∨ d = 1 ∨ d = 2 by omega) with rfl | rfl | rfl <;> decide
    unfold hv
    omega
theorem ds_char {T : Nat → Nat} {a i d : Nat} (h : ds T a (i + 1) = some d) : (48 ≤ T (a + 2 + i) ∧ T (a + 2 + i) ≤ 57) ∨ T (a + 2 + i) = 46 := by
  obtain ⟨d', hd⟩ := ds_le (Nat.le_succ i) h
  rw [ds_step hd] at h
  unfold dstep at h
  split at h
  · rename_i hc
    have h3 := hc.1
    unfold dgB at h3
    simp only [Bool.and_eq_true, decide_eq_true_eq] at h3
    exact Or.inl h3
  · split at h
    · rename_i hc
      exact Or.inr hc.1
    · cases h
/-- the text in the class's cells -/
def TX (ρ : pR) (T : Nat → Nat) (l : Nat) : Prop := ρ 144 1 = nI l ∧ l ≤ 80 ∧ ∀ j, j < l → ρ 145 j = nI (T j) ∧ T j < 128
def rp (T : Nat → Nat) (m p : Nat) : Bool := decide (T p = 58) && decide (nI (T (p - 1)) - nI 48 = nI m)
section
variable {sl : pS} {ρ : pR} {rf : pF} {T : Nat → Nat} {l : Nat}
theorem m_isDigit {c : Nat} (hc : c < 128) : PC 36 [.int (nI c)] (HP sl ρ rf) (some (.int (bI (dgB c)))) (HP sl ρ rf) := by
  refine PC_of (cd := p_c_X3_isDigit) (L0 := [some (.int (nI c))]) rfl rfl ?_
  refine R_ld0 rfl ?_
  refine R_n 48 rfl rfl ?_
  refine N2_lt rfl (by omega) (by omega) (fun h2 => ?_) (fun h2 => ?_)
  · refine R_n 0 rfl rfl ?_
    exact R_zret0 rfl (lf_0 (by unfold dgB; simp only [Bool.and_eq_true, Bool.and_eq_false_iff, decide_eq_true_eq, decide_eq_false_iff_not]; omega))
  · refine R_ld0 rfl ?_
    refine R_n 57 rfl rfl ?_
    refine N2_gt rfl (by omega) (by omega) (fun h5 => ?_) (fun h5 => ?_)
    · refine R_n 0 rfl rfl ?_
      exact R_zret0 rfl (lf_0 (by unfold dgB; simp only [Bool.and_eq_true, Bool.and_eq_false_iff, decide_eq_true_eq, decide_eq_false_iff_not]; omega))
    · refine R_n 1 rfl rfl ?_
      refine R_goto rfl ?_
      exact R_zret1 rfl (lf_1 (by unfold dgB; simp only [Bool.and_eq_true, Bool.and_eq_false_iff, decide_eq_true_eq, decide_eq_false_iff_not]; omega))

theorem m_motionOf (hrf : RFok rf) (hT : TX ρ T l) {a : Nat} (ha : a < l) : PC 37 [.ref 144, .int (nI a)] (HP sl ρ rf) (some (.int (nI (T a) - nI 48))) (HP sl ρ rf) := by
  refine PC_of (cd := p_c_X3_motionOfRow) (L0 := [some (.ref 144), some (.int (nI a))]) rfl rfl ?_
  refine R_la0 rfl ?_
  refine R_getR rfl sh_144 rfl (rf_144_0 hrf) ?_
  refine R_ld1 rfl ?_
  refine R_ald rfl sh_145 (by first | decide | omega) (by have := hT.2.1; omega) (hT.2.2 a ha).1 ?_
  refine R_n 48 rfl rfl ?_
  refine R_sub rfl ?_
  exact R_iret rfl (rfl)

def eor (T : Nat → Nat) (l a : Nat) : Nat := match ff (fun i => decide (T (a + i) = 59)) (l - a) with
  | some i => a + i
  | none => l
theorem m_endOfRow (hrf : RFok rf) (hT : TX ρ T l) {a : Nat} (ha : a ≤ l) : PC 34 [.ref 144, .int (nI a)] (HP sl ρ rf) (some (.int (nI (eor T l a)))) (HP sl ρ rf) := by
  have hl80 := hT.2.1
  have hl := down (n := l - a) (P := fun j => (∀ i, i < j → (fun i => decide (T (a + i) = 59)) i = false) → PW p_c_X3_endOfRow 2 [some (.ref 144), some (.int (nI a)), some (.int (nI (a + j)))] [] (HP sl ρ rf) (fun zz => zz = (some (.int (nI (eor T l a))), HP sl ρ rf))) ?_ ?_
  · refine PC_of (cd := p_c_X3_endOfRow) (L0 := [some (.ref 144), some (.int (nI a)), none]) rfl rfl ?_
    refine R_ld1 rfl ?_
    refine R_st2 rfl ?_
    exact hl 0 (Nat.zero_le _) (fun i hi => absurd hi (Nat.not_lt_zero _))
  · intro hno
    refine R_ld2 rfl ?_
    refine R_la0 rfl ?_
    refine R_getI rfl sh_144 rfl hT.1 ?_
    refine N2_geT rfl (by omega) (by omega) (by omega) ?_
    refine R_la0 rfl ?_
    refine R_getI rfl sh_144 rfl hT.1 ?_
    exact R_iret rfl (lf_i (by unfold eor; rw [ff_none hno]))
  · intro j hj hnext hno
    have hb := (hT.2.2 (a + j) (by omega)).2
    refine R_ld2 rfl ?_
    refine R_la0 rfl ?_
    refine R_getI rfl sh_144 rfl hT.1 ?_
    refine N2_geF rfl (by omega) (by omega) (by omega) ?_
    refine R_la0 rfl ?_
    refine R_getR rfl sh_144 rfl (rf_144_0 hrf) ?_
    refine R_ld2 rfl ?_
    refine R_ald rfl sh_145 (by first | decide | omega) (by omega) (hT.2.2 (a + j) (by omega)).1 ?_
    refine R_n 59 rfl rfl ?_
    refine N2_ne rfl (by omega) (by omega) (fun h11 => ?_) (fun h11 => ?_)
    · refine R_in2 rfl rfl ?_
      refine R_goto rfl ?_
      refine hnext (fun i hi => ?_)
      by_cases hij : i = j
      · subst hij
        exact decide_eq_false h11
      · exact hno i (by omega)
    · refine R_ld2 rfl ?_
      exact R_iret rfl (lf_i (by unfold eor; rw [ff_some (p := fun i => decide (T (a + i) = 59)) (decide_eq_true h11) hno hj]))

theorem inR_T {c : Nat} (hc : c < 128) : inR 6 (nI c - nI 48) = decide (48 ≤ c ∧ c ≤ 53) := by
  have h : ∀ c, c < 128 → inR 6 (nI c - nI 48) = decide (48 ≤ c ∧ c ≤ 53) := by decide +kernel
  exact h c hc
theorem m_isRow (hrf : RFok rf) (hT : TX ρ T l) {a e : Nat} (ha : a ≤ e) (he : e ≤ l) : PC 35 [.ref 144, .int (nI a), .int (nI e)] (HP sl ρ rf) (some (.int (bI (isRowT T l a e)))) (HP sl ρ rf) := by
  have hl80 := hT.2.1
  by_cases c1 : l ≤ e
  · refine PC_of (cd := p_c_X3_isRow) (L0 := [some (.ref 144), some (.int (nI a)), some (.int (nI e)), none, none]) rfl rfl ?_
    refine R_ld2 rfl ?_
    refine R_la0 rfl ?_
    refine R_getI rfl sh_144 rfl hT.1 ?_
    refine N2_geT rfl (by omega) (by omega) (c1) ?_
    refine R_n 0 rfl rfl ?_
    exact R_zret0 rfl (lf_0 (by unfold isRowT; rw [decide_eq_false (by omega)]; rfl))
  by_cases c2 : e - a < 3
  · refine PC_of (cd := p_c_X3_isRow) (L0 := [some (.ref 144), some (.int (nI a)), some (.int (nI e)), none, none]) rfl rfl ?_
    refine R_ld2 rfl ?_
    refine R_la0 rfl ?_
    refine R_getI rfl sh_144 rfl hT.1 ?_
    refine N2_geF rfl (by omega) (by omega) (by omega) ?_
    refine R_ld2 rfl ?_
    refine R_ld1 rfl ?_
    refine R_subN rfl (ha) ?_
    refine R_n 3 rfl rfl ?_
    refine N2_ltT rfl (by omega) (by omega) (c2) ?_
    refine R_n 0 rfl rfl ?_
    exact R_zret0 rfl (lf_0 (by unfold isRowT; rw [decide_eq_false (show ¬ a + 3 ≤ e by omega)]; simp))
  have hTa := (hT.2.2 a (by omega)).2
  by_cases c3 : 48 ≤ T a ∧ T a ≤ 53
  case neg =>
    refine PC_of (cd := p_c_X3_isRow) (L0 := [some (.ref 144), some (.int (nI a)), some (.int (nI e)), none, none]) rfl rfl ?_
    refine R_ld2 rfl ?_
    refine R_la0 rfl ?_
    refine R_getI rfl sh_144 rfl hT.1 ?_
    refine N2_geF rfl (by omega) (by omega) (by omega) ?_
    refine R_ld2 rfl ?_
    refine R_ld1 rfl ?_
    refine R_subN rfl (ha) ?_
    refine R_n 3 rfl rfl ?_
    refine N2_ltF rfl (by omega) (by omega) (by omega) ?_
    refine R_la0 rfl ?_
    refine R_getR rfl sh_144 rfl (rf_144_0 hrf) ?_
    refine R_ld1 rfl ?_
    refine R_ald rfl sh_145 (by first | decide | omega) (by omega) (hT.2.2 a (by omega)).1 ?_
    refine R_n 48 rfl rfl ?_
    refine R_sub rfl ?_
    refine R_c0 rfl (m_isMotion _) rfl rfl rfl ?_
    refine BB_eqT rfl ((inR_T hTa).trans (decide_eq_false c3)) ?_
    refine R_n 0 rfl rfl ?_
    exact R_zret0 rfl (lf_0 (by unfold isRowT; rw [decide_eq_false c3]; simp))
  have hT1 := (hT.2.2 (a + 1) (by omega)).2
  by_cases c4 : T (a + 1) = 58
  case neg =>
    refine PC_of (cd := p_c_X3_isRow) (L0 := [some (.ref 144), some (.int (nI a)), some (.int (nI e)), none, none]) rfl rfl ?_
    refine R_ld2 rfl ?_
    refine R_la0 rfl ?_
    refine R_getI rfl sh_144 rfl hT.1 ?_
    refine N2_geF rfl (by omega) (by omega) (by omega) ?_
    refine R_ld2 rfl ?_
    refine R_ld1 rfl ?_
    refine R_subN rfl (ha) ?_
    refine R_n 3 rfl rfl ?_
    refine N2_ltF rfl (by omega) (by omega) (by omega) ?_
    refine R_la0 rfl ?_
    refine R_getR rfl sh_144 rfl (rf_144_0 hrf) ?_
    refine R_ld1 rfl ?_
    refine R_ald rfl sh_145 (by first | decide | omega) (by omega) (hT.2.2 a (by omega)).1 ?_
    refine R_n 48 rfl rfl ?_
    refine R_sub rfl ?_
    refine R_c0 rfl (m_isMotion _) rfl rfl rfl ?_
    refine BB_eqF rfl ((inR_T hTa).trans (decide_eq_true c3)) ?_
    refine R_la0 rfl ?_
    refine R_getR rfl sh_144 rfl (rf_144_0 hrf) ?_
    refine R_ld1 rfl ?_
    refine R_n 1 rfl rfl ?_
    refine R_addN rfl ?_
    refine R_ald rfl sh_145 (by first | decide | omega) (by omega) (hT.2.2 (a + 1) (by omega)).1 ?_
    refine R_n 58 rfl rfl ?_
    refine N2_eqF rfl (by omega) (by omega) (c4) ?_
    refine R_n 0 rfl rfl ?_
    exact R_zret0 rfl (lf_0 (by unfold isRowT; rw [decide_eq_false c4]; simp))
  have hR : isRowT T l a e = (match ds T a (e - (a + 2)) with | some d => decide (0 < d) | none => false) := by
    unfold isRowT
    rw [decide_eq_true (show e < l by omega), decide_eq_true (show a + 3 ≤ e by omega), decide_eq_true c3, decide_eq_true c4]
    simp only [Bool.true_and]
  have hl := down (n := e - (a + 2)) (P := fun j => ∀ d, ds T a j = some d → PW p_c_X3_isRow 33 [some (.ref 144), some (.int (nI a)), some (.int (nI e)), some (.int (nI d)), some (.int (nI (a + 2 + j)))] [] (HP sl ρ rf) (fun zz => zz = (some (.int (bI (isRowT T l a e))), HP sl ρ rf))) ?_ ?_
  · refine PC_of (cd := p_c_X3_isRow) (L0 := [some (.ref 144), some (.int (nI a)), some (.int (nI e)), none, none]) rfl rfl ?_
    refine R_ld2 rfl ?_
    refine R_la0 rfl ?_
    refine R_getI rfl sh_144 rfl hT.1 ?_
    refine N2_geF rfl (by omega) (by omega) (by omega) ?_
    refine R_ld2 rfl ?_
    refine R_ld1 rfl ?_
    refine R_subN rfl (ha) ?_
    refine R_n 3 rfl rfl ?_
    refine N2_ltF rfl (by omega) (by omega) (by omega) ?_
    refine R_la0 rfl ?_
    refine R_getR rfl sh_144 rfl (rf_144_0 hrf) ?_
    refine R_ld1 rfl ?_
    refine R_ald rfl sh_145 (by first | decide | omega) (by omega) (hT.2.2 a (by omega)).1 ?_
    refine R_n 48 rfl rfl ?_
    refine R_sub rfl ?_
    refine R_c0 rfl (m_isMotion _) rfl rfl rfl ?_
    refine BB_eqF rfl ((inR_T hTa).trans (decide_eq_true c3)) ?_
    refine R_la0 rfl ?_
    refine R_getR rfl sh_144 rfl (rf_144_0 hrf) ?_
    refine R_ld1 rfl ?_
    refine R_n 1 rfl rfl ?_
    refine R_addN rfl ?_
    refine R_ald rfl sh_145 (by first | decide | omega) (by omega) (hT.2.2 (a + 1) (by omega)).1 ?_
    refine R_n 58 rfl rfl ?_
    refine N2_eqT rfl (by omega) (by omega) (c4) ?_
    refine R_n 0 rfl rfl ?_
    refine R_st3 rfl ?_
    refine R_ld1 rfl ?_
    refine R_n 2 rfl rfl ?_
    refine R_addN rfl ?_
    refine R_st4 rfl ?_
    exact hl 0 (Nat.zero_le _) 0 rfl
  · intro d hd
    have h2 := ds_2 hd
    by_cases hz : 0 < d
    · refine R_ld4 rfl ?_
      refine R_ld2 rfl ?_
      refine N2_geT rfl (by omega) (by omega) (by omega) ?_
      refine R_ld3 rfl ?_
      refine B1_leF rfl (fun q => absurd q (nI_nle hz (by omega))) ?_
      refine R_n 1 rfl rfl ?_
      refine R_goto rfl ?_
      exact R_zret1 rfl (lf_1 (by rw [hR, hd]; exact decide_eq_true hz))
    · refine R_ld4 rfl ?_
      refine R_ld2 rfl ?_
      refine N2_geT rfl (by omega) (by omega) (by omega) ?_
      refine R_ld3 rfl ?_
      refine B1_leT rfl (by rw [show d = 0 by omega]; decide) ?_
      refine R_n 0 rfl rfl ?_
      exact R_zret0 rfl (lf_0 (by rw [hR, hd]; exact decide_eq_false hz))
  · intro j hj hnext d hd
    have hTj := (hT.2.2 (a + 2 + j) (by omega)).2
    have h2 := ds_2 hd
    have hst := ds_step hd
    have hf : dstep d (T (a + 2 + j)) = none → isRowT T l a e = false := fun q => by
      rw [hR]
      have := ds_none (hst.trans q) (e - (a + 2) - (j + 1))
      rw [show j + 1 + (e - (a + 2) - (j + 1)) = e - (a + 2) by omega] at this
      rw [this]
    cases hg : dgB (T (a + 2 + j)) with
    | true =>
      have hne : ¬ T (a + 2 + j) = 46 := fun q => by rw [q] at hg; cases hg
      by_cases hd2 : 2 ≤ d
      · refine R_ld4 rfl ?_
        refine R_ld2 rfl ?_
        refine N2_geF rfl (by omega) (by omega) (by omega) ?_
        refine R_la0 rfl ?_
        refine R_getR rfl sh_144 rfl (rf_144_0 hrf) ?_
        refine R_ld4 rfl ?_
        refine R_ald rfl sh_145 (by first | decide | omega) (by omega) (hT.2.2 (a + 2 + j) (by omega)).1 ?_
        refine R_c0 rfl (m_isDigit (hT.2.2 (a + 2 + j) (by omega)).2) rfl rfl rfl ?_
        refine BB_eqF rfl (hg) ?_
        refine R_ld3 rfl ?_
        refine R_n 2 rfl rfl ?_
        refine N2_geT rfl (by omega) (by omega) (hd2) ?_
        refine R_la0 rfl ?_
        refine R_getR rfl sh_144 rfl (rf_144_0 hrf) ?_
        refine R_ld4 rfl ?_
        refine R_ald rfl sh_145 (by first | decide | omega) (by omega) (hT.2.2 (a + 2 + j) (by omega)).1 ?_
        refine R_n 46 rfl rfl ?_
        refine N2_neT rfl (by omega) (by omega) (hne) ?_
        refine R_n 0 rfl rfl ?_
        exact R_zret0 rfl (lf_0 (hf (by unfold dstep; rw [if_neg (by omega), if_neg (fun q => hne q.1)])))
      · refine R_ld4 rfl ?_
        refine R_ld2 rfl ?_
        refine N2_geF rfl (by omega) (by omega) (by omega) ?_
        refine R_la0 rfl ?_
        refine R_getR rfl sh_144 rfl (rf_144_0 hrf) ?_
        refine R_ld4 rfl ?_
        refine R_ald rfl sh_145 (by first | decide | omega) (by omega) (hT.2.2 (a + 2 + j) (by omega)).1 ?_
        refine R_c0 rfl (m_isDigit (hT.2.2 (a + 2 + j) (by omega)).2) rfl rfl rfl ?_
        refine BB_eqF rfl (hg) ?_
        refine R_ld3 rfl ?_
        refine R_n 2 rfl rfl ?_
        refine N2_geF rfl (by omega) (by omega) (by omega) ?_
        refine R_in3 rfl rfl ?_
        refine R_goto rfl ?_
        refine R_in4 rfl rfl ?_
        refine R_goto rfl ?_
        exact hnext _ (hst.trans (by unfold dstep; rw [if_pos ⟨hg, by omega⟩]))
    | false =>
      by_cases hp : T (a + 2 + j) = 46
      · by_cases hz : 0 < d
        · refine R_ld4 rfl ?_
          refine R_ld2 rfl ?_
          refine N2_geF rfl (by omega) (by omega) (by omega) ?_
          refine R_la0 rfl ?_
          refine R_getR rfl sh_144 rfl (rf_144_0 hrf) ?_
          refine R_ld4 rfl ?_
          refine R_ald rfl sh_145 (by first | decide | omega) (by omega) (hT.2.2 (a + 2 + j) (by omega)).1 ?_
          refine R_c0 rfl (m_isDigit (hT.2.2 (a + 2 + j) (by omega)).2) rfl rfl rfl ?_
          refine BB_eqT rfl (hg) ?_
          refine R_la0 rfl ?_
          refine R_getR rfl sh_144 rfl (rf_144_0 hrf) ?_
          refine R_ld4 rfl ?_
          refine R_ald rfl sh_145 (by first | decide | omega) (by omega) (hT.2.2 (a + 2 + j) (by omega)).1 ?_
          refine R_n 46 rfl rfl ?_
          refine N2_neF rfl (by omega) (by omega) (hp) ?_
          refine R_ld3 rfl ?_
          refine B1_leF rfl (fun q => absurd q (nI_nle hz (by omega))) ?_
          refine R_n 0 rfl rfl ?_
          refine R_st3 rfl ?_
          refine R_goto rfl ?_
          refine R_in4 rfl rfl ?_
          refine R_goto rfl ?_
          exact hnext _ (hst.trans (by unfold dstep; rw [if_neg (by rw [hg]; simp), if_pos ⟨hp, hz⟩]))
        · refine R_ld4 rfl ?_
          refine R_ld2 rfl ?_
          refine N2_geF rfl (by omega) (by omega) (by omega) ?_
          refine R_la0 rfl ?_
          refine R_getR rfl sh_144 rfl (rf_144_0 hrf) ?_
          refine R_ld4 rfl ?_
          refine R_ald rfl sh_145 (by first | decide | omega) (by omega) (hT.2.2 (a + 2 + j) (by omega)).1 ?_
          refine R_c0 rfl (m_isDigit (hT.2.2 (a + 2 + j) (by omega)).2) rfl rfl rfl ?_
          refine BB_eqT rfl (hg) ?_
          refine R_la0 rfl ?_
          refine R_getR rfl sh_144 rfl (rf_144_0 hrf) ?_
          refine R_ld4 rfl ?_
          refine R_ald rfl sh_145 (by first | decide | omega) (by omega) (hT.2.2 (a + 2 + j) (by omega)).1 ?_
          refine R_n 46 rfl rfl ?_
          refine N2_neF rfl (by omega) (by omega) (hp) ?_
          refine R_ld3 rfl ?_
          refine B1_leT rfl (by rw [show d = 0 by omega]; decide) ?_
          refine R_n 0 rfl rfl ?_
          exact R_zret0 rfl (lf_0 (hf (by unfold dstep; rw [if_neg (by rw [hg]; simp), if_neg (fun q => hz q.2)])))
      · refine R_ld4 rfl ?_
        refine R_ld2 rfl ?_
        refine N2_geF rfl (by omega) (by omega) (by omega) ?_
        refine R_la0 rfl ?_
        refine R_getR rfl sh_144 rfl (rf_144_0 hrf) ?_
        refine R_ld4 rfl ?_
        refine R_ald rfl sh_145 (by first | decide | omega) (by omega) (hT.2.2 (a + 2 + j) (by omega)).1 ?_
        refine R_c0 rfl (m_isDigit (hT.2.2 (a + 2 + j) (by omega)).2) rfl rfl rfl ?_
        refine BB_eqT rfl (hg) ?_
        refine R_la0 rfl ?_
        refine R_getR rfl sh_144 rfl (rf_144_0 hrf) ?_
        refine R_ld4 rfl ?_
        refine R_ald rfl sh_145 (by first | decide | omega) (by omega) (hT.2.2 (a + 2 + j) (by omega)).1 ?_
        refine R_n 46 rfl rfl ?_
        refine N2_neT rfl (by omega) (by omega) (hp) ?_
        refine R_n 0 rfl rfl ?_
        exact R_zret0 rfl (lf_0 (hf (by unfold dstep; rw [if_neg (by rw [hg]; simp), if_neg (fun q => hp q.1)])))

theorem m_highest (hrf : RFok rf) (hT : TX ρ T l) {a e d : Nat} (ha : a + 2 ≤ e) (he : e ≤ l) (hd : ds T a (e - (a + 2)) = some d) : PC 38 [.ref 144, .int (nI a), .int (nI e)] (HP sl ρ rf) (some (.int (nI (hv T a (e - (a + 2)))))) (HP sl ρ rf) := by
  have hl80 := hT.2.1
  have hl := down (n := e - (a + 2)) (P := fun j => PW p_c_X3_highestInputOfRow 8 [some (.ref 144), some (.int (nI a)), some (.int (nI e)), some (.int (nI (hv T a j))), some (.int (nI (nv T a j))), some (.int (nI (a + 2 + j)))] [] (HP sl ρ rf) (fun zz => zz = (some (.int (nI (hv T a (e - (a + 2))))), HP sl ρ rf))) ?_ ?_
  · refine PC_of (cd := p_c_X3_highestInputOfRow) (L0 := [some (.ref 144), some (.int (nI a)), some (.int (nI e)), none, none, none]) rfl rfl ?_
    refine R_n 0 rfl rfl ?_
    refine R_st3 rfl ?_
    refine R_n 0 rfl rfl ?_
    refine R_st4 rfl ?_
    refine R_ld1 rfl ?_
    refine R_n 2 rfl rfl ?_
    refine R_addN rfl ?_
    refine R_st5 rfl ?_
    exact hl 0 (Nat.zero_le _)
  · refine R_ld5 rfl ?_
    refine R_ld2 rfl ?_
    refine N2_geT rfl (by omega) (by omega) (by omega) ?_
    refine R_ld3 rfl ?_
    exact R_iret rfl (rfl)
  · intro j hj hnext
    obtain ⟨d1, hd1⟩ := ds_le (show j + 1 ≤ e - (a + 2) by omega) hd
    obtain ⟨d0, hd0⟩ := ds_le (show j ≤ e - (a + 2) by omega) hd
    have hch := ds_char hd1
    have hTj := (hT.2.2 (a + 2 + j) (by omega)).2
    have b1 := hv_le hd0
    have b2 := hv_le hd1
    have b3 : nv T a (j + 1) ≤ hv T a (j + 1) := Nat.le_max_right _ _
    by_cases hp : T (a + 2 + j) = 46
    · have e1 : nv T a (j + 1) = 0 := if_pos hp
      rw [show hv T a (j + 1) = max (hv T a j) 0 by show max _ (nv T a (j + 1)) = _; rw [e1], e1] at hnext
      refine R_ld5 rfl ?_
      refine R_ld2 rfl ?_
      refine N2_geF rfl (by omega) (by omega) (by omega) ?_
      refine R_la0 rfl ?_
      refine R_getR rfl sh_144 rfl (rf_144_0 hrf) ?_
      refine R_ld5 rfl ?_
      refine R_ald rfl sh_145 (by first | decide | omega) (by omega) (hT.2.2 (a + 2 + j) (by omega)).1 ?_
      refine R_n 46 rfl rfl ?_
      refine N2_neF rfl (by omega) (by omega) (hp) ?_
      refine R_n 0 rfl rfl ?_
      refine R_goto rfl ?_
      refine R_st4 rfl ?_
      refine R_ld3 rfl ?_
      refine R_ld4 rfl ?_
      refine R_max rfl (by omega) (by omega) rfl ?_
      refine R_st3 rfl ?_
      refine R_in5 rfl rfl ?_
      refine R_goto rfl ?_
      exact hnext
    · have e1 : nv T a (j + 1) = nv T a j * 10 + T (a + 2 + j) - 48 := if_neg hp
      rw [show hv T a (j + 1) = max (hv T a j) (nv T a j * 10 + T (a + 2 + j) - 48) by show max _ (nv T a (j + 1)) = _; rw [e1], e1] at hnext
      refine R_ld5 rfl ?_
      refine R_ld2 rfl ?_
      refine N2_geF rfl (by omega) (by omega) (by omega) ?_
      refine R_la0 rfl ?_
      refine R_getR rfl sh_144 rfl (rf_144_0 hrf) ?_
      refine R_ld5 rfl ?_
      refine R_ald rfl sh_145 (by first | decide | omega) (by omega) (hT.2.2 (a + 2 + j) (by omega)).1 ?_
      refine R_n 46 rfl rfl ?_
      refine N2_neT rfl (by omega) (by omega) (hp) ?_
      refine R_ld4 rfl ?_
      refine R_n 10 rfl rfl ?_
      refine R_mulN rfl ?_
      refine R_la0 rfl ?_
      refine R_getR rfl sh_144 rfl (rf_144_0 hrf) ?_
      refine R_ld5 rfl ?_
      refine R_ald rfl sh_145 (by first | decide | omega) (by omega) (hT.2.2 (a + 2 + j) (by omega)).1 ?_
      refine R_addN rfl ?_
      refine R_n 48 rfl rfl ?_
      refine R_subN rfl (by omega) ?_
      refine R_st4 rfl ?_
      refine R_ld3 rfl ?_
      refine R_ld4 rfl ?_
      refine R_max rfl (by omega) (by omega) rfl ?_
      refine R_st3 rfl ?_
      refine R_in5 rfl rfl ?_
      refine R_goto rfl ?_
      exact hnext

theorem m_inputsOfRow (hrf : RFok rf) (hT : TX ρ T l) {a e d : Nat} (ha : a + 2 ≤ e) (he : e ≤ l) (hd : ds T a (e - (a + 2)) = some d) : PC 39 [.ref 144, .int (nI a), .int (nI e)] (HP sl ρ rf) (some (.int (wI (iv T a (e - (a + 2))) (nv T a (e - (a + 2))) true))) (HP sl ρ rf) := by
  have hl80 := hT.2.1
  have hl := down (n := e - (a + 2)) (P := fun j => PW p_c_X3_inputsOfRow 8 [some (.ref 144), some (.int (nI a)), some (.int (nI e)), some (.int (iv T a j)), some (.int (nI (nv T a j))), some (.int (nI (a + 2 + j)))] [] (HP sl ρ rf) (fun zz => zz = ((some (.int (wI (iv T a (e - (a + 2))) (nv T a (e - (a + 2))) true))), HP sl ρ rf))) ?_ ?_
  · refine PC_of (cd := p_c_X3_inputsOfRow) (L0 := [some (.ref 144), some (.int (nI a)), some (.int (nI e)), none, none, none]) rfl rfl ?_
    refine R_n 0 rfl rfl ?_
    refine R_st3 rfl ?_
    refine R_n 0 rfl rfl ?_
    refine R_st4 rfl ?_
    refine R_ld1 rfl ?_
    refine R_n 2 rfl rfl ?_
    refine R_addN rfl ?_
    refine R_st5 rfl ?_
    exact hl 0 (Nat.zero_le _)
  · refine R_ld5 rfl ?_
    refine R_ld2 rfl ?_
    refine N2_geT rfl (by omega) (by omega) (by omega) ?_
    refine R_ld3 rfl ?_
    refine R_ld4 rfl ?_
    refine R_n 1 rfl rfl ?_
    refine R_c0 rfl (m_with _ _ true) rfl rfl rfl ?_
    exact R_iret rfl (rfl)
  · intro j hj hnext
    obtain ⟨d1, hd1⟩ := ds_le (show j + 1 ≤ e - (a + 2) by omega) hd
    have hch := ds_char hd1
    have hTj := (hT.2.2 (a + 2 + j) (by omega)).2
    by_cases hp : T (a + 2 + j) = 46
    · rw [show nv T a (j + 1) = 0 from if_pos hp, show iv T a (j + 1) = wI (iv T a j) (nv T a j) true from if_pos hp] at hnext
      refine R_ld5 rfl ?_
      refine R_ld2 rfl ?_
      refine N2_geF rfl (by omega) (by omega) (by omega) ?_
      refine R_la0 rfl ?_
      refine R_getR rfl sh_144 rfl (rf_144_0 hrf) ?_
      refine R_ld5 rfl ?_
      refine R_ald rfl sh_145 (by first | decide | omega) (by omega) (hT.2.2 (a + 2 + j) (by omega)).1 ?_
      refine R_n 46 rfl rfl ?_
      refine N2_neF rfl (by omega) (by omega) (hp) ?_
      refine R_ld3 rfl ?_
      refine R_ld4 rfl ?_
      refine R_n 1 rfl rfl ?_
      refine R_c0 rfl (m_with _ _ true) rfl rfl rfl ?_
      refine R_st3 rfl ?_
      refine R_n 0 rfl rfl ?_
      refine R_st4 rfl ?_
      refine R_goto rfl ?_
      refine R_in5 rfl rfl ?_
      refine R_goto rfl ?_
      exact hnext
    · rw [show nv T a (j + 1) = nv T a j * 10 + T (a + 2 + j) - 48 from if_neg hp, show iv T a (j + 1) = iv T a j from if_neg hp] at hnext
      refine R_ld5 rfl ?_
      refine R_ld2 rfl ?_
      refine N2_geF rfl (by omega) (by omega) (by omega) ?_
      refine R_la0 rfl ?_
      refine R_getR rfl sh_144 rfl (rf_144_0 hrf) ?_
      refine R_ld5 rfl ?_
      refine R_ald rfl sh_145 (by first | decide | omega) (by omega) (hT.2.2 (a + 2 + j) (by omega)).1 ?_
      refine R_n 46 rfl rfl ?_
      refine N2_neT rfl (by omega) (by omega) (hp) ?_
      refine R_ld4 rfl ?_
      refine R_n 10 rfl rfl ?_
      refine R_mulN rfl ?_
      refine R_la0 rfl ?_
      refine R_getR rfl sh_144 rfl (rf_144_0 hrf) ?_
      refine R_ld5 rfl ?_
      refine R_ald rfl sh_145 (by first | decide | omega) (by omega) (hT.2.2 (a + 2 + j) (by omega)).1 ?_
      refine R_addN rfl ?_
      refine R_n 48 rfl rfl ?_
      refine R_subN rfl (by omega) ?_
      refine R_st4 rfl ?_
      refine R_in5 rfl rfl ?_
      refine R_goto rfl ?_
      exact hnext

theorem m_rowsOf (hrf : RFok rf) (hT : TX ρ T l) {m a : Nat} (ha : a ≤ l) : PC 40 [.ref 144, .int (nI m), .int (nI a)] (HP sl ρ rf) (some (.int (nI (fb_ct (fun i => rp T m (i + 1)) (a - 1))))) (HP sl ρ rf) := by
  have hl80 := hT.2.1
  have hl := down (n := a - 1) (P := fun j => PW p_c_X3_rowsOfMotion 4 [some (.ref 144), some (.int (nI m)), some (.int (nI a)), some (.int (nI (fb_ct (fun i => rp T m (i + 1)) j))), some (.int (nI (1 + j)))] [] (HP sl ρ rf) (fun zz => zz = ((some (.int (nI (fb_ct (fun i => rp T m (i + 1)) (a - 1))))), HP sl ρ rf))) ?_ ?_
  · refine PC_of (cd := p_c_X3_rowsOfMotion) (L0 := [some (.ref 144), some (.int (nI m)), some (.int (nI a)), none, none]) rfl rfl ?_
    refine R_n 0 rfl rfl ?_
    refine R_st3 rfl ?_
    refine R_n 1 rfl rfl ?_
    refine R_st4 rfl ?_
    exact hl 0 (Nat.zero_le _)
  · refine R_ld4 rfl ?_
    refine R_ld2 rfl ?_
    refine N2_geT rfl (by omega) (by omega) (by omega) ?_
    refine R_ld3 rfl ?_
    exact R_iret rfl (rfl)
  · intro j hj hnext
    have hb := (hT.2.2 (1 + j) (by omega)).2
    refine R_ld4 rfl ?_
    refine R_ld2 rfl ?_
    refine N2_geF rfl (by omega) (by omega) (by omega) ?_
    refine R_la0 rfl ?_
    refine R_getR rfl sh_144 rfl (rf_144_0 hrf) ?_
    refine R_ld4 rfl ?_
    refine R_ald rfl sh_145 (by first | decide | omega) (by omega) (hT.2.2 (1 + j) (by omega)).1 ?_
    refine R_n 58 rfl rfl ?_
    refine N2_ne rfl (by omega) (by omega) (fun h12 => ?_) (fun h12 => ?_)
    · refine R_in4 rfl rfl ?_
      refine R_goto rfl ?_
      first | (rw [ct_f (f := fun i => rp T m (i + 1)) (show rp T m (j + 1) = false by unfold rp; rw [Nat.add_comm j 1, decide_eq_false h12]; rfl)] at hnext; exact hnext) | (rw [ct_f (f := fun i => rp T m (i + 1)) (show rp T m (j + 1) = false by unfold rp; rw [Nat.add_comm j 1, decide_eq_false h19, Bool.and_false])] at hnext; exact hnext) | (rw [ct_t (f := fun i => rp T m (i + 1)) (show rp T m (j + 1) = true by unfold rp; rw [Nat.add_comm j 1, decide_eq_true h12, decide_eq_true h19]; rfl)] at hnext; exact hnext)
    · refine R_la0 rfl ?_
      refine R_ld4 rfl ?_
      refine R_n 1 rfl rfl ?_
      refine R_subN rfl (by omega) ?_
      refine R_c1 rfl (m_motionOf hrf hT (by omega)) rfl rfl rfl sh_144 rfl rfl ?_
      refine R_ld1 rfl ?_
      refine B2_ne rfl (fun h19 => ?_) (fun h19 => ?_)
      · refine R_in4 rfl rfl ?_
        refine R_goto rfl ?_
        first | (rw [ct_f (f := fun i => rp T m (i + 1)) (show rp T m (j + 1) = false by unfold rp; rw [Nat.add_comm j 1, decide_eq_false h12]; rfl)] at hnext; exact hnext) | (rw [ct_f (f := fun i => rp T m (i + 1)) (show rp T m (j + 1) = false by unfold rp; rw [Nat.add_comm j 1, decide_eq_false h19, Bool.and_false])] at hnext; exact hnext) | (rw [ct_t (f := fun i => rp T m (i + 1)) (show rp T m (j + 1) = true by unfold rp; rw [Nat.add_comm j 1, decide_eq_true h12, decide_eq_true h19]; rfl)] at hnext; exact hnext)
      · refine R_in3 rfl rfl ?_
        refine R_in4 rfl rfl ?_
        refine R_goto rfl ?_
        first | (rw [ct_f (f := fun i => rp T m (i + 1)) (show rp T m (j + 1) = false by unfold rp; rw [Nat.add_comm j 1, decide_eq_false h12]; rfl)] at hnext; exact hnext) | (rw [ct_f (f := fun i => rp T m (i + 1)) (show rp T m (j + 1) = false by unfold rp; rw [Nat.add_comm j 1, decide_eq_false h19, Bool.and_false])] at hnext; exact hnext) | (rw [ct_t (f := fun i => rp T m (i + 1)) (show rp T m (j + 1) = true by unfold rp; rw [Nat.add_comm j 1, decide_eq_true h12, decide_eq_true h19]; rfl)] at hnext; exact hnext)

end
