/-! the inputs of the present state -/
/-- a mask built member by member -/
def wA (f : Nat → Bool) : Nat → Int32
  | 0 => 0
  | j + 1 => wI (wA f j) j (f j)
theorem wA_M {f : Nat → Bool} : ∀ {n : Nat}, n ≤ 16 → wA f n = M (fun i => decide (i < n) && f i)
  | 0, _ => by
    rw [show wA f 0 = 0 from rfl, ← M_0]
    exact M_ext fun i _ => by simp
  | n + 1, h => by
    show wI (wA f n) n (f n) = _
    rw [wA_M (Nat.le_of_succ_le h), M_w _ (by omega)]
    refine M_ext fun i _ => ?_
    by_cases e : i = n
    · subst e
      simp
    · rw [if_neg e]
      congr 1
      exact decide_eq_decide.mpr ⟨fun q => by omega, fun q => by omega⟩
theorem wA_t {f : Nat → Bool} {j : Nat} (h : f j = true) : wA f (j + 1) = wI (wA f j) j true := by show wI _ _ _ = _; rw [h]
theorem wA_f {f : Nat → Bool} {j : Nat} (h : f j = false) : wA f (j + 1) = wI (wA f j) j false := by show wI _ _ _ = _; rw [h]
theorem ct_t {f : Nat → Bool} {j : Nat} (h : f j = true) : fb_ct f (j + 1) = fb_ct f j + 1 := by rw [fb_ct_succ, if_pos h]
theorem ct_f {f : Nat → Bool} {j : Nat} (h : f j = false) : fb_ct f (j + 1) = fb_ct f j := by rw [fb_ct_succ, h]; rfl
/-- overdue; bridged -/
def ov (ρ : pR) (i : Nat) : Bool := decide (nI 0 < ρ 6 i) && decide (ρ 6 i < ρ 3 1 - ρ 7 i)
def br (ρ : pR) (i : Nat) : Bool := decide (nI 0 < ρ 8 i)
/-- counts as closed -/
def cM (ρ : pR) (n : Nat) (c : Nat → Bool) (i : Nat) : Bool := (decide (i < n) && br ρ i) || (c i && !(decide (i < n) && ov ρ i))
theorem ov_f1 {ρ : pR} {i : Nat} (h : ρ 6 i ≤ 0) : ov ρ i = false := by
  unfold ov
  rw [decide_eq_false (show ¬ nI 0 < ρ 6 i from Int32.not_lt.mpr h), Bool.false_and]
theorem ov_f2 {ρ : pR} {i : Nat} (h : ρ 3 1 - ρ 7 i ≤ ρ 6 i) : ov ρ i = false := by
  unfold ov
  rw [decide_eq_false (Int32.not_lt.mpr h), Bool.and_false]
theorem ov_t {ρ : pR} {i : Nat} (h : ¬ ρ 6 i ≤ 0) (h2 : ¬ ρ 3 1 - ρ 7 i ≤ ρ 6 i) : ov ρ i = true := by
  unfold ov
  rw [decide_eq_true (Int32.not_le.mp h2), decide_eq_true (show nI 0 < ρ 6 i from Int32.not_le.mp h)]
  rfl
theorem br_f1 {ρ : pR} {i : Nat} (h : ρ 8 i ≤ 0) : br ρ i = false := decide_eq_false (Int32.not_lt.mpr h)
theorem br_t1 {ρ : pR} {i : Nat} (h : ¬ ρ 8 i ≤ 0) : br ρ i = true := decide_eq_true (Int32.not_le.mp h)
/-- of the members of x the one whose bridge ends first -/
def eF (ρ : pR) (x : Int32) : Nat → Option Nat
  | 0 => none
  | j + 1 => match eF ρ x j with
    | none => if bt x j = true then some j else none
    | some f => if bt x j = true ∧ ρ 8 j < ρ 8 f then some j else some f
theorem eF_lt {ρ : pR} {x : Int32} : ∀ {j f : Nat}, eF ρ x j = some f → f < j
  | 0, f, h => by cases h
  | j + 1, f, h => by
    unfold eF at h
    split at h
    · split at h
      · cases h; omega
      · cases h
    · rename_i g hg
      have := eF_lt hg
      split at h <;> (cases h; omega)
/-- where the key is -/
def kA (ρ : pR) (key : Int32) (i : Nat) : Bool := decide (ρ 4 i = key) && bt (ρ 3 3) i
def kL (ρ : pR) (i : Nat) : Bool := decide (¬ ρ 4 i = -1) && bt (ρ 3 3) i
/-- one input's tick -/
def tkS (r : pR) (j : Nat) : pR :=
  let r1 := if nI 0 < r 8 j then u2 (u2 r 8 j (r 8 j - nI 1)) 9 j (r 9 j + nI 1) else r
  if r1 11 j < r1 3 1 then u2 r1 10 j (nI 0) else r1
def tkA (ρ : pR) : Nat → pR
  | 0 => u2 ρ 3 1 (ρ 3 1 + nI 1)
  | j + 1 => tkS (tkA ρ j) j
theorem tkA_n (ρ : pR) : ∀ j, tkA ρ j 3 0 = ρ 3 0
  | 0 => rfl
  | j + 1 => by
    have h := tkA_n ρ j
    show tkS (tkA ρ j) j 3 0 = _
    rw [← h]
    unfold tkS
    (repeat' split) <;> rfl
theorem tk1 {r : pR} {j : Nat} (h : ¬ nI 0 < r 8 j) (h2 : ¬ r 11 j < r 3 1) : tkS r j = r := by
  show (if (if nI 0 < r 8 j then u2 (u2 r 8 j (r 8 j - nI 1)) 9 j (r 9 j + nI 1) else r) 11 j < (if nI 0 < r 8 j then u2 (u2 r 8 j (r 8 j - nI 1)) 9 j (r 9 j + nI 1) else r) 3 1 then u2 (if nI 0 < r 8 j then u2 (u2 r 8 j (r 8 j - nI 1)) 9 j (r 9 j + nI 1) else r) 10 j (nI 0) else (if nI 0 < r 8 j then u2 (u2 r 8 j (r 8 j - nI 1)) 9 j (r 9 j + nI 1) else r)) = _
  rw [if_neg h, if_neg h2]
theorem tk2 {r : pR} {j : Nat} (h : ¬ nI 0 < r 8 j) (h2 : r 11 j < r 3 1) : tkS r j = u2 r 10 j (nI 0) := by
  show (if (if nI 0 < r 8 j then u2 (u2 r 8 j (r 8 j - nI 1)) 9 j (r 9 j + nI 1) else r) 11 j < (if nI 0 < r 8 j then u2 (u2 r 8 j (r 8 j - nI 1)) 9 j (r 9 j + nI 1) else r) 3 1 then u2 (if nI 0 < r 8 j then u2 (u2 r 8 j (r 8 j - nI 1)) 9 j (r 9 j + nI 1) else r) 10 j (nI 0) else (if nI 0 < r 8 j then u2 (u2 r 8 j (r 8 j - nI 1)) 9 j (r 9 j + nI 1) else r)) = _
  rw [if_neg h, if_pos h2]
theorem tk3 {r : pR} {j : Nat} (h : nI 0 < r 8 j) (h2 : ¬ r 11 j < r 3 1) : tkS r j = u2 (u2 r 8 j (r 8 j - nI 1)) 9 j (r 9 j + nI 1) := by
  show (if (if nI 0 < r 8 j then u2 (u2 r 8 j (r 8 j - nI 1)) 9 j (r 9 j + nI 1) else r) 11 j < (if nI 0 < r 8 j then u2 (u2 r 8 j (r 8 j - nI 1)) 9 j (r 9 j + nI 1) else r) 3 1 then u2 (if nI 0 < r 8 j then u2 (u2 r 8 j (r 8 j - nI 1)) 9 j (r 9 j + nI 1) else r) 10 j (nI 0) else (if nI 0 < r 8 j then u2 (u2 r 8 j (r 8 j - nI 1)) 9 j (r 9 j + nI 1) else r)) = _
  rw [if_pos h]
  exact if_neg h2
theorem tk4 {r : pR} {j : Nat} (h : nI 0 < r 8 j) (h2 : r 11 j < r 3 1) : tkS r j = u2 (u2 (u2 r 8 j (r 8 j - nI 1)) 9 j (r 9 j + nI 1)) 10 j (nI 0) := by
  show (if (if nI 0 < r 8 j then u2 (u2 r 8 j (r 8 j - nI 1)) 9 j (r 9 j + nI 1) else r) 11 j < (if nI 0 < r 8 j then u2 (u2 r 8 j (r 8 j - nI 1)) 9 j (r 9 j + nI 1) else r) 3 1 then u2 (if nI 0 < r 8 j then u2 (u2 r 8 j (r 8 j - nI 1)) 9 j (r 9 j + nI 1) else r) 10 j (nI 0) else (if nI 0 < r 8 j then u2 (u2 r 8 j (r 8 j - nI 1)) 9 j (r 9 j + nI 1) else r)) = _
  rw [if_pos h]
  exact if_pos h2
section
variable {sl : pS} {ρ : pR} {rf : pF}
theorem m_isLock (hrf : RFok rf) {j : Nat} (hj : j < 16) : PC 4 [.ref 3, .int (nI j)] (HP sl ρ rf) (some (.int (bI (decide (¬ ρ 4 j = -1))))) (HP sl ρ rf) := by
  refine PC_of (cd := p_c_X0_isLock) (L0 := [some (.ref 3), some (.int (nI j))]) rfl rfl ?_
  refine R_la0 rfl ?_
  refine R_getR rfl sh_3 rfl (rf_3_5 hrf) ?_
  refine R_ld1 rfl ?_
  refine R_ald rfl sh_4 (by first | decide | omega) (by omega) rfl ?_
  refine R_i rfl ?_
  refine B2_eq rfl (fun h5 => ?_) (fun h5 => ?_)
  · refine R_n 0 rfl rfl ?_
    exact R_zret0 rfl (by first | exact lf_1 (decide_eq_true (by assumption)) | exact lf_0 (decide_eq_false (fun q => q (by assumption))))
  · refine R_n 1 rfl rfl ?_
    refine R_goto rfl ?_
    exact R_zret1 rfl (by first | exact lf_1 (decide_eq_true (by assumption)) | exact lf_0 (decide_eq_false (fun q => q (by assumption))))

theorem m_overdue {n : Nat} (hrf : RFok rf) (hn : ρ 3 0 = nI n) (h16 : n ≤ 16) : PC 5 [.ref 3] (HP sl ρ rf) (some (.int (wA (ov ρ) n))) (HP sl ρ rf) := by
  have hl := down (n := n) (P := fun j => ∀ w0 : Option Value, PW p_c_X0_overdueOnes 4 [some (.ref 3), some (.int (wA (ov ρ) j)), some (.int (nI j)), w0] [] (HP sl ρ rf) (fun zz => zz = ((some (.int (wA (ov ρ) n))), HP sl ρ rf))) ?_ ?_
  · refine PC_of (cd := p_c_X0_overdueOnes) (L0 := [some (.ref 3), none, none, none]) rfl rfl ?_
    refine R_n 0 rfl rfl ?_
    refine R_st1 rfl ?_
    refine R_n 0 rfl rfl ?_
    refine R_st2 rfl ?_
    exact hl 0 (Nat.zero_le _) _
  · intro w0
    refine R_ld2 rfl ?_
    refine R_la0 rfl ?_
    refine R_getI rfl sh_3 rfl hn ?_
    refine N2_geT rfl (by omega) (by omega) (by omega) ?_
    refine R_ld1 rfl ?_
    exact R_iret rfl (rfl)
  · intro j hj hnext w0
    refine R_ld2 rfl ?_
    refine R_la0 rfl ?_
    refine R_getI rfl sh_3 rfl hn ?_
    refine N2_geF rfl (by omega) (by omega) (hj) ?_
    refine R_la0 rfl ?_
    refine R_getR rfl sh_3 rfl (rf_3_7 hrf) ?_
    refine R_ld2 rfl ?_
    refine R_ald rfl sh_6 (by first | decide | omega) (by omega) rfl ?_
    refine B1_le rfl (fun h12 => ?_) (fun h12 => ?_)
    · refine R_n 0 rfl rfl ?_
      refine R_st3 rfl ?_
      refine R_ld1 rfl ?_
      refine R_ld2 rfl ?_
      refine R_ld3 rfl ?_
      refine R_c0 rfl (m_with _ _ false) rfl rfl rfl ?_
      refine R_st1 rfl ?_
      refine R_in2 rfl rfl ?_
      refine R_goto rfl ?_
      first | rw [wA_f (ov_f1 h12)] at hnext | rw [wA_f (ov_f2 h24)] at hnext
      exact hnext _
    · refine R_la0 rfl ?_
      refine R_getI rfl sh_3 rfl rfl ?_
      refine R_la0 rfl ?_
      refine R_getR rfl sh_3 rfl (rf_3_8 hrf) ?_
      refine R_ld2 rfl ?_
      refine R_ald rfl sh_7 (by first | decide | omega) (by omega) rfl ?_
      refine R_sub rfl ?_
      refine R_la0 rfl ?_
      refine R_getR rfl sh_3 rfl (rf_3_7 hrf) ?_
      refine R_ld2 rfl ?_
      refine R_ald rfl sh_6 (by first | decide | omega) (by omega) rfl ?_
      refine B2_le rfl (fun h24 => ?_) (fun h24 => ?_)
      · refine R_n 0 rfl rfl ?_
        refine R_st3 rfl ?_
        refine R_ld1 rfl ?_
        refine R_ld2 rfl ?_
        refine R_ld3 rfl ?_
        refine R_c0 rfl (m_with _ _ false) rfl rfl rfl ?_
        refine R_st1 rfl ?_
        refine R_in2 rfl rfl ?_
        refine R_goto rfl ?_
        first | rw [wA_f (ov_f1 h12)] at hnext | rw [wA_f (ov_f2 h24)] at hnext
        exact hnext _
      · refine R_n 1 rfl rfl ?_
        refine R_goto rfl ?_
        refine R_st3 rfl ?_
        refine R_ld1 rfl ?_
        refine R_ld2 rfl ?_
        refine R_ld3 rfl ?_
        refine R_c0 rfl (m_with _ _ true) rfl rfl rfl ?_
        refine R_st1 rfl ?_
        refine R_in2 rfl rfl ?_
        refine R_goto rfl ?_
        rw [wA_t (ov_t h12 h24)] at hnext
        exact hnext _

theorem m_bridgedOnes {n : Nat} (hrf : RFok rf) (hn : ρ 3 0 = nI n) (h16 : n ≤ 16) : PC 6 [.ref 3] (HP sl ρ rf) (some (.int (wA (br ρ) n))) (HP sl ρ rf) := by
  have hl := down (n := n) (P := fun j => PW p_c_X0_bridgedOnes 4 [some (.ref 3), some (.int (wA (br ρ) j)), some (.int (nI j))] [] (HP sl ρ rf) (fun zz => zz = ((some (.int (wA (br ρ) n))), HP sl ρ rf))) ?_ ?_
  · refine PC_of (cd := p_c_X0_bridgedOnes) (L0 := [some (.ref 3), none, none]) rfl rfl ?_
    refine R_n 0 rfl rfl ?_
    refine R_st1 rfl ?_
    refine R_n 0 rfl rfl ?_
    refine R_st2 rfl ?_
    exact hl 0 (Nat.zero_le _)
  · refine R_ld2 rfl ?_
    refine R_la0 rfl ?_
    refine R_getI rfl sh_3 rfl hn ?_
    refine N2_geT rfl (by omega) (by omega) (by omega) ?_
    refine R_ld1 rfl ?_
    exact R_iret rfl (rfl)
  · intro j hj hnext
    refine R_ld2 rfl ?_
    refine R_la0 rfl ?_
    refine R_getI rfl sh_3 rfl hn ?_
    refine N2_geF rfl (by omega) (by omega) (hj) ?_
    refine R_ld1 rfl ?_
    refine R_ld2 rfl ?_
    refine R_la0 rfl ?_
    refine R_getR rfl sh_3 rfl (rf_3_9 hrf) ?_
    refine R_ld2 rfl ?_
    refine R_ald rfl sh_8 (by first | decide | omega) (by omega) rfl ?_
    refine B1_le rfl (fun h14 => ?_) (fun h14 => ?_)
    · refine R_n 0 rfl rfl ?_
      refine R_c0 rfl (m_with _ _ false) rfl rfl rfl ?_
      refine R_st1 rfl ?_
      refine R_in2 rfl rfl ?_
      refine R_goto rfl ?_
      first | rw [wA_f (br_f1 h14)] at hnext | rw [wA_t (br_t1 h14)] at hnext
      exact hnext
    · refine R_n 1 rfl rfl ?_
      refine R_goto rfl ?_
      refine R_c0 rfl (m_with _ _ true) rfl rfl rfl ?_
      refine R_st1 rfl ?_
      refine R_in2 rfl rfl ?_
      refine R_goto rfl ?_
      first | rw [wA_f (br_f1 h14)] at hnext | rw [wA_t (br_t1 h14)] at hnext
      exact hnext

theorem m_counting {n : Nat} (hrf : RFok rf) (hn : ρ 3 0 = nI n) (h16 : n ≤ 16) {c : Nat → Bool} (hc : ρ 3 3 = M c) : PC 7 [.ref 3] (HP sl ρ rf) (some (.int (M (cM ρ n c)))) (HP sl ρ rf) := by
  refine PC_of (cd := p_c_X0_countingAsClosed) (L0 := [some (.ref 3)]) rfl rfl ?_
  refine R_la0 rfl ?_
  refine R_c1 rfl (m_bridgedOnes hrf hn h16) rfl rfl rfl sh_3 rfl rfl ?_
  refine R_la0 rfl ?_
  refine R_getI rfl sh_3 rfl hc ?_
  refine R_la0 rfl ?_
  refine R_c1 rfl (m_overdue hrf hn h16) rfl rfl rfl sh_3 rfl rfl ?_
  refine R_i rfl ?_
  refine R_xor rfl ?_
  refine R_and rfl ?_
  refine R_or rfl ?_
  exact R_iret rfl (lf_i (by rw [wA_M h16, wA_M h16, M_andn, M_or]; rfl))

theorem m_endsFirst {n : Nat} (hrf : RFok rf) (hn : ρ 3 0 = nI n) (h16 : n ≤ 16) (x0 : Int32) : PC 8 [.ref 3, .int x0] (HP sl ρ rf) (some (.int (fI (eF ρ x0 n)))) (HP sl ρ rf) := by
  have hl := down (n := n) (P := fun j => PW p_c_X0_endsFirst 4 [some (.ref 3), some (.int x0), some (.int (fI (eF ρ x0 j))), some (.int (nI j))] [] (HP sl ρ rf) (fun zz => zz = (some (.int (fI (eF ρ x0 n))), HP sl ρ rf))) ?_ ?_
  · refine PC_of (cd := p_c_X0_endsFirst) (L0 := [some (.ref 3), some (.int x0), none, none]) rfl rfl ?_
    refine R_i rfl ?_
    refine R_st2 rfl ?_
    refine R_n 0 rfl rfl ?_
    refine R_st3 rfl ?_
    exact hl 0 (Nat.zero_le _)
  · refine R_ld3 rfl ?_
    refine R_la0 rfl ?_
    refine R_getI rfl sh_3 rfl hn ?_
    refine N2_geT rfl (by omega) (by omega) (by omega) ?_
    refine R_ld2 rfl ?_
    exact R_iret rfl (rfl)
  · intro j hj hnext
    cases hb : bt x0 j with
    | false =>
      have e : eF ρ x0 (j + 1) = eF ρ x0 j := by
        show (match eF ρ x0 j with | none => if bt x0 j = true then some j else none | some f => if bt x0 j = true ∧ ρ 8 j < ρ 8 f then some j else some f) = _
        rw [hb]
        cases eF ρ x0 j <;> simp
      rw [e] at hnext
      refine R_ld3 rfl ?_
      refine R_la0 rfl ?_
      refine R_getI rfl sh_3 rfl hn ?_
      refine N2_geF rfl (by omega) (by omega) (hj) ?_
      refine R_ld1 rfl ?_
      refine R_ld3 rfl ?_
      refine R_c0 rfl (m_has _ (by omega)) rfl rfl rfl ?_
      refine BB_eqT rfl (hb) ?_
      refine R_in3 rfl rfl ?_
      refine R_goto rfl ?_
      exact hnext
    | true =>
      cases he : eF ρ x0 j with
      | none =>
        have e : eF ρ x0 (j + 1) = some j := by
          show (match eF ρ x0 j with | none => if bt x0 j = true then some j else none | some f => if bt x0 j = true ∧ ρ 8 j < ρ 8 f then some j else some f) = _
          rw [hb, he]
          rfl
        rw [e] at hnext
        refine R_ld3 rfl ?_
        refine R_la0 rfl ?_
        refine R_getI rfl sh_3 rfl hn ?_
        refine N2_geF rfl (by omega) (by omega) (hj) ?_
        refine R_ld1 rfl ?_
        refine R_ld3 rfl ?_
        refine R_c0 rfl (m_has _ (by omega)) rfl rfl rfl ?_
        refine BB_eqF rfl (hb) ?_
        refine R_ld2 rfl ?_
        refine R_i rfl ?_
        refine B2_eqT rfl (rfl) ?_
        refine R_ld3 rfl ?_
        refine R_st2 rfl ?_
        refine R_in3 rfl rfl ?_
        refine R_goto rfl ?_
        exact hnext
      | some f =>
        have hf := eF_lt he
        have e : eF ρ x0 (j + 1) = if ρ 8 j < ρ 8 f then some j else some f := by
          show (match eF ρ x0 j with | none => if bt x0 j = true then some j else none | some f => if bt x0 j = true ∧ ρ 8 j < ρ 8 f then some j else some f) = _
          rw [hb, he]
          simp
        rw [e] at hnext
        show PW p_c_X0_endsFirst 4 [some (.ref 3), some (.int x0), some (.int (nI f)), some (.int (nI j))] [] (HP sl ρ rf) _
        refine R_ld3 rfl ?_
        refine R_la0 rfl ?_
        refine R_getI rfl sh_3 rfl hn ?_
        refine N2_geF rfl (by omega) (by omega) (hj) ?_
        refine R_ld1 rfl ?_
        refine R_ld3 rfl ?_
        refine R_c0 rfl (m_has _ (by omega)) rfl rfl rfl ?_
        refine BB_eqF rfl (hb) ?_
        refine R_ld2 rfl ?_
        refine R_i rfl ?_
        refine B2_eqF rfl (fun q => absurd q (by intro q; exact absurd (show nI f < 0 by rw [q]; decide) (nI_pos (by omega)))) ?_
        refine R_la0 rfl ?_
        refine R_getR rfl sh_3 rfl (rf_3_9 hrf) ?_
        refine R_ld3 rfl ?_
        refine R_ald rfl sh_8 (by first | decide | omega) (by omega) rfl ?_
        refine R_la0 rfl ?_
        refine R_getR rfl sh_3 rfl (rf_3_9 hrf) ?_
        refine R_ld2 rfl ?_
        refine R_ald rfl sh_8 (by first | decide | omega) (by omega) rfl ?_
        refine B2_ge rfl (fun h23 => ?_) (fun h23 => ?_)
        · refine R_in3 rfl rfl ?_
          refine R_goto rfl ?_
          first | (rw [if_neg (Int32.not_lt.mpr h23)] at hnext; exact hnext) | (rw [if_pos (Int32.not_le.mp h23)] at hnext; exact hnext)
        · refine R_ld3 rfl ?_
          refine R_st2 rfl ?_
          refine R_in3 rfl rfl ?_
          refine R_goto rfl ?_
          first | (rw [if_neg (Int32.not_lt.mpr h23)] at hnext; exact hnext) | (rw [if_pos (Int32.not_le.mp h23)] at hnext; exact hnext)

theorem m_placeOfKey {n : Nat} (hrf : RFok rf) (hn : ρ 3 0 = nI n) (h16 : n ≤ 16) (key : Int32) : PC 9 [.ref 3, .int key] (HP sl ρ rf) (some (.int (fI (ff (kA ρ key) n)))) (HP sl ρ rf) := by
  have hl := down (n := n) (P := fun j => (∀ i, i < j → kA ρ key i = false) → PW p_c_X0_placeOfKey 2 [some (.ref 3), some (.int key), some (.int (nI j))] [] (HP sl ρ rf) (fun zz => zz = ((some (.int (fI (ff (kA ρ key) n)))), HP sl ρ rf))) ?_ ?_
  · refine PC_of (cd := p_c_X0_placeOfKey) (L0 := [some (.ref 3), some (.int key), none]) rfl rfl ?_
    refine R_n 0 rfl rfl ?_
    refine R_st2 rfl ?_
    exact hl 0 (Nat.zero_le _) (fun i hi => absurd hi (Nat.not_lt_zero _))
  · intro hno
    refine R_ld2 rfl ?_
    refine R_la0 rfl ?_
    refine R_getI rfl sh_3 rfl hn ?_
    refine N2_geT rfl (by omega) (by omega) (by omega) ?_
    refine R_i rfl ?_
    exact R_iret rfl (lf_i (by rw [ff_none hno]; rfl))
  · intro j hj hnext hno
    refine R_ld2 rfl ?_
    refine R_la0 rfl ?_
    refine R_getI rfl sh_3 rfl hn ?_
    refine N2_geF rfl (by omega) (by omega) (hj) ?_
    refine R_la0 rfl ?_
    refine R_getR rfl sh_3 rfl (rf_3_5 hrf) ?_
    refine R_ld2 rfl ?_
    refine R_ald rfl sh_4 (by first | decide | omega) (by omega) rfl ?_
    refine R_ld1 rfl ?_
    refine B2_ne rfl (fun h11 => ?_) (fun h11 => ?_)
    · refine R_in2 rfl rfl ?_
      refine R_goto rfl ?_
      refine hnext (fun i hi => ?_)
      by_cases hij : i = j
      · subst hij
        unfold kA
        first | rw [g16] | rw [decide_eq_false h11]
        simp
      · exact hno i (by omega)
    · refine R_la0 rfl ?_
      refine R_getI rfl sh_3 rfl rfl ?_
      refine R_ld2 rfl ?_
      refine R_c0 rfl (m_has _ (by omega)) rfl rfl rfl ?_
      refine BB_eq rfl (fun g16 => ?_) (fun g16 => ?_)
      · refine R_in2 rfl rfl ?_
        refine R_goto rfl ?_
        refine hnext (fun i hi => ?_)
        by_cases hij : i = j
        · subst hij
          unfold kA
          first | rw [g16] | rw [decide_eq_false h11]
          simp
        · exact hno i (by omega)
      · refine R_ld2 rfl ?_
        exact R_iret rfl (lf_i (by rw [ff_some (p := kA ρ key) (by unfold kA; rw [decide_eq_true h11, g16]; rfl) hno hj]; rfl))

theorem m_keysIn {n : Nat} (hrf : RFok rf) (hn : ρ 3 0 = nI n) (h16 : n ≤ 16) : PC 10 [.ref 3] (HP sl ρ rf) (some (.int (nI (fb_ct (kL ρ) n)))) (HP sl ρ rf) := by
  have hl := down (n := n) (P := fun j => PW p_c_X0_keysInLocks 4 [some (.ref 3), some (.int (nI (fb_ct (kL ρ) j))), some (.int (nI j))] [] (HP sl ρ rf) (fun zz => zz = ((some (.int (nI (fb_ct (kL ρ) n)))), HP sl ρ rf))) ?_ ?_
  · refine PC_of (cd := p_c_X0_keysInLocks) (L0 := [some (.ref 3), none, none]) rfl rfl ?_
    refine R_n 0 rfl rfl ?_
    refine R_st1 rfl ?_
    refine R_n 0 rfl rfl ?_
    refine R_st2 rfl ?_
    exact hl 0 (Nat.zero_le _)
  · refine R_ld2 rfl ?_
    refine R_la0 rfl ?_
    refine R_getI rfl sh_3 rfl hn ?_
    refine N2_geT rfl (by omega) (by omega) (by omega) ?_
    refine R_ld1 rfl ?_
    exact R_iret rfl (rfl)
  · intro j hj hnext
    refine R_ld2 rfl ?_
    refine R_la0 rfl ?_
    refine R_getI rfl sh_3 rfl hn ?_
    refine N2_geF rfl (by omega) (by omega) (hj) ?_
    refine R_la0 rfl ?_
    refine R_ld2 rfl ?_
    refine R_c1 rfl (m_isLock hrf (by omega)) rfl rfl rfl sh_3 rfl rfl ?_
    refine BB_eq rfl (fun h11 => ?_) (fun h11 => ?_)
    · refine R_in2 rfl rfl ?_
      refine R_goto rfl ?_
      first | rw [ct_f (show kL ρ j = false by unfold kL; rw [h11]; rfl)] at hnext | rw [ct_f (show kL ρ j = false by unfold kL; rw [g16, Bool.and_false])] at hnext | rw [ct_t (show kL ρ j = true by unfold kL; rw [h11, g16]; rfl)] at hnext
      exact hnext
    · refine R_la0 rfl ?_
      refine R_getI rfl sh_3 rfl rfl ?_
      refine R_ld2 rfl ?_
      refine R_c0 rfl (m_has _ (by omega)) rfl rfl rfl ?_
      refine BB_eq rfl (fun g16 => ?_) (fun g16 => ?_)
      · refine R_in2 rfl rfl ?_
        refine R_goto rfl ?_
        first | rw [ct_f (show kL ρ j = false by unfold kL; rw [h11]; rfl)] at hnext | rw [ct_f (show kL ρ j = false by unfold kL; rw [g16, Bool.and_false])] at hnext | rw [ct_t (show kL ρ j = true by unfold kL; rw [h11, g16]; rfl)] at hnext
        exact hnext
      · refine R_in1 rfl rfl ?_
        refine R_in2 rfl rfl ?_
        refine R_goto rfl ?_
        first | rw [ct_f (show kL ρ j = false by unfold kL; rw [h11]; rfl)] at hnext | rw [ct_f (show kL ρ j = false by unfold kL; rw [g16, Bool.and_false])] at hnext | rw [ct_t (show kL ρ j = true by unfold kL; rw [h11, g16]; rfl)] at hnext
        exact hnext

theorem m_guard {n : Nat} (hrf : RFok rf) (hn : ρ 3 0 = nI n) (h16 : n ≤ 16) {c : Nat → Bool} (hc : ρ 3 3 = M c) {i : Nat} (hi : i < 16) {g : Option Nat} (hg : ρ 5 i = fI g) (hg16 : ∀ a, g = some a → a < 16) : PC 11 [.ref 3, .int (nI i)] (HP sl ρ rf) (some (.int (bI (match g with | none => true | some a => cM ρ n c a)))) (HP sl ρ rf) := by
  refine PC_of (cd := p_c_X0_guardAllows) (L0 := [some (.ref 3), some (.int (nI i))]) rfl rfl ?_
  cases g with
  | none =>
    refine R_la0 rfl ?_
    refine R_getR rfl sh_3 rfl (rf_3_6 hrf) ?_
    refine R_ld1 rfl ?_
    refine R_ald rfl sh_5 (by first | decide | omega) (by omega) rfl ?_
    refine R_i rfl ?_
    refine B2_eqT rfl (hg) ?_
    refine R_n 1 rfl rfl ?_
    refine R_goto rfl ?_
    exact R_zret1 rfl (lf_1 rfl)
  | some a =>
    have ha := hg16 a rfl
    refine R_la0 rfl ?_
    refine R_getR rfl sh_3 rfl (rf_3_6 hrf) ?_
    refine R_ld1 rfl ?_
    refine R_ald rfl sh_5 (by first | decide | omega) (by omega) rfl ?_
    refine R_i rfl ?_
    refine B2_eqF rfl (fun q => absurd (show nI a < 0 by rw [← (show ρ 5 i = nI a from hg), q]; decide) (nI_pos (by omega))) ?_
    refine R_la0 rfl ?_
    refine R_c1 rfl (m_counting hrf hn h16 hc) rfl rfl rfl sh_3 rfl rfl ?_
    refine R_la0 rfl ?_
    refine R_getR rfl sh_3 rfl (rf_3_6 hrf) ?_
    refine R_ld1 rfl ?_
    refine R_ald rfl sh_5 (by first | decide | omega) (by omega) hg ?_
    refine R_c0 rfl (m_has _ (by omega)) rfl rfl rfl ?_
    refine BB_eq rfl (fun h13 => ?_) (fun h13 => ?_)
    · refine R_n 0 rfl rfl ?_
      exact R_zret0 rfl (lf_0 (by rw [M_bt _ (by omega)] at h13; simpa [ha] using h13))
    · refine R_n 1 rfl rfl ?_
      refine R_goto rfl ?_
      exact R_zret1 rfl (lf_1 (by rw [M_bt _ (by omega)] at h13; simpa [ha] using h13))

theorem m_canTest (hrf : RFok rf) {j : Nat} (hj : j < 16) : PC 12 [.ref 3, .int (nI j)] (HP sl ρ rf) (some (.int (bI (!(decide (¬ ρ 4 j = -1)) && (bt (ρ 3 3) j && decide (ρ 10 j = 0)))))) (HP sl ρ rf) := by
  refine PC_of (cd := p_c_X0_canBeTested) (L0 := [some (.ref 3), some (.int (nI j))]) rfl rfl ?_
  refine R_la0 rfl ?_
  refine R_ld1 rfl ?_
  refine R_c1 rfl (m_isLock hrf hj) rfl rfl rfl sh_3 rfl rfl ?_
  refine BB_ne rfl (fun h3 => ?_) (fun h3 => ?_)
  · refine R_n 0 rfl rfl ?_
    exact R_zret0 rfl (lf_0 (by simp only [*]; first | rfl | simp))
  · refine R_la0 rfl ?_
    refine R_getI rfl sh_3 rfl rfl ?_
    refine R_ld1 rfl ?_
    refine R_c0 rfl (m_has _ (by omega)) rfl rfl rfl ?_
    refine BB_eq rfl (fun h8 => ?_) (fun h8 => ?_)
    · refine R_n 0 rfl rfl ?_
      exact R_zret0 rfl (lf_0 (by simp only [*]; first | rfl | simp))
    · refine R_la0 rfl ?_
      refine R_getR rfl sh_3 rfl (rf_3_11 hrf) ?_
      refine R_ld1 rfl ?_
      refine R_ald rfl sh_10 (by first | decide | omega) (by omega) rfl ?_
      refine B1_ne rfl (fun h13 => ?_) (fun h13 => ?_)
      · refine R_n 0 rfl rfl ?_
        exact R_zret0 rfl (lf_0 (by simp only [*]; first | rfl | simp))
      · refine R_n 1 rfl rfl ?_
        refine R_goto rfl ?_
        exact R_zret1 rfl (lf_1 (by simp only [*]; first | rfl | simp))

theorem m_beginTest (hrf : RFok rf) {j : Nat} (hj : j < 16) : PC 13 [.ref 3, .int (nI j)] (HP sl ρ rf) (some (.int (ρ 3 1 + nI 20))) (HP sl (u2 (u2 ρ 10 j (nI 1)) 11 j (ρ 3 1 + nI 20)) rf) := by
  refine PC_of (cd := p_c_X0_beginTest) (L0 := [some (.ref 3), some (.int (nI j))]) rfl rfl ?_
  refine R_la0 rfl ?_
  refine R_getR rfl sh_3 rfl (rf_3_11 hrf) ?_
  refine R_ld1 rfl ?_
  refine R_n 1 rfl rfl ?_
  refine R_ast rfl sh_10 (by decide) (by omega) ?_
  refine R_la0 rfl ?_
  refine R_getR rfl sh_3 rfl (rf_3_12 hrf) ?_
  refine R_ld1 rfl ?_
  refine R_la0 rfl ?_
  refine R_getI rfl sh_3 rfl (show _ = ρ 3 1 from rfl) ?_
  refine R_n 20 rfl rfl ?_
  refine R_add rfl ?_
  refine R_ast rfl sh_11 (by decide) (by omega) ?_
  refine R_la0 rfl ?_
  refine R_getR rfl sh_3 rfl (rf_3_12 hrf) ?_
  refine R_ld1 rfl ?_
  refine R_ald rfl sh_11 (by first | decide | omega) (by omega) (show _ = ρ 3 1 + nI 20 from if_pos rfl) ?_
  exact R_iret rfl (rfl)

/-- a sensor is opened, closed -/
def opS (ρ : pR) (i : Nat) : pR := if ρ 10 i = nI 1 then u2 (u2 ρ 3 3 (wI (ρ 3 3) i false)) 10 i (nI 2) else u2 ρ 3 3 (wI (ρ 3 3) i false)
def clS (ρ : pR) (i : Nat) : pR := if ρ 10 i = nI 2 then u2 (u2 (u2 (u2 ρ 3 3 (wI (ρ 3 3) i true)) 10 i (nI 0)) 7 i (ρ 3 1)) 3 2 (ρ 3 2 + nI 1) else u2 ρ 3 3 (wI (ρ 3 3) i true)
theorem m_openS (hrf : RFok rf) {j : Nat} (hj : j < 16) : PC 14 [.ref 3, .int (nI j)] (HP sl ρ rf) none (HP sl (opS ρ j) rf) := by
  refine PC_of (cd := p_c_X0_openSensor) (L0 := [some (.ref 3), some (.int (nI j))]) rfl rfl ?_
  refine R_la0 rfl ?_
  refine R_la0 rfl ?_
  refine R_getI rfl sh_3 rfl rfl ?_
  refine R_ld1 rfl ?_
  refine R_n 0 rfl rfl ?_
  refine R_c0 rfl (m_with _ _ false) rfl rfl rfl ?_
  refine R_putI rfl sh_3 rfl ?_
  refine R_la0 rfl ?_
  refine R_getR rfl sh_3 rfl (rf_3_11 hrf) ?_
  refine R_ld1 rfl ?_
  refine R_ald rfl sh_10 (by first | decide | omega) (by omega) (show _ = ρ 10 j from rfl) ?_
  refine R_n 1 rfl rfl ?_
  refine B2_ne rfl (fun h12 => ?_) (fun h12 => ?_)
  · exact R_ret rfl (by unfold opS; first | rw [if_pos h12] | rw [if_neg h12])
  · refine R_la0 rfl ?_
    refine R_getR rfl sh_3 rfl (rf_3_11 hrf) ?_
    refine R_ld1 rfl ?_
    refine R_n 2 rfl rfl ?_
    refine R_ast rfl sh_10 (by decide) (by omega) ?_
    exact R_ret rfl (by unfold opS; first | rw [if_pos h12] | rw [if_neg h12])

theorem m_closeS (hrf : RFok rf) {j : Nat} (hj : j < 16) : PC 15 [.ref 3, .int (nI j)] (HP sl ρ rf) none (HP sl (clS ρ j) rf) := by
  refine PC_of (cd := p_c_X0_closeSensor) (L0 := [some (.ref 3), some (.int (nI j))]) rfl rfl ?_
  refine R_la0 rfl ?_
  refine R_la0 rfl ?_
  refine R_getI rfl sh_3 rfl rfl ?_
  refine R_ld1 rfl ?_
  refine R_n 1 rfl rfl ?_
  refine R_c0 rfl (m_with _ _ true) rfl rfl rfl ?_
  refine R_putI rfl sh_3 rfl ?_
  refine R_la0 rfl ?_
  refine R_getR rfl sh_3 rfl (rf_3_11 hrf) ?_
  refine R_ld1 rfl ?_
  refine R_ald rfl sh_10 (by first | decide | omega) (by omega) (show _ = ρ 10 j from rfl) ?_
  refine R_n 2 rfl rfl ?_
  refine B2_ne rfl (fun h12 => ?_) (fun h12 => ?_)
  · exact R_ret rfl (by unfold clS; first | rw [if_pos h12] | rw [if_neg h12])
  · refine R_la0 rfl ?_
    refine R_getR rfl sh_3 rfl (rf_3_11 hrf) ?_
    refine R_ld1 rfl ?_
    refine R_n 0 rfl rfl ?_
    refine R_ast rfl sh_10 (by decide) (by omega) ?_
    refine R_la0 rfl ?_
    refine R_getR rfl sh_3 rfl (rf_3_8 hrf) ?_
    refine R_ld1 rfl ?_
    refine R_la0 rfl ?_
    refine R_getI rfl sh_3 rfl (show _ = ρ 3 1 from rfl) ?_
    refine R_ast rfl sh_7 (by decide) (by omega) ?_
    refine R_la0 rfl ?_
    refine R_dupR rfl ?_
    refine R_getI rfl sh_3 rfl (show _ = ρ 3 2 from rfl) ?_
    refine R_n 1 rfl rfl ?_
    refine R_add rfl ?_
    refine R_putI rfl sh_3 rfl ?_
    exact R_ret rfl (by unfold clS; first | rw [if_pos h12] | rw [if_neg h12])

def adI (ρ : pR) (n : Nat) (x1 x2 x3 : Int32) : pR := u2 (u2 (u2 (u2 (u2 ρ 4 n x1) 5 n x2) 6 n x3) 7 n (ρ 3 1)) 3 0 (nI (n + 1))
theorem m_add {n : Nat} (hrf : RFok rf) (hn : ρ 3 0 = nI n) (h16 : n < 16) (x1 x2 x3 : Int32) : PC 2 [.ref 3, .int x1, .int x2, .int x3] (HP sl ρ rf) (some (.int (nI n))) (HP sl (adI ρ n x1 x2 x3) rf) := by
  refine PC_of (cd := p_c_X0_add) (L0 := [some (.ref 3), some (.int x1), some (.int x2), some (.int x3), none]) rfl rfl ?_
  refine R_la0 rfl ?_
  refine R_getI rfl sh_3 rfl hn ?_
  refine R_st4 rfl ?_
  refine R_la0 rfl ?_
  refine R_getR rfl sh_3 rfl (rf_3_5 hrf) ?_
  refine R_ld4 rfl ?_
  refine R_ld1 rfl ?_
  refine R_ast rfl sh_4 (by decide) (by omega) ?_
  refine R_la0 rfl ?_
  refine R_getR rfl sh_3 rfl (rf_3_6 hrf) ?_
  refine R_ld4 rfl ?_
  refine R_ld2 rfl ?_
  refine R_ast rfl sh_5 (by decide) (by omega) ?_
  refine R_la0 rfl ?_
  refine R_getR rfl sh_3 rfl (rf_3_7 hrf) ?_
  refine R_ld4 rfl ?_
  refine R_ld3 rfl ?_
  refine R_ast rfl sh_6 (by decide) (by omega) ?_
  refine R_la0 rfl ?_
  refine R_getR rfl sh_3 rfl (rf_3_8 hrf) ?_
  refine R_ld4 rfl ?_
  refine R_la0 rfl ?_
  refine R_getI rfl sh_3 rfl (show _ = ρ 3 1 from rfl) ?_
  refine R_ast rfl sh_7 (by decide) (by omega) ?_
  refine R_la0 rfl ?_
  refine R_dupR rfl ?_
  refine R_getI rfl sh_3 rfl (show _ = nI n from hn) ?_
  refine R_n 1 rfl rfl ?_
  refine R_addN rfl ?_
  refine R_putI rfl sh_3 rfl ?_
  refine R_ld4 rfl ?_
  exact R_iret rfl (rfl)

theorem m_all {n : Nat} (hrf : RFok rf) (hn : ρ 3 0 = nI n) (h16 : n ≤ 16) : PC 3 [.ref 3] (HP sl ρ rf) (some (.int (M (fun i => decide (i < n))))) (HP sl ρ rf) := by
  refine PC_of (cd := p_c_X0_all) (L0 := [some (.ref 3)]) rfl rfl ?_
  refine R_n 1 rfl rfl ?_
  refine R_la0 rfl ?_
  refine R_getI rfl sh_3 rfl hn ?_
  refine R_shl rfl ?_
  refine R_n 1 rfl rfl ?_
  refine R_sub rfl ?_
  exact R_iret rfl (lf_i (M_low n (by omega)))

theorem m_tick {n : Nat} (hrf : RFok rf) (hn : ρ 3 0 = nI n) (g16 : n ≤ 16) : PC 16 [.ref 3] (HP sl ρ rf) none (HP sl (tkA ρ n) rf) := by
  have hl := down (n := n) (P := fun j => PW p_c_X0_tick 8 [some (.ref 3), some (.int (nI j))] [] (HP sl (tkA ρ (j)) rf) (fun zz => zz = (none, HP sl (tkA ρ n) rf))) ?_ ?_
  · refine PC_of (cd := p_c_X0_tick) (L0 := [some (.ref 3), none]) rfl rfl ?_
    refine R_la0 rfl ?_
    refine R_dupR rfl ?_
    refine R_getI rfl sh_3 rfl rfl ?_
    refine R_n 1 rfl rfl ?_
    refine R_add rfl ?_
    refine R_putI rfl sh_3 rfl ?_
    refine R_n 0 rfl rfl ?_
    refine R_st1 rfl ?_
    exact hl 0 (Nat.zero_le _)
  · refine R_ld1 rfl ?_
    refine R_la0 rfl ?_
    refine R_getI rfl sh_3 rfl ((tkA_n ρ _).trans hn) ?_
    refine N2_geT rfl (by omega) (by omega) (by omega) ?_
    exact R_ret rfl (rfl)
  · intro j hj hnext
    refine R_ld1 rfl ?_
    refine R_la0 rfl ?_
    refine R_getI rfl sh_3 rfl ((tkA_n ρ _).trans hn) ?_
    refine N2_geF rfl (by omega) (by omega) (hj) ?_
    refine R_la0 rfl ?_
    refine R_getR rfl sh_3 rfl (rf_3_9 hrf) ?_
    refine R_ld1 rfl ?_
    refine R_ald rfl sh_8 (by first | decide | omega) (by omega) rfl ?_
    refine B1_le rfl (fun h16 => ?_) (fun h16 => ?_)
    · refine R_la0 rfl ?_
      refine R_getI rfl sh_3 rfl rfl ?_
      refine R_la0 rfl ?_
      refine R_getR rfl sh_3 rfl (rf_3_12 hrf) ?_
      refine R_ld1 rfl ?_
      refine R_ald rfl sh_11 (by first | decide | omega) (by omega) rfl ?_
      refine B2_le rfl (fun h39 => ?_) (fun h39 => ?_)
      · refine R_in1 rfl rfl ?_
        refine R_goto rfl ?_
        first | (rw [show tkA ρ (j + 1) = _ from tk1 (Int32.not_lt.mpr h16) (Int32.not_lt.mpr h39)] at hnext; exact hnext) | (rw [show tkA ρ (j + 1) = _ from tk2 (Int32.not_lt.mpr h16) (Int32.not_le.mp h39)] at hnext; exact hnext) | (rw [show tkA ρ (j + 1) = _ from tk3 (Int32.not_le.mp h16) (Int32.not_lt.mpr h39)] at hnext; exact hnext) | (rw [show tkA ρ (j + 1) = _ from tk4 (Int32.not_le.mp h16) (Int32.not_le.mp h39)] at hnext; exact hnext)
      · refine R_la0 rfl ?_
        refine R_getR rfl sh_3 rfl (rf_3_11 hrf) ?_
        refine R_ld1 rfl ?_
        refine R_n 0 rfl rfl ?_
        refine R_ast rfl sh_10 (by decide) (by omega) ?_
        refine R_in1 rfl rfl ?_
        refine R_goto rfl ?_
        first | (rw [show tkA ρ (j + 1) = _ from tk1 (Int32.not_lt.mpr h16) (Int32.not_lt.mpr h39)] at hnext; exact hnext) | (rw [show tkA ρ (j + 1) = _ from tk2 (Int32.not_lt.mpr h16) (Int32.not_le.mp h39)] at hnext; exact hnext) | (rw [show tkA ρ (j + 1) = _ from tk3 (Int32.not_le.mp h16) (Int32.not_lt.mpr h39)] at hnext; exact hnext) | (rw [show tkA ρ (j + 1) = _ from tk4 (Int32.not_le.mp h16) (Int32.not_le.mp h39)] at hnext; exact hnext)
    · refine R_la0 rfl ?_
      refine R_getR rfl sh_3 rfl (rf_3_9 hrf) ?_
      refine R_ld1 rfl ?_
      refine R_dup2 rfl ?_
      refine R_ald rfl sh_8 (by first | decide | omega) (by omega) rfl ?_
      refine R_n 1 rfl rfl ?_
      refine R_sub rfl ?_
      refine R_ast rfl sh_8 (by decide) (by omega) ?_
      refine R_la0 rfl ?_
      refine R_getR rfl sh_3 rfl (rf_3_10 hrf) ?_
      refine R_ld1 rfl ?_
      refine R_dup2 rfl ?_
      refine R_ald rfl sh_9 (by first | decide | omega) (by omega) (show _ = tkA ρ j 9 j from rfl) ?_
      refine R_n 1 rfl rfl ?_
      refine R_add rfl ?_
      refine R_ast rfl sh_9 (by decide) (by omega) ?_
      refine R_la0 rfl ?_
      refine R_getI rfl sh_3 rfl rfl ?_
      refine R_la0 rfl ?_
      refine R_getR rfl sh_3 rfl (rf_3_12 hrf) ?_
      refine R_ld1 rfl ?_
      refine R_ald rfl sh_11 (by first | decide | omega) (by omega) rfl ?_
      refine B2_le rfl (fun h39 => ?_) (fun h39 => ?_)
      · refine R_in1 rfl rfl ?_
        refine R_goto rfl ?_
        first | (rw [show tkA ρ (j + 1) = _ from tk1 (Int32.not_lt.mpr h16) (Int32.not_lt.mpr h39)] at hnext; exact hnext) | (rw [show tkA ρ (j + 1) = _ from tk2 (Int32.not_lt.mpr h16) (Int32.not_le.mp h39)] at hnext; exact hnext) | (rw [show tkA ρ (j + 1) = _ from tk3 (Int32.not_le.mp h16) (Int32.not_lt.mpr h39)] at hnext; exact hnext) | (rw [show tkA ρ (j + 1) = _ from tk4 (Int32.not_le.mp h16) (Int32.not_le.mp h39)] at hnext; exact hnext)
      · refine R_la0 rfl ?_
        refine R_getR rfl sh_3 rfl (rf_3_11 hrf) ?_
        refine R_ld1 rfl ?_
        refine R_n 0 rfl rfl ?_
        refine R_ast rfl sh_10 (by decide) (by omega) ?_
        refine R_in1 rfl rfl ?_
        refine R_goto rfl ?_
        first | (rw [show tkA ρ (j + 1) = _ from tk1 (Int32.not_lt.mpr h16) (Int32.not_lt.mpr h39)] at hnext; exact hnext) | (rw [show tkA ρ (j + 1) = _ from tk2 (Int32.not_lt.mpr h16) (Int32.not_le.mp h39)] at hnext; exact hnext) | (rw [show tkA ρ (j + 1) = _ from tk3 (Int32.not_le.mp h16) (Int32.not_lt.mpr h39)] at hnext; exact hnext) | (rw [show tkA ρ (j + 1) = _ from tk4 (Int32.not_le.mp h16) (Int32.not_le.mp h39)] at hnext; exact hnext)

end
