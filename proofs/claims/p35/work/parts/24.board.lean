/-! the board's private methods -/
/-- the history's states -/
def HOK (rf : pF) (h : Nat → Nat) : Prop := (∀ i, i < 4 → rf 22 i = some (h i) ∧ (h i = 23 ∨ h i = 43 ∨ h i = 63 ∨ h i = 83)) ∧ ∀ i j, i < 4 → j < 4 → i ≠ j → h i ≠ h j
theorem StOK_h {sl : pS} {rf : pF} {a : Nat} (h : RFok rf) (ha : a = 23 ∨ a = 43 ∨ a = 63 ∨ a = 83) : StOK sl rf a := by
  rcases ha with rfl | rfl | rfl | rfl
  · exact StOK_23 h
  · exact StOK_43 h
  · exact StOK_63 h
  · exact StOK_83 h
def rot (rf : pF) (h : Nat → Nat) : pF := q2 (q2 (q2 (q2 rf 22 0 (some (h 1))) 22 1 (some (h 2))) 22 2 (some (h 3))) 22 3 (some (h 0))
def rotH (h : Nat → Nat) (i : Nat) : Nat := if i = 3 then h 0 else h (i + 1)
theorem q2_RF {rf : pF} {i : Nat} {v : Option Nat} (h : RFok rf) : RFok (q2 rf 22 i v) := fun q hq => by
  rw [q2_ne (by
    have h0 : ∀ q ∈ RL_, q.1 ≠ 22 := by decide +kernel
    exact h0 q hq)]
  exact h q hq
theorem rot_RF {rf : pF} {h : Nat → Nat} (hr : RFok rf) : RFok (rot rf h) := q2_RF (q2_RF (q2_RF (q2_RF hr)))
theorem rot_H {rf : pF} {h : Nat → Nat} (hh : HOK rf h) : HOK (rot rf h) (rotH h) := by
  refine ⟨fun i hi => ?_, fun i j hi hj hij => ?_⟩
  · rcases (show i = 0 ∨ i = 1 ∨ i = 2 ∨ i = 3 by omega) with rfl | rfl | rfl | rfl
    · exact ⟨rfl, (hh.1 1 (by decide)).2⟩
    · exact ⟨rfl, (hh.1 2 (by decide)).2⟩
    · exact ⟨rfl, (hh.1 3 (by decide)).2⟩
    · exact ⟨rfl, (hh.1 0 (by decide)).2⟩
  · unfold rotH
    by_cases h3 : i = 3
    · rw [if_pos h3, if_neg (by omega)]
      exact hh.2 _ _ (by omega) (by omega) (by omega)
    · rw [if_neg h3]
      by_cases j3 : j = 3
      · rw [if_pos j3]
        exact hh.2 _ _ (by omega) (by omega) (by omega)
      · rw [if_neg j3]
        exact hh.2 _ _ (by omega) (by omega) (by omega)
section
variable {sl : pS} {ρ : pR} {rf : pF}
theorem m_isInput {n : Nat} (hrf : RFok rf) (hn : ρ 3 0 = nI n) (h16 : n ≤ 16) (x : Int32) : PC 74 [.ref 1, .int x] (HP sl ρ rf) (some (.int (bI (inR n x)))) (HP sl ρ rf) := by
  refine PC_of (cd := p_c_X4_isInput) (L0 := [some (.ref 1), some (.int x)]) rfl rfl ?_
  by_cases h1 : x < 0
  · refine R_ld1 rfl ?_
    refine B1_ltT rfl (h1) ?_
    refine R_n 0 rfl rfl ?_
    exact R_zret0 rfl (lf_0 (inR_f1 h1))
  by_cases h2 : nI n ≤ x
  · refine R_ld1 rfl ?_
    refine B1_ltF rfl (h1) ?_
    refine R_ld1 rfl ?_
    refine R_la0 rfl ?_
    refine R_getR rfl sh_1 rfl (rf_1_0 hrf) ?_
    refine R_getR rfl sh_2 rfl (rf_2_0 hrf) ?_
    refine R_getI rfl sh_3 rfl hn ?_
    refine B2_geT rfl (h2) ?_
    refine R_n 0 rfl rfl ?_
    exact R_zret0 rfl (lf_0 (inR_f2 h2))
  · refine R_ld1 rfl ?_
    refine B1_ltF rfl (h1) ?_
    refine R_ld1 rfl ?_
    refine R_la0 rfl ?_
    refine R_getR rfl sh_1 rfl (rf_1_0 hrf) ?_
    refine R_getR rfl sh_2 rfl (rf_2_0 hrf) ?_
    refine R_getI rfl sh_3 rfl hn ?_
    refine B2_geF rfl (h2) ?_
    refine R_n 1 rfl rfl ?_
    refine R_goto rfl ?_
    exact R_zret1 rfl (lf_1 (inR_t h1 h2))

theorem forget {h0 h1 : pH} {x : Option Value} (e : h0 = h1) : (x, h0) = (x, h1) := by rw [e]
theorem m_forget {h : Nat → Nat} (hrf : RFok rf) (hh : HOK rf h) : PC 90 [.ref 1] (HP sl ρ rf) none (HP sl (u2 ρ 1 2 (nI 3)) (rot rf h)) := by
  have e0 := (hh.1 0 (by decide)).1
  have e1 := (hh.1 1 (by decide)).1
  have e2 := (hh.1 2 (by decide)).1
  have e3 := (hh.1 3 (by decide)).1
  have s0 := (StOK_h (sl := sl) hrf (hh.1 0 (by decide)).2).2.1
  have s1 := (StOK_h (sl := sl) hrf (hh.1 1 (by decide)).2).2.1
  have s2 := (StOK_h (sl := sl) hrf (hh.1 2 (by decide)).2).2.1
  have s3 := (StOK_h (sl := sl) hrf (hh.1 3 (by decide)).2).2.1
  have o0 := (StOK_h (sl := sl) hrf (hh.1 0 (by decide)).2).1
  have o1 := (StOK_h (sl := sl) hrf (hh.1 1 (by decide)).2).1
  have o2 := (StOK_h (sl := sl) hrf (hh.1 2 (by decide)).2).1
  have o3 := (StOK_h (sl := sl) hrf (hh.1 3 (by decide)).2).1
  refine PC_of (cd := p_c_X4_forgetOldest) (L0 := [some (.ref 1), none, none]) rfl rfl ?_
  refine R_la0 rfl ?_
  refine R_getR rfl sh_1 rfl (rf_1_1 hrf) ?_
  refine R_n 0 rfl rfl ?_
  refine R_aaldN rfl sh_22 (by decide) (by omega) e0 ?_
  refine R_sa1 rfl ?_
  refine R_n 1 rfl rfl ?_
  refine R_st2 rfl ?_
  refine R_ld2 rfl ?_
  refine R_n 4 rfl rfl ?_
  refine N2_geF rfl (by omega) (by omega) (by omega) ?_
  refine R_la0 rfl ?_
  refine R_getR rfl sh_1 rfl (rf_1_1 hrf) ?_
  refine R_ld2 rfl ?_
  refine R_n 1 rfl rfl ?_
  refine R_subN rfl (by omega) ?_
  refine R_la0 rfl ?_
  refine R_getR rfl sh_1 rfl (rf_1_1 hrf) ?_
  refine R_ld2 rfl ?_
  refine R_aaldN rfl sh_22 (by decide) (by omega) (show _ = some (h 1) from e1) ?_
  refine R_aastN rfl sh_22 (by decide) (by omega) s1 (by omega) ?_
  refine R_in2 rfl rfl ?_
  refine R_goto rfl ?_
  refine R_ld2 rfl ?_
  refine R_n 4 rfl rfl ?_
  refine N2_geF rfl (by omega) (by omega) (by omega) ?_
  refine R_la0 rfl ?_
  refine R_getR rfl sh_1 rfl (rf_1_1 (q2_RF hrf)) ?_
  refine R_ld2 rfl ?_
  refine R_n 1 rfl rfl ?_
  refine R_subN rfl (by omega) ?_
  refine R_la0 rfl ?_
  refine R_getR rfl sh_1 rfl (rf_1_1 (q2_RF hrf)) ?_
  refine R_ld2 rfl ?_
  refine R_aaldN rfl sh_22 (by decide) (by omega) (show _ = some (h 2) from e2) ?_
  refine R_aastN rfl sh_22 (by decide) (by omega) s2 (by omega) ?_
  refine R_in2 rfl rfl ?_
  refine R_goto rfl ?_
  refine R_ld2 rfl ?_
  refine R_n 4 rfl rfl ?_
  refine N2_geF rfl (by omega) (by omega) (by omega) ?_
  refine R_la0 rfl ?_
  refine R_getR rfl sh_1 rfl (rf_1_1 (q2_RF (q2_RF hrf))) ?_
  refine R_ld2 rfl ?_
  refine R_n 1 rfl rfl ?_
  refine R_subN rfl (by omega) ?_
  refine R_la0 rfl ?_
  refine R_getR rfl sh_1 rfl (rf_1_1 (q2_RF (q2_RF hrf))) ?_
  refine R_ld2 rfl ?_
  refine R_aaldN rfl sh_22 (by decide) (by omega) (show _ = some (h 3) from e3) ?_
  refine R_aastN rfl sh_22 (by decide) (by omega) s3 (by omega) ?_
  refine R_in2 rfl rfl ?_
  refine R_goto rfl ?_
  refine R_ld2 rfl ?_
  refine R_n 4 rfl rfl ?_
  refine N2_geT rfl (by omega) (by omega) (by omega) ?_
  refine R_la0 rfl ?_
  refine R_getR rfl sh_1 rfl (rf_1_1 (q2_RF (q2_RF (q2_RF hrf)))) ?_
  refine R_n 3 rfl rfl ?_
  refine R_la1 rfl ?_
  refine R_aastN rfl sh_22 (by decide) (by omega) s0 (by omega) ?_
  refine R_la0 rfl ?_
  refine R_n 3 rfl rfl ?_
  refine R_putI rfl sh_1 rfl ?_
  exact R_ret rfl (rfl)

/-- before a change: what the history becomes -/
theorem m_remember {h : Nat → Nat} {hs : Nat} (hrf : RFok rf) (hh : HOK rf h) (h1 : ρ 1 2 = nI hs) (h4 : hs ≤ 4) : PC 89 [.ref 1] (HP sl ρ rf) none (if hs < 4 then HP sl (u2 (cpS (h hs) 2 ρ) 1 2 (nI (hs + 1))) rf else HP sl (u2 (cpS (h 0) 2 (u2 ρ 1 2 (nI 3))) 1 2 (nI 4)) (rot rf h)) := by
  by_cases hlt : hs < 4
  · rw [if_pos hlt]
    have o1 := (StOK_h (sl := sl) hrf (hh.1 hs hlt).2).1
    refine PC_of (cd := p_c_X4_remember) (L0 := [some (.ref 1)]) rfl rfl ?_
    refine R_la0 rfl ?_
    refine R_getI rfl sh_1 rfl h1 ?_
    refine R_n 4 rfl rfl ?_
    refine N2_ltT rfl (by omega) (by omega) (hlt) ?_
    refine R_la0 rfl ?_
    refine R_getR rfl sh_1 rfl (rf_1_1 hrf) ?_
    refine R_la0 rfl ?_
    refine R_getI rfl sh_1 rfl h1 ?_
    refine R_aaldN rfl sh_22 (by decide) (by omega) (hh.1 hs hlt).1 ?_
    refine R_la0 rfl ?_
    refine R_getR rfl sh_1 rfl (rf_1_0 hrf) ?_
    refine R_c1 rfl (m_copyS (StOK_h hrf (hh.1 hs hlt).2) (StOK_2 hrf)) rfl rfl rfl (StOK_h hrf (hh.1 hs hlt).2).2.1 (by simp only [Bool.and_eq_true, decide_eq_true_eq]; exact ⟨rfl, by omega, by decide⟩) rfl ?_
    refine R_la0 rfl ?_
    refine R_dupR rfl ?_
    refine R_getI rfl sh_1 rfl (show _ = nI hs by rw [cpS_out (by omega)]; exact h1) ?_
    refine R_n 1 rfl rfl ?_
    refine R_addN rfl ?_
    refine R_putI rfl sh_1 rfl ?_
    exact R_ret rfl (rfl)
  · rw [if_neg hlt]
    have e4 : hs = 4 := by omega
    subst e4
    have hrf2 := rot_RF (h := h) hrf
    have o1 := (StOK_h (sl := sl) hrf2 (hh.1 0 (by decide)).2).1
    refine PC_of (cd := p_c_X4_remember) (L0 := [some (.ref 1)]) rfl rfl ?_
    refine R_la0 rfl ?_
    refine R_getI rfl sh_1 rfl h1 ?_
    refine R_n 4 rfl rfl ?_
    refine N2_ltF rfl (by omega) (by omega) (by omega) ?_
    refine R_la0 rfl ?_
    refine R_c1 rfl (m_forget hrf hh) rfl rfl rfl sh_1 rfl rfl ?_
    refine R_la0 rfl ?_
    refine R_getR rfl sh_1 rfl (rf_1_1 hrf2) ?_
    refine R_la0 rfl ?_
    refine R_getI rfl sh_1 rfl (show _ = nI 3 from rfl) ?_
    refine R_aaldN rfl sh_22 (by decide) (by omega) (show _ = some (h 0) from rfl) ?_
    refine R_la0 rfl ?_
    refine R_getR rfl sh_1 rfl (rf_1_0 hrf2) ?_
    refine R_c1 rfl (m_copyS (StOK_h hrf2 (hh.1 0 (by decide)).2) (StOK_2 hrf2)) rfl rfl rfl (StOK_h hrf2 (hh.1 0 (by decide)).2).2.1 (by simp only [Bool.and_eq_true, decide_eq_true_eq]; exact ⟨rfl, by omega, by decide⟩) rfl ?_
    refine R_la0 rfl ?_
    refine R_dupR rfl ?_
    refine R_getI rfl sh_1 rfl (show _ = nI 3 by rw [cpS_out (by omega)]; rfl) ?_
    refine R_n 1 rfl rfl ?_
    refine R_addN rfl ?_
    refine R_putI rfl sh_1 rfl ?_
    exact R_ret rfl (rfl)

theorem m_rowOrNF (hrf : RFok rf) {m r : Nat} (hm : m < 6) (hr : ρ 14 m = nI r) (hr4 : r ≤ 4) {p : Nat} (hp : p < 4) : PC 86 [.ref 1, .int (nI m), .int (nI p)] (HP sl ρ rf) (some (.int (if p < r then rw0 ρ m p else -4))) (HP sl ρ rf) := by
  refine PC_of (cd := p_c_X4_rowOrNotFound) (L0 := [some (.ref 1), some (.int (nI m)), some (.int (nI p))]) rfl rfl ?_
  refine R_ld2 rfl ?_
  refine R_la0 rfl ?_
  refine R_getR rfl sh_1 rfl (rf_1_0 hrf) ?_
  refine R_getR rfl sh_2 rfl (rf_2_1 hrf) ?_
  refine R_getR rfl sh_12 rfl (rf_12_2 hrf) ?_
  refine R_ld1 rfl ?_
  refine R_ald rfl sh_14 (by first | decide | omega) (by omega) hr ?_
  refine N2_lt rfl (by omega) (by omega) (fun h7 => ?_) (fun h7 => ?_)
  · refine R_la0 rfl ?_
    refine R_getR rfl sh_1 rfl (rf_1_0 hrf) ?_
    refine R_getR rfl sh_2 rfl (rf_2_1 hrf) ?_
    refine R_ld1 rfl ?_
    refine R_ld2 rfl ?_
    refine R_c1 rfl (m_rowAt hrf hm hp) rfl rfl rfl sh_12 rfl rfl ?_
    exact R_iret rfl (lf_i (by first | rw [if_pos h7] | rw [if_neg (by omega)]))
  · refine R_i rfl ?_
    exact R_iret rfl (lf_i (by first | rw [if_pos h7] | rw [if_neg (by omega)]))

theorem m_isPermB {n : Nat} {c : Nat → Bool} (hrf : RFok rf) (hn : ρ 3 0 = nI n) (h16 : n ≤ 16) (hc : ρ 3 3 = M c) {m r : Nat} (hm : m < 6) (hr : ρ 14 m = nI r) (hr4 : r ≤ 4) : PC 87 [.ref 1, .int (nI m)] (HP sl ρ rf) (some (.int (bI (pmI (rw0 ρ m) r (M (cM ρ n c)))))) (HP sl ρ rf) := by
  refine PC_of (cd := p_c_X4_isPermitted) (L0 := [some (.ref 1), some (.int (nI m))]) rfl rfl ?_
  refine R_la0 rfl ?_
  refine R_getR rfl sh_1 rfl (rf_1_0 hrf) ?_
  refine R_getR rfl sh_2 rfl (rf_2_1 hrf) ?_
  refine R_ld1 rfl ?_
  refine R_la0 rfl ?_
  refine R_getR rfl sh_1 rfl (rf_1_0 hrf) ?_
  refine R_getR rfl sh_2 rfl (rf_2_0 hrf) ?_
  refine R_c1 rfl (m_counting hrf hn h16 hc) rfl rfl rfl sh_3 rfl rfl ?_
  refine R_c1 rfl (m_isPerm hrf hm hr hr4 _) rfl rfl rfl sh_12 rfl rfl ?_
  exact R_zret rfl (rfl)

/-- why motion m can't be started -/
def rsn (run : Bool) (fo : Int32) (pm : Bool) (ex : Int32) : Nat := if run = true then 1 else if ¬ fo = -1 then 2 else if pm = false then 3 else if ¬ ex = 0 then 4 else 0
theorem m_reason {n : Nat} {c : Nat → Bool} (hrf : RFok rf) (hn : ρ 3 0 = nI n) (h16 : n ≤ 16) (hc : ρ 3 3 = M c) {m r : Nat} (hm : m < 6) (hr : ρ 14 m = nI r) (hr4 : r ≤ 4) : PC 88 [.ref 1, .int (nI m)] (HP sl ρ rf) (some (.int (nI (rsn (bt (ρ 12 0) m) (ρ 16 m) (pmI (rw0 ρ m) r (M (cM ρ n c))) (ρ 12 0 &&& ρ 15 m))))) (HP sl ρ rf) := by
  refine PC_of (cd := p_c_X4_reasonAgainstStart) (L0 := [some (.ref 1), some (.int (nI m)), none]) rfl rfl ?_
  refine R_la0 rfl ?_
  refine R_getR rfl sh_1 rfl (rf_1_0 hrf) ?_
  refine R_getR rfl sh_2 rfl (rf_2_1 hrf) ?_
  refine R_sa2 rfl ?_
  refine R_la2 rfl ?_
  refine R_getI rfl sh_12 rfl rfl ?_
  refine R_ld1 rfl ?_
  refine R_c0 rfl (m_has _ (by omega)) rfl rfl rfl ?_
  refine BB_eq rfl (fun g8 => ?_) (fun g8 => ?_)
  · refine R_la2 rfl ?_
    refine R_getR rfl sh_12 rfl (rf_12_4 hrf) ?_
    refine R_ld1 rfl ?_
    refine R_ald rfl sh_16 (by first | decide | omega) (by omega) rfl ?_
    refine R_i rfl ?_
    refine B2_eq rfl (fun g16 => ?_) (fun g16 => ?_)
    · refine R_la0 rfl ?_
      refine R_ld1 rfl ?_
      refine R_c1 rfl (m_isPermB hrf hn h16 hc hm hr hr4) rfl rfl rfl sh_1 rfl rfl ?_
      refine BB_ne rfl (fun g22 => ?_) (fun g22 => ?_)
      · refine R_la2 rfl ?_
        refine R_getI rfl sh_12 rfl rfl ?_
        refine R_la2 rfl ?_
        refine R_getR rfl sh_12 rfl (rf_12_3 hrf) ?_
        refine R_ld1 rfl ?_
        refine R_ald rfl sh_15 (by first | decide | omega) (by omega) rfl ?_
        refine R_and rfl ?_
        refine B1_eq rfl (fun g32 => ?_) (fun g32 => ?_)
        · refine R_n 0 rfl rfl ?_
          exact R_iret rfl (lf_i (by unfold rsn; simp [*]))
        · refine R_n 4 rfl rfl ?_
          refine R_goto rfl ?_
          exact R_iret rfl (lf_i (by unfold rsn; simp [*]))
      · refine R_n 3 rfl rfl ?_
        exact R_iret rfl (lf_i (by unfold rsn; simp [*]))
    · refine R_n 2 rfl rfl ?_
      exact R_iret rfl (lf_i (by unfold rsn; simp [*]))
  · refine R_n 1 rfl rfl ?_
    exact R_iret rfl (lf_i (by unfold rsn; simp [*]))

theorem m_look {n : Nat} {c : Nat → Bool} (hrf : RFok rf) (hn : ρ 3 0 = nI n) (h16 : n ≤ 16) (hc : ρ 3 3 = M c) {rc : Nat → Nat} (hr : ∀ m, m < 6 → ρ 14 m = nI (rc m) ∧ rc m ≤ 4) (b : Int32) : PC 91 [.ref 1, .int b] (HP sl ρ rf) (some (.int (nI (fb_ct (suN ρ rc b (M (cM ρ n c)) (ρ 3 1)) 6)))) (HP sl (suA ρ rc b (M (cM ρ n c)) (ρ 3 1) 6) rf) := by
  refine PC_of (cd := p_c_X4_lookAtMotions) (L0 := [some (.ref 1), some (.int b)]) rfl rfl ?_
  refine R_la0 rfl ?_
  refine R_getR rfl sh_1 rfl (rf_1_0 hrf) ?_
  refine R_getR rfl sh_2 rfl (rf_2_1 hrf) ?_
  refine R_ld1 rfl ?_
  refine R_la0 rfl ?_
  refine R_getR rfl sh_1 rfl (rf_1_0 hrf) ?_
  refine R_getR rfl sh_2 rfl (rf_2_0 hrf) ?_
  refine R_c1 rfl (m_counting hrf hn h16 hc) rfl rfl rfl sh_3 rfl rfl ?_
  refine R_la0 rfl ?_
  refine R_getR rfl sh_1 rfl (rf_1_0 hrf) ?_
  refine R_getR rfl sh_2 rfl (rf_2_0 hrf) ?_
  refine R_getI rfl sh_3 rfl rfl ?_
  refine R_c1 rfl (m_stopUn hrf hr _ _ _) rfl rfl rfl sh_12 rfl rfl ?_
  exact R_iret rfl (rfl)

/-- why the row from a to e isn't possible; 0: it is -/
def fo (T : Nat → Nat) (l n : Nat) (run : Int32) (rc : Nat → Nat) (a e : Nat) : Nat :=
  if isRowT T l a e = false then 1 else if n ≤ hv T a (e - (a + 2)) then 2 else if bt run (T a - 48) = true then 3 else if 4 ≤ rc (T a - 48) + fb_ct (fun i => rp T (T a - 48) (i + 1)) (a - 1) then 4 else 0
theorem isRowT_c {T : Nat → Nat} {l a e : Nat} (h : isRowT T l a e = true) : e < l ∧ a + 3 ≤ e ∧ (48 ≤ T a ∧ T a ≤ 53) ∧ T (a + 1) = 58 ∧ ∃ d, ds T a (e - (a + 2)) = some d ∧ 0 < d := by
  unfold isRowT at h
  simp only [Bool.and_eq_true, decide_eq_true_eq] at h
  obtain ⟨h1, h2, h3, h4, h5⟩ := h
  refine ⟨h1, h2, h3, h4, ?_⟩
  split at h5
  · rename_i d hd
    exact ⟨d, hd, of_decide_eq_true h5⟩
  · cases h5
theorem m_faultOfRow {n l : Nat} {T : Nat → Nat} {rc : Nat → Nat} (hrf : RFok rf) (hn : ρ 3 0 = nI n) (h16 : n ≤ 16) (hT : TX ρ T l) (hr : ∀ m, m < 6 → ρ 14 m = nI (rc m) ∧ rc m ≤ 4) {a e : Nat} (ha : a ≤ e) (he : e ≤ l) : PC 93 [.ref 1, .int (nI a), .int (nI e)] (HP sl ρ rf) (some (.int (nI (fo T l n (ρ 12 0) rc a e)))) (HP sl ρ rf) := by
  have hl80 := hT.2.1
  refine PC_of (cd := p_c_X4_faultOfRow) (L0 := [some (.ref 1), some (.int (nI a)), some (.int (nI e)), none, none]) rfl rfl ?_
  cases hrow : isRowT T l a e with
  | false =>
    refine R_la0 rfl ?_
    refine R_getR rfl sh_1 rfl (rf_1_5 hrf) ?_
    refine R_ld1 rfl ?_
    refine R_ld2 rfl ?_
    refine R_c1 rfl (m_isRow hrf hT ha he) rfl rfl rfl sh_144 rfl rfl ?_
    refine BB_neF rfl (hrow) ?_
    refine R_n 1 rfl rfl ?_
    exact R_iret rfl (lf_i (by unfold fo; rw [hrow]; rfl))
  | true =>
    obtain ⟨q1, q2, q3, q4, d, hd, q5⟩ := isRowT_c hrow
    have hb := hv_le hd
    have hm : T a - 48 < 6 := by omega
    have hct : fb_ct (fun i => rp T (T a - 48) (i + 1)) (a - 1) ≤ a - 1 := fb_ct_le _ _
    have hrr := hr (T a - 48) hm
    refine R_la0 rfl ?_
    refine R_getR rfl sh_1 rfl (rf_1_5 hrf) ?_
    refine R_ld1 rfl ?_
    refine R_ld2 rfl ?_
    refine R_c1 rfl (m_isRow hrf hT ha he) rfl rfl rfl sh_144 rfl rfl ?_
    refine BB_neT rfl (hrow) ?_
    refine R_la0 rfl ?_
    refine R_getR rfl sh_1 rfl (rf_1_5 hrf) ?_
    refine R_ld1 rfl ?_
    refine R_ld2 rfl ?_
    refine R_c1 rfl (m_highest hrf hT (by omega) he hd) rfl rfl rfl sh_144 rfl rfl ?_
    refine R_la0 rfl ?_
    refine R_getR rfl sh_1 rfl (rf_1_0 hrf) ?_
    refine R_getR rfl sh_2 rfl (rf_2_0 hrf) ?_
    refine R_getI rfl sh_3 rfl hn ?_
    refine N2_lt rfl (by omega) (by omega) (fun h17 => ?_) (fun h17 => ?_)
    · refine R_la0 rfl ?_
      refine R_getR rfl sh_1 rfl (rf_1_5 hrf) ?_
      refine R_ld1 rfl ?_
      refine R_c1 rfl (m_motionOf hrf hT (by omega)) rfl rfl rfl sh_144 rfl rfl ?_
      rw [pk_sub q3.1]
      refine R_st3 rfl ?_
      refine R_la0 rfl ?_
      refine R_getR rfl sh_1 rfl (rf_1_0 hrf) ?_
      refine R_getR rfl sh_2 rfl (rf_2_1 hrf) ?_
      refine R_getI rfl sh_12 rfl rfl ?_
      refine R_ld3 rfl ?_
      refine R_c0 rfl (m_has _ (by omega)) rfl rfl rfl ?_
      refine BB_eq rfl (fun h31 => ?_) (fun h31 => ?_)
      · refine R_la0 rfl ?_
        refine R_getR rfl sh_1 rfl (rf_1_0 hrf) ?_
        refine R_getR rfl sh_2 rfl (rf_2_1 hrf) ?_
        refine R_getR rfl sh_12 rfl (rf_12_2 hrf) ?_
        refine R_ld3 rfl ?_
        refine R_ald rfl sh_14 (by first | decide | omega) (by omega) hrr.1 ?_
        refine R_la0 rfl ?_
        refine R_getR rfl sh_1 rfl (rf_1_5 hrf) ?_
        refine R_ld3 rfl ?_
        refine R_ld1 rfl ?_
        refine R_c1 rfl (m_rowsOf hrf hT (by omega)) rfl rfl rfl sh_144 rfl rfl ?_
        refine R_addN rfl ?_
        refine R_st4 rfl ?_
        refine R_ld4 rfl ?_
        refine R_n 4 rfl rfl ?_
        refine N2_lt rfl (by omega) (by omega) (fun h49 => ?_) (fun h49 => ?_)
        · refine R_n 0 rfl rfl ?_
          exact R_iret rfl (lf_i (by unfold fo; rw [hrow]; simp only [Bool.true_eq_false, if_false]; first | rw [if_pos h17] | (rw [if_neg (by omega)]; first | rw [if_pos h31] | (rw [h31]; simp only [Bool.false_eq_true, if_false]; first | rw [if_pos h49] | rw [if_neg (by omega)]))))
        · refine R_n 4 rfl rfl ?_
          refine R_goto rfl ?_
          exact R_iret rfl (lf_i (by unfold fo; rw [hrow]; simp only [Bool.true_eq_false, if_false]; first | rw [if_pos h17] | (rw [if_neg (by omega)]; first | rw [if_pos h31] | (rw [h31]; simp only [Bool.false_eq_true, if_false]; first | rw [if_pos h49] | rw [if_neg (by omega)]))))
      · refine R_n 3 rfl rfl ?_
        exact R_iret rfl (lf_i (by unfold fo; rw [hrow]; simp only [Bool.true_eq_false, if_false]; first | rw [if_pos h17] | (rw [if_neg (by omega)]; first | rw [if_pos h31] | (rw [h31]; simp only [Bool.false_eq_true, if_false]; first | rw [if_pos h49] | rw [if_neg (by omega)]))))
    · refine R_n 2 rfl rfl ?_
      exact R_iret rfl (lf_i (by unfold fo; rw [hrow]; simp only [Bool.true_eq_false, if_false]; first | rw [if_pos h17] | (rw [if_neg (by omega)]; first | rw [if_pos h31] | (rw [h31]; simp only [Bool.false_eq_true, if_false]; first | rw [if_pos h49] | rw [if_neg (by omega)]))))

/-- the start of the row at j; the first row that isn't possible -/
def fr (T : Nat → Nat) : Nat → Nat
  | 0 => 0
  | j + 1 => if T j = 59 then j + 1 else fr T j
theorem fr_le (T : Nat → Nat) : ∀ j, fr T j ≤ j
  | 0 => Nat.le_refl _
  | j + 1 => by
    unfold fr
    split
    · exact Nat.le_refl _
    · exact Nat.le_succ_of_le (fr_le T j)
def fp (T : Nat → Nat) (F : Nat → Nat → Nat) (j : Nat) : Bool := decide (T j = 59) && decide (¬ F (fr T j) j = 0)
def pf (T : Nat → Nat) (F : Nat → Nat → Nat) (l : Nat) : Option Nat := match ff (fp T F) l with
  | some j => some (fr T j)
  | none => if fr T l < l then some (fr T l) else none
theorem fo_le (T : Nat → Nat) (l n : Nat) (run : Int32) (rc : Nat → Nat) (a e : Nat) : fo T l n run rc a e ≤ 4 := by
  unfold fo
  repeat' split
  all_goals decide
theorem m_placeOfFault {n l : Nat} {T : Nat → Nat} {rc : Nat → Nat} (hrf : RFok rf) (hn : ρ 3 0 = nI n) (h16 : n ≤ 16) (hT : TX ρ T l) (hr : ∀ m, m < 6 → ρ 14 m = nI (rc m) ∧ rc m ≤ 4) : PC 92 [.ref 1] (HP sl ρ rf) (some (.int (fI (pf T (fo T l n (ρ 12 0) rc) l)))) (HP sl ρ rf) := by
  have hl80 := hT.2.1
  have hl := down (n := l) (P := fun j => (∀ i, i < j → fp T (fo T l n (ρ 12 0) rc) i = false) → PW p_c_X4_placeOfFault 4 [some (.ref 1), some (.int (nI (fr T j))), some (.int (nI j))] [] (HP sl ρ rf) (fun zz => zz = ((some (.int (fI (pf T (fo T l n (ρ 12 0) rc) l)))), HP sl ρ rf))) ?_ ?_
  · refine PC_of (cd := p_c_X4_placeOfFault) (L0 := [some (.ref 1), none, none]) rfl rfl ?_
    refine R_n 0 rfl rfl ?_
    refine R_st1 rfl ?_
    refine R_n 0 rfl rfl ?_
    refine R_st2 rfl ?_
    exact hl 0 (Nat.zero_le _) (fun i hi => absurd hi (Nat.not_lt_zero _))
  · intro hno
    have hfl := fr_le T l
    refine R_ld2 rfl ?_
    refine R_la0 rfl ?_
    refine R_getR rfl sh_1 rfl (rf_1_5 hrf) ?_
    refine R_getI rfl sh_144 rfl hT.1 ?_
    refine N2_geT rfl (by omega) (by omega) (by omega) ?_
    refine R_ld1 rfl ?_
    refine R_la0 rfl ?_
    refine R_getR rfl sh_1 rfl (rf_1_5 hrf) ?_
    refine R_getI rfl sh_144 rfl hT.1 ?_
    refine N2_ge rfl (by omega) (by omega) (fun h33 => ?_) (fun h33 => ?_)
    · refine R_i rfl ?_
      exact R_iret rfl (lf_i (by unfold pf; rw [ff_none hno]; first | (rw [if_neg (by omega)]; rfl) | (rw [if_pos h33]; rfl)))
    · refine R_ld1 rfl ?_
      refine R_goto rfl ?_
      exact R_iret rfl (lf_i (by unfold pf; rw [ff_none hno]; first | (rw [if_neg (by omega)]; rfl) | (rw [if_pos h33]; rfl)))
  · intro j hj hnext hno
    have hfl := fr_le T j
    have hb := (hT.2.2 j hj).2
    have hfo := fo_le T l n (ρ 12 0) rc (fr T j) j
    by_cases hs : T j = 59
    · by_cases hz : fo T l n (ρ 12 0) rc (fr T j) j = 0
      · refine R_ld2 rfl ?_
        refine R_la0 rfl ?_
        refine R_getR rfl sh_1 rfl (rf_1_5 hrf) ?_
        refine R_getI rfl sh_144 rfl hT.1 ?_
        refine N2_geF rfl (by omega) (by omega) (hj) ?_
        refine R_la0 rfl ?_
        refine R_getR rfl sh_1 rfl (rf_1_5 hrf) ?_
        refine R_getR rfl sh_144 rfl (rf_144_0 hrf) ?_
        refine R_ld2 rfl ?_
        refine R_ald rfl sh_145 (by first | decide | omega) (by omega) (hT.2.2 j hj).1 ?_
        refine R_n 59 rfl rfl ?_
        refine N2_neF rfl (by omega) (by omega) (hs) ?_
        refine R_la0 rfl ?_
        refine R_ld1 rfl ?_
        refine R_ld2 rfl ?_
        refine R_c1 rfl (m_faultOfRow hrf hn h16 hT hr hfl (by omega)) rfl rfl rfl sh_1 rfl rfl ?_
        refine B1_eqT rfl (by rw [hz]; rfl) ?_
        refine R_ld2 rfl ?_
        refine R_n 1 rfl rfl ?_
        refine R_addN rfl ?_
        refine R_st1 rfl ?_
        refine R_in2 rfl rfl ?_
        refine R_goto rfl ?_
        rw [show fr T (j + 1) = j + 1 from if_pos hs] at hnext
        refine hnext (fun i hi => ?_)
        by_cases hij : i = j
        · subst hij
          unfold fp
          simp [hz]
        · exact hno i (by omega)
      · refine R_ld2 rfl ?_
        refine R_la0 rfl ?_
        refine R_getR rfl sh_1 rfl (rf_1_5 hrf) ?_
        refine R_getI rfl sh_144 rfl hT.1 ?_
        refine N2_geF rfl (by omega) (by omega) (hj) ?_
        refine R_la0 rfl ?_
        refine R_getR rfl sh_1 rfl (rf_1_5 hrf) ?_
        refine R_getR rfl sh_144 rfl (rf_144_0 hrf) ?_
        refine R_ld2 rfl ?_
        refine R_ald rfl sh_145 (by first | decide | omega) (by omega) (hT.2.2 j hj).1 ?_
        refine R_n 59 rfl rfl ?_
        refine N2_neF rfl (by omega) (by omega) (hs) ?_
        refine R_la0 rfl ?_
        refine R_ld1 rfl ?_
        refine R_ld2 rfl ?_
        refine R_c1 rfl (m_faultOfRow hrf hn h16 hT hr hfl (by omega)) rfl rfl rfl sh_1 rfl rfl ?_
        refine B1_eqF rfl (nI_ne0 (by omega) (by omega)) ?_
        refine R_ld1 rfl ?_
        exact R_iret rfl (lf_i (by unfold pf; rw [ff_some (p := fp T (fo T l n (ρ 12 0) rc)) (by unfold fp; rw [decide_eq_true hs, decide_eq_true hz]; rfl) hno hj]; rfl))
    · refine R_ld2 rfl ?_
      refine R_la0 rfl ?_
      refine R_getR rfl sh_1 rfl (rf_1_5 hrf) ?_
      refine R_getI rfl sh_144 rfl hT.1 ?_
      refine N2_geF rfl (by omega) (by omega) (hj) ?_
      refine R_la0 rfl ?_
      refine R_getR rfl sh_1 rfl (rf_1_5 hrf) ?_
      refine R_getR rfl sh_144 rfl (rf_144_0 hrf) ?_
      refine R_ld2 rfl ?_
      refine R_ald rfl sh_145 (by first | decide | omega) (by omega) (hT.2.2 j hj).1 ?_
      refine R_n 59 rfl rfl ?_
      refine N2_neT rfl (by omega) (by omega) (hs) ?_
      refine R_in2 rfl rfl ?_
      refine R_goto rfl ?_
      rw [show fr T (j + 1) = fr T j from if_neg hs] at hnext
      refine hnext (fun i hi => ?_)
      by_cases hij : i = j
      · subst hij
        unfold fp
        rw [decide_eq_false hs]
        rfl
      · exact hno i (by omega)

end
