/-! the class's public methods, an outcome a row; ρa, rfa: what stands behind remember -/
theorem wA_bt {f : Nat → Bool} {n j : Nat} (hn : n ≤ 16) (hj : j < n) : bt (wA f n) j = f j := by
  rw [wA_M hn, M_bt _ (by omega)]
  simp [hj, show j < 16 by omega]
theorem inR_fi {n : Nat} {x : Int32} (hn : n < 2 ^ 31) (h : inR n x = false) : x.toInt < 0 ∨ (n : Int) ≤ x.toInt := by
  by_cases h0 : x < 0
  · left
    have := Int32.lt_iff_toInt_lt.mp h0
    simpa using this
  · right
    obtain ⟨j, hj, rfl⟩ := nI_of h0
    rw [nI_toInt hj]
    by_cases hlt : j < n
    · rw [inR_N hlt hn] at h
      cases h
    · omega
section
variable {sl : pS} {ρ ρa : pR} {rf rfa : pF}
theorem c_sensor_bad (x : Int32) (h : x < 0 ∨ nI 5000 < x) : PC 42 [.ref 1, .int x] (HP sl ρ rf) (some (.int (-1))) (HP sl ρ rf) := by
  refine PC_of (cd := p_c_X4_sensor) (L0 := [some (.ref 1), some (.int x)]) rfl rfl ?_
  refine R_ld1 rfl ?_
  refine B1_lt rfl (fun g1 => ?_) (fun g1 => ?_)
  · refine R_i rfl ?_
    exact R_iret rfl (rfl)
  · refine R_ld1 rfl ?_
    refine R_n 5000 rfl rfl ?_
    refine B2_le rfl (fun g4 => ?_) (fun g4 => ?_)
    · rcases h with h | h
      · exact absurd h g1
      · exact absurd h (Int32.not_lt.mpr g4)
    · refine R_i rfl ?_
      exact R_iret rfl (rfl)

theorem c_sensor_full (hrf : RFok rf) (hn : ρ 3 0 = nI 16) (x : Int32) (h1 : ¬ x < 0) (h2 : x ≤ nI 5000) : PC 42 [.ref 1, .int x] (HP sl ρ rf) (some (.int (-3))) (HP sl ρ rf) := by
  refine PC_of (cd := p_c_X4_sensor) (L0 := [some (.ref 1), some (.int x)]) rfl rfl ?_
  refine R_ld1 rfl ?_
  refine B1_ltF rfl (h1) ?_
  refine R_ld1 rfl ?_
  refine R_n 5000 rfl rfl ?_
  refine B2_leT rfl (h2) ?_
  refine R_la0 rfl ?_
  refine R_getR rfl sh_1 rfl (rf_1_0 hrf) ?_
  refine R_getR rfl sh_2 rfl (rf_2_0 hrf) ?_
  refine R_getI rfl sh_3 rfl hn ?_
  refine R_n 16 rfl rfl ?_
  refine N2_ltF rfl (by omega) (by omega) (by omega) ?_
  refine R_i rfl ?_
  exact R_iret rfl (rfl)

theorem c_sensor_ok {n : Nat} (hrf : RFok rf) (hn : ρ 3 0 = nI n) (h16 : n < 16) (x : Int32) (h1 : ¬ x < 0) (h2 : x ≤ nI 5000) (hrem : PC 89 [.ref 1] (HP sl ρ rf) none (HP sl ρa rfa)) (hrfa : RFok rfa) (hna : ρa 3 0 = nI n) : PC 42 [.ref 1, .int x] (HP sl ρ rf) (some (.int (nI n))) (HP sl (adI ρa n (-1) (-1) x) rfa) := by
  refine PC_of (cd := p_c_X4_sensor) (L0 := [some (.ref 1), some (.int x)]) rfl rfl ?_
  refine R_ld1 rfl ?_
  refine B1_ltF rfl (h1) ?_
  refine R_ld1 rfl ?_
  refine R_n 5000 rfl rfl ?_
  refine B2_leT rfl (h2) ?_
  refine R_la0 rfl ?_
  refine R_getR rfl sh_1 rfl (rf_1_0 hrf) ?_
  refine R_getR rfl sh_2 rfl (rf_2_0 hrf) ?_
  refine R_getI rfl sh_3 rfl hn ?_
  refine R_n 16 rfl rfl ?_
  refine N2_ltT rfl (by omega) (by omega) (by omega) ?_
  refine R_la0 rfl ?_
  refine R_c1 rfl (hrem) rfl rfl rfl sh_1 rfl rfl ?_
  refine R_la0 rfl ?_
  refine R_getR rfl sh_1 rfl (rf_1_0 hrfa) ?_
  refine R_getR rfl sh_2 rfl (rf_2_0 hrfa) ?_
  refine R_i rfl ?_
  refine R_i rfl ?_
  refine R_ld1 rfl ?_
  refine R_c1 rfl (m_add hrfa hna h16 _ _ _) rfl rfl rfl sh_3 rfl rfl ?_
  exact R_iret rfl (rfl)

theorem c_lock_bad {n : Nat} (hrf : RFok rf) (hn : ρ 3 0 = nI n) (h16 : n ≤ 16) (x y : Int32) (h : inR 6 x = false ∨ (¬ y = -1 ∧ inR n y = false)) : PC 43 [.ref 1, .int x, .int y] (HP sl ρ rf) (some (.int (-1))) (HP sl ρ rf) := by
  refine PC_of (cd := p_c_X4_lock) (L0 := [some (.ref 1), some (.int x), some (.int y)]) rfl rfl ?_
  refine R_ld1 rfl ?_
  refine R_c0 rfl (m_isKey _) rfl rfl rfl ?_
  refine BB_eq rfl (fun g2 => ?_) (fun g2 => ?_)
  · refine R_i rfl ?_
    exact R_iret rfl (rfl)
  · refine R_ld2 rfl ?_
    refine R_i rfl ?_
    refine B2_eq rfl (fun g5 => ?_) (fun g5 => ?_)
    · revert h; simp_all
    · refine R_la0 rfl ?_
      refine R_ld2 rfl ?_
      refine R_c1 rfl (m_isInput hrf hn h16 _) rfl rfl rfl sh_1 rfl rfl ?_
      refine BB_ne rfl (fun g9 => ?_) (fun g9 => ?_)
      · revert h; simp_all
      · refine R_i rfl ?_
        exact R_iret rfl (rfl)

theorem c_lock_full {n k : Nat} (hrf : RFok rf) (hn : ρ 3 0 = nI n) (h16 : n = 16) (hk : k < 6) (y : Int32) (hy : y = -1 ∨ inR n y = true) : PC 43 [.ref 1, .int (nI k), .int y] (HP sl ρ rf) (some (.int (-3))) (HP sl ρ rf) := by
  rcases hy with hy | hy
  · refine PC_of (cd := p_c_X4_lock) (L0 := [some (.ref 1), some (.int (nI k)), some (.int y)]) rfl rfl ?_
    refine R_ld1 rfl ?_
    refine R_c0 rfl (m_isKey _) rfl rfl rfl ?_
    refine BB_eqF rfl (inR_N (by omega) (by omega)) ?_
    refine R_ld2 rfl ?_
    refine R_i rfl ?_
    refine B2_eqT rfl (hy) ?_
    refine R_la0 rfl ?_
    refine R_getR rfl sh_1 rfl (rf_1_0 hrf) ?_
    refine R_getR rfl sh_2 rfl (rf_2_0 hrf) ?_
    refine R_getI rfl sh_3 rfl hn ?_
    refine R_n 16 rfl rfl ?_
    refine N2_ltF rfl (by omega) (by omega) (by omega) ?_
    refine R_i rfl ?_
    exact R_iret rfl (rfl)
  · refine PC_of (cd := p_c_X4_lock) (L0 := [some (.ref 1), some (.int (nI k)), some (.int y)]) rfl rfl ?_
    have hy0 : ¬ y = -1 := fun q => by rw [q] at hy; revert hy; rw [show inR n (-1) = false from inR_f1 (by decide)]; simp
    refine R_ld1 rfl ?_
    refine R_c0 rfl (m_isKey _) rfl rfl rfl ?_
    refine BB_eqF rfl (inR_N (by omega) (by omega)) ?_
    refine R_ld2 rfl ?_
    refine R_i rfl ?_
    refine B2_eqF rfl (hy0) ?_
    refine R_la0 rfl ?_
    refine R_ld2 rfl ?_
    refine R_c1 rfl (m_isInput hrf hn (by omega) _) rfl rfl rfl sh_1 rfl rfl ?_
    refine BB_neT rfl (hy) ?_
    refine R_la0 rfl ?_
    refine R_getR rfl sh_1 rfl (rf_1_0 hrf) ?_
    refine R_getR rfl sh_2 rfl (rf_2_0 hrf) ?_
    refine R_getI rfl sh_3 rfl hn ?_
    refine R_n 16 rfl rfl ?_
    refine N2_ltF rfl (by omega) (by omega) (by omega) ?_
    refine R_i rfl ?_
    exact R_iret rfl (rfl)

theorem c_lock_ok {n k : Nat} (hrf : RFok rf) (hn : ρ 3 0 = nI n) (h16 : n < 16) (hk : k < 6) (y : Int32) (hy : y = -1 ∨ inR n y = true) (hrem : PC 89 [.ref 1] (HP sl ρ rf) none (HP sl ρa rfa)) (hrfa : RFok rfa) (hna : ρa 3 0 = nI n) : PC 43 [.ref 1, .int (nI k), .int y] (HP sl ρ rf) (some (.int (nI n))) (HP sl (adI ρa n (nI k) y (nI 0)) rfa) := by
  rcases hy with hy | hy
  · refine PC_of (cd := p_c_X4_lock) (L0 := [some (.ref 1), some (.int (nI k)), some (.int y)]) rfl rfl ?_
    refine R_ld1 rfl ?_
    refine R_c0 rfl (m_isKey _) rfl rfl rfl ?_
    refine BB_eqF rfl (inR_N (by omega) (by omega)) ?_
    refine R_ld2 rfl ?_
    refine R_i rfl ?_
    refine B2_eqT rfl (hy) ?_
    refine R_la0 rfl ?_
    refine R_getR rfl sh_1 rfl (rf_1_0 hrf) ?_
    refine R_getR rfl sh_2 rfl (rf_2_0 hrf) ?_
    refine R_getI rfl sh_3 rfl hn ?_
    refine R_n 16 rfl rfl ?_
    refine N2_ltT rfl (by omega) (by omega) (by omega) ?_
    refine R_la0 rfl ?_
    refine R_c1 rfl (hrem) rfl rfl rfl sh_1 rfl rfl ?_
    refine R_la0 rfl ?_
    refine R_getR rfl sh_1 rfl (rf_1_0 hrfa) ?_
    refine R_getR rfl sh_2 rfl (rf_2_0 hrfa) ?_
    refine R_ld1 rfl ?_
    refine R_ld2 rfl ?_
    refine R_n 0 rfl rfl ?_
    refine R_c1 rfl (m_add hrfa hna h16 _ _ _) rfl rfl rfl sh_3 rfl rfl ?_
    exact R_iret rfl (rfl)
  · refine PC_of (cd := p_c_X4_lock) (L0 := [some (.ref 1), some (.int (nI k)), some (.int y)]) rfl rfl ?_
    have hy0 : ¬ y = -1 := fun q => by rw [q] at hy; revert hy; rw [show inR n (-1) = false from inR_f1 (by decide)]; simp
    refine R_ld1 rfl ?_
    refine R_c0 rfl (m_isKey _) rfl rfl rfl ?_
    refine BB_eqF rfl (inR_N (by omega) (by omega)) ?_
    refine R_ld2 rfl ?_
    refine R_i rfl ?_
    refine B2_eqF rfl (hy0) ?_
    refine R_la0 rfl ?_
    refine R_ld2 rfl ?_
    refine R_c1 rfl (m_isInput hrf hn (by omega) _) rfl rfl rfl sh_1 rfl rfl ?_
    refine BB_neT rfl (hy) ?_
    refine R_la0 rfl ?_
    refine R_getR rfl sh_1 rfl (rf_1_0 hrf) ?_
    refine R_getR rfl sh_2 rfl (rf_2_0 hrf) ?_
    refine R_getI rfl sh_3 rfl hn ?_
    refine R_n 16 rfl rfl ?_
    refine N2_ltT rfl (by omega) (by omega) (by omega) ?_
    refine R_la0 rfl ?_
    refine R_c1 rfl (hrem) rfl rfl rfl sh_1 rfl rfl ?_
    refine R_la0 rfl ?_
    refine R_getR rfl sh_1 rfl (rf_1_0 hrfa) ?_
    refine R_getR rfl sh_2 rfl (rf_2_0 hrfa) ?_
    refine R_ld1 rfl ?_
    refine R_ld2 rfl ?_
    refine R_n 0 rfl rfl ?_
    refine R_c1 rfl (m_add hrfa hna h16 _ _ _) rfl rfl rfl sh_3 rfl rfl ?_
    exact R_iret rfl (rfl)

theorem c_ess_bad {n : Nat} (hrf : RFok rf) (hn : ρ 3 0 = nI n) (h16 : n ≤ 16) (x y : Int32) (h : inR n x = false ∨ inR 2 y = false) : PC 44 [.ref 1, .int x, .int y] (HP sl ρ rf) (some (.int (-1))) (HP sl ρ rf) := by
  refine PC_of (cd := p_c_X4_essential) (L0 := [some (.ref 1), some (.int x), some (.int y), none]) rfl rfl ?_
  refine R_la0 rfl ?_
  refine R_ld1 rfl ?_
  refine R_c1 rfl (m_isInput hrf hn h16 _) rfl rfl rfl sh_1 rfl rfl ?_
  refine BB_eq rfl (fun g3 => ?_) (fun g3 => ?_)
  · refine R_i rfl ?_
    exact R_iret rfl (rfl)
  · refine R_ld2 rfl ?_
    refine R_c0 rfl (m_isYes _) rfl rfl rfl ?_
    refine BB_ne rfl (fun g6 => ?_) (fun g6 => ?_)
    · revert h; simp_all
    · refine R_i rfl ?_
      exact R_iret rfl (rfl)

theorem c_ess_np {n : Nat} (hrf : RFok rf) (hn : ρ 3 0 = nI n) (h16 : n ≤ 16) {j : Nat} (hj : j < n) (hb : br ρ j = true) : PC 44 [.ref 1, .int (nI j), .int (nI 1)] (HP sl ρ rf) (some (.int (-2))) (HP sl ρ rf) := by
  refine PC_of (cd := p_c_X4_essential) (L0 := [some (.ref 1), some (.int (nI j)), some (.int (nI 1)), none]) rfl rfl ?_
  refine R_la0 rfl ?_
  refine R_ld1 rfl ?_
  refine R_c1 rfl (m_isInput hrf hn h16 _) rfl rfl rfl sh_1 rfl rfl ?_
  refine BB_eqF rfl (inR_N hj (by omega)) ?_
  refine R_ld2 rfl ?_
  refine R_c0 rfl (m_isYes _) rfl rfl rfl ?_
  refine BB_neT rfl (rfl) ?_
  refine R_ld2 rfl ?_
  refine R_n 1 rfl rfl ?_
  refine N2_neF rfl (by omega) (by omega) (by omega) ?_
  refine R_la0 rfl ?_
  refine R_getR rfl sh_1 rfl (rf_1_0 hrf) ?_
  refine R_getR rfl sh_2 rfl (rf_2_0 hrf) ?_
  refine R_c1 rfl (m_bridgedOnes hrf hn h16) rfl rfl rfl sh_3 rfl rfl ?_
  refine R_ld1 rfl ?_
  refine R_c0 rfl (m_has _ (by omega)) rfl rfl rfl ?_
  refine BB_eqF rfl ((wA_bt h16 hj).trans hb) ?_
  refine R_i rfl ?_
  exact R_iret rfl (rfl)

theorem c_ess_ok1 {n : Nat} (hrf : RFok rf) (hn : ρ 3 0 = nI n) (h16 : n ≤ 16) {j : Nat} (hj : j < n) (hb : br ρ j = false) (hrem : PC 89 [.ref 1] (HP sl ρ rf) none (HP sl ρa rfa)) (hrfa : RFok rfa) : PC 44 [.ref 1, .int (nI j), .int (nI 1)] (HP sl ρ rf) (some (.int (bI (bt (ρa 3 4) j)))) (HP sl (u2 ρa 3 4 (wI (ρa 3 4) j true)) rfa) := by
  refine PC_of (cd := p_c_X4_essential) (L0 := [some (.ref 1), some (.int (nI j)), some (.int (nI 1)), none]) rfl rfl ?_
  refine R_la0 rfl ?_
  refine R_ld1 rfl ?_
  refine R_c1 rfl (m_isInput hrf hn h16 _) rfl rfl rfl sh_1 rfl rfl ?_
  refine BB_eqF rfl (inR_N hj (by omega)) ?_
  refine R_ld2 rfl ?_
  refine R_c0 rfl (m_isYes _) rfl rfl rfl ?_
  refine BB_neT rfl (rfl) ?_
  refine R_ld2 rfl ?_
  refine R_n 1 rfl rfl ?_
  refine N2_neF rfl (by omega) (by omega) (by omega) ?_
  refine R_la0 rfl ?_
  refine R_getR rfl sh_1 rfl (rf_1_0 hrf) ?_
  refine R_getR rfl sh_2 rfl (rf_2_0 hrf) ?_
  refine R_c1 rfl (m_bridgedOnes hrf hn h16) rfl rfl rfl sh_3 rfl rfl ?_
  refine R_ld1 rfl ?_
  refine R_c0 rfl (m_has _ (by omega)) rfl rfl rfl ?_
  refine BB_eqT rfl ((wA_bt h16 hj).trans hb) ?_
  refine R_la0 rfl ?_
  refine R_c1 rfl (hrem) rfl rfl rfl sh_1 rfl rfl ?_
  refine R_la0 rfl ?_
  refine R_getR rfl sh_1 rfl (rf_1_0 hrfa) ?_
  refine R_getR rfl sh_2 rfl (rf_2_0 hrfa) ?_
  refine R_getI rfl sh_3 rfl rfl ?_
  refine R_ld1 rfl ?_
  refine R_c0 rfl (m_bitOf _ (by omega)) rfl rfl rfl ?_
  refine R_st3 rfl ?_
  refine R_la0 rfl ?_
  refine R_getR rfl sh_1 rfl (rf_1_0 hrfa) ?_
  refine R_getR rfl sh_2 rfl (rf_2_0 hrfa) ?_
  refine R_la0 rfl ?_
  refine R_getR rfl sh_1 rfl (rf_1_0 hrfa) ?_
  refine R_getR rfl sh_2 rfl (rf_2_0 hrfa) ?_
  refine R_getI rfl sh_3 rfl rfl ?_
  refine R_ld1 rfl ?_
  refine R_ld2 rfl ?_
  refine R_n 1 rfl rfl ?_
  refine N2_neF rfl (by omega) (by omega) (by omega) ?_
  refine R_n 1 rfl rfl ?_
  refine R_goto rfl ?_
  refine R_c0 rfl (m_with _ _ true) rfl rfl rfl ?_
  refine R_putI rfl sh_3 rfl ?_
  refine R_ld3 rfl ?_
  exact R_iret rfl (rfl)

theorem c_ess_ok0 {n : Nat} (hrf : RFok rf) (hn : ρ 3 0 = nI n) (h16 : n ≤ 16) {j : Nat} (hj : j < n) (hrem : PC 89 [.ref 1] (HP sl ρ rf) none (HP sl ρa rfa)) (hrfa : RFok rfa) : PC 44 [.ref 1, .int (nI j), .int (nI 0)] (HP sl ρ rf) (some (.int (bI (bt (ρa 3 4) j)))) (HP sl (u2 ρa 3 4 (wI (ρa 3 4) j false)) rfa) := by
  refine PC_of (cd := p_c_X4_essential) (L0 := [some (.ref 1), some (.int (nI j)), some (.int (nI 0)), none]) rfl rfl ?_
  refine R_la0 rfl ?_
  refine R_ld1 rfl ?_
  refine R_c1 rfl (m_isInput hrf hn h16 _) rfl rfl rfl sh_1 rfl rfl ?_
  refine BB_eqF rfl (inR_N hj (by omega)) ?_
  refine R_ld2 rfl ?_
  refine R_c0 rfl (m_isYes _) rfl rfl rfl ?_
  refine BB_neT rfl (rfl) ?_
  refine R_ld2 rfl ?_
  refine R_n 1 rfl rfl ?_
  refine N2_neT rfl (by omega) (by omega) (by omega) ?_
  refine R_la0 rfl ?_
  refine R_c1 rfl (hrem) rfl rfl rfl sh_1 rfl rfl ?_
  refine R_la0 rfl ?_
  refine R_getR rfl sh_1 rfl (rf_1_0 hrfa) ?_
  refine R_getR rfl sh_2 rfl (rf_2_0 hrfa) ?_
  refine R_getI rfl sh_3 rfl rfl ?_
  refine R_ld1 rfl ?_
  refine R_c0 rfl (m_bitOf _ (by omega)) rfl rfl rfl ?_
  refine R_st3 rfl ?_
  refine R_la0 rfl ?_
  refine R_getR rfl sh_1 rfl (rf_1_0 hrfa) ?_
  refine R_getR rfl sh_2 rfl (rf_2_0 hrfa) ?_
  refine R_la0 rfl ?_
  refine R_getR rfl sh_1 rfl (rf_1_0 hrfa) ?_
  refine R_getR rfl sh_2 rfl (rf_2_0 hrfa) ?_
  refine R_getI rfl sh_3 rfl rfl ?_
  refine R_ld1 rfl ?_
  refine R_ld2 rfl ?_
  refine R_n 1 rfl rfl ?_
  refine N2_neT rfl (by omega) (by omega) (by omega) ?_
  refine R_n 0 rfl rfl ?_
  refine R_c0 rfl (m_with _ _ false) rfl rfl rfl ?_
  refine R_putI rfl sh_3 rfl ?_
  refine R_ld3 rfl ?_
  exact R_iret rfl (rfl)

theorem c_input_bad {n : Nat} (hrf : RFok rf) (hn : ρ 3 0 = nI n) (h16 : n ≤ 16) (x y : Int32) (h : inR n x = false ∨ inR 2 y = false) : PC 45 [.ref 1, .int x, .int y] (HP sl ρ rf) (some (.int (-1))) (HP sl ρ rf) := by
  refine PC_of (cd := p_c_X4_input) (L0 := [some (.ref 1), some (.int x), some (.int y), none]) rfl rfl ?_
  refine R_la0 rfl ?_
  refine R_ld1 rfl ?_
  refine R_c1 rfl (m_isInput hrf hn h16 _) rfl rfl rfl sh_1 rfl rfl ?_
  refine BB_eq rfl (fun g3 => ?_) (fun g3 => ?_)
  · refine R_i rfl ?_
    exact R_iret rfl (rfl)
  · refine R_ld2 rfl ?_
    refine R_c0 rfl (m_isYes _) rfl rfl rfl ?_
    refine BB_ne rfl (fun g6 => ?_) (fun g6 => ?_)
    · revert h; simp_all
    · refine R_i rfl ?_
      exact R_iret rfl (rfl)

theorem c_input_lock {n : Nat} (hrf : RFok rf) (hn : ρ 3 0 = nI n) (h16 : n ≤ 16) {j : Nat} (hj : j < n) {w : Nat} (hw : w < 2) (hl : ¬ ρ 4 j = -1) : PC 45 [.ref 1, .int (nI j), .int (nI w)] (HP sl ρ rf) (some (.int (-2))) (HP sl ρ rf) := by
  refine PC_of (cd := p_c_X4_input) (L0 := [some (.ref 1), some (.int (nI j)), some (.int (nI w)), none]) rfl rfl ?_
  refine R_la0 rfl ?_
  refine R_ld1 rfl ?_
  refine R_c1 rfl (m_isInput hrf hn h16 _) rfl rfl rfl sh_1 rfl rfl ?_
  refine BB_eqF rfl (inR_N hj (by omega)) ?_
  refine R_ld2 rfl ?_
  refine R_c0 rfl (m_isYes _) rfl rfl rfl ?_
  refine BB_neT rfl (inR_N hw (by omega)) ?_
  refine R_la0 rfl ?_
  refine R_getR rfl sh_1 rfl (rf_1_0 hrf) ?_
  refine R_getR rfl sh_2 rfl (rf_2_0 hrf) ?_
  refine R_ld1 rfl ?_
  refine R_c1 rfl (m_isLock hrf (by omega)) rfl rfl rfl sh_3 rfl rfl ?_
  refine BB_eqF rfl (decide_eq_true hl) ?_
  refine R_i rfl ?_
  exact R_iret rfl (rfl)

theorem c_input_ok1 {n : Nat} (hrf : RFok rf) (hn : ρ 3 0 = nI n) (h16 : n ≤ 16) {j : Nat} (hj : j < n) (hl : ρ 4 j = -1) (hrem : PC 89 [.ref 1] (HP sl ρ rf) none (HP sl ρa rfa)) (hrfa : RFok rfa) {c c2 : Nat → Bool} {rc : Nat → Nat} (hna : ρa 3 0 = nI n) (hca : ρa 3 3 = M c) (hnb : (clS ρa j) 3 0 = nI n) (hcb : (clS ρa j) 3 3 = M c2) (hrb : ∀ m, m < 6 → (clS ρa j) 14 m = nI (rc m) ∧ rc m ≤ 4) : PC 45 [.ref 1, .int (nI j), .int (nI 1)] (HP sl ρ rf) (some (.int (nI (fb_ct (suN (clS ρa j) rc (M (cM ρa n c)) (M (cM (clS ρa j) n c2)) ((clS ρa j) 3 1)) 6)))) (HP sl (suA (clS ρa j) rc (M (cM ρa n c)) (M (cM (clS ρa j) n c2)) ((clS ρa j) 3 1) 6) rfa) := by
  refine PC_of (cd := p_c_X4_input) (L0 := [some (.ref 1), some (.int (nI j)), some (.int (nI 1)), none]) rfl rfl ?_
  refine R_la0 rfl ?_
  refine R_ld1 rfl ?_
  refine R_c1 rfl (m_isInput hrf hn h16 _) rfl rfl rfl sh_1 rfl rfl ?_
  refine BB_eqF rfl (inR_N hj (by omega)) ?_
  refine R_ld2 rfl ?_
  refine R_c0 rfl (m_isYes _) rfl rfl rfl ?_
  refine BB_neT rfl (rfl) ?_
  refine R_la0 rfl ?_
  refine R_getR rfl sh_1 rfl (rf_1_0 hrf) ?_
  refine R_getR rfl sh_2 rfl (rf_2_0 hrf) ?_
  refine R_ld1 rfl ?_
  refine R_c1 rfl (m_isLock hrf (by omega)) rfl rfl rfl sh_3 rfl rfl ?_
  refine BB_eqT rfl (decide_eq_false (fun q => q hl)) ?_
  refine R_la0 rfl ?_
  refine R_c1 rfl (hrem) rfl rfl rfl sh_1 rfl rfl ?_
  refine R_la0 rfl ?_
  refine R_getR rfl sh_1 rfl (rf_1_0 hrfa) ?_
  refine R_getR rfl sh_2 rfl (rf_2_0 hrfa) ?_
  refine R_c1 rfl (m_counting hrfa hna h16 hca) rfl rfl rfl sh_3 rfl rfl ?_
  refine R_st3 rfl ?_
  refine R_ld2 rfl ?_
  refine R_n 1 rfl rfl ?_
  refine N2_neF rfl (by omega) (by omega) (by omega) ?_
  refine R_la0 rfl ?_
  refine R_getR rfl sh_1 rfl (rf_1_0 hrfa) ?_
  refine R_getR rfl sh_2 rfl (rf_2_0 hrfa) ?_
  refine R_ld1 rfl ?_
  refine R_c1 rfl (m_closeS hrfa (by omega)) rfl rfl rfl sh_3 rfl rfl ?_
  refine R_goto rfl ?_
  refine R_la0 rfl ?_
  refine R_ld3 rfl ?_
  refine R_c1 rfl (m_look hrfa hnb h16 hcb hrb _) rfl rfl rfl sh_1 rfl rfl ?_
  exact R_iret rfl (rfl)

theorem c_input_ok0 {n : Nat} (hrf : RFok rf) (hn : ρ 3 0 = nI n) (h16 : n ≤ 16) {j : Nat} (hj : j < n) (hl : ρ 4 j = -1) (hrem : PC 89 [.ref 1] (HP sl ρ rf) none (HP sl ρa rfa)) (hrfa : RFok rfa) {c c2 : Nat → Bool} {rc : Nat → Nat} (hna : ρa 3 0 = nI n) (hca : ρa 3 3 = M c) (hnb : (opS ρa j) 3 0 = nI n) (hcb : (opS ρa j) 3 3 = M c2) (hrb : ∀ m, m < 6 → (opS ρa j) 14 m = nI (rc m) ∧ rc m ≤ 4) : PC 45 [.ref 1, .int (nI j), .int (nI 0)] (HP sl ρ rf) (some (.int (nI (fb_ct (suN (opS ρa j) rc (M (cM ρa n c)) (M (cM (opS ρa j) n c2)) ((opS ρa j) 3 1)) 6)))) (HP sl (suA (opS ρa j) rc (M (cM ρa n c)) (M (cM (opS ρa j) n c2)) ((opS ρa j) 3 1) 6) rfa) := by
  refine PC_of (cd := p_c_X4_input) (L0 := [some (.ref 1), some (.int (nI j)), some (.int (nI 0)), none]) rfl rfl ?_
  refine R_la0 rfl ?_
  refine R_ld1 rfl ?_
  refine R_c1 rfl (m_isInput hrf hn h16 _) rfl rfl rfl sh_1 rfl rfl ?_
  refine BB_eqF rfl (inR_N hj (by omega)) ?_
  refine R_ld2 rfl ?_
  refine R_c0 rfl (m_isYes _) rfl rfl rfl ?_
  refine BB_neT rfl (rfl) ?_
  refine R_la0 rfl ?_
  refine R_getR rfl sh_1 rfl (rf_1_0 hrf) ?_
  refine R_getR rfl sh_2 rfl (rf_2_0 hrf) ?_
  refine R_ld1 rfl ?_
  refine R_c1 rfl (m_isLock hrf (by omega)) rfl rfl rfl sh_3 rfl rfl ?_
  refine BB_eqT rfl (decide_eq_false (fun q => q hl)) ?_
  refine R_la0 rfl ?_
  refine R_c1 rfl (hrem) rfl rfl rfl sh_1 rfl rfl ?_
  refine R_la0 rfl ?_
  refine R_getR rfl sh_1 rfl (rf_1_0 hrfa) ?_
  refine R_getR rfl sh_2 rfl (rf_2_0 hrfa) ?_
  refine R_c1 rfl (m_counting hrfa hna h16 hca) rfl rfl rfl sh_3 rfl rfl ?_
  refine R_st3 rfl ?_
  refine R_ld2 rfl ?_
  refine R_n 1 rfl rfl ?_
  refine N2_neT rfl (by omega) (by omega) (by omega) ?_
  refine R_la0 rfl ?_
  refine R_getR rfl sh_1 rfl (rf_1_0 hrfa) ?_
  refine R_getR rfl sh_2 rfl (rf_2_0 hrfa) ?_
  refine R_ld1 rfl ?_
  refine R_c1 rfl (m_openS hrfa (by omega)) rfl rfl rfl sh_3 rfl rfl ?_
  refine R_la0 rfl ?_
  refine R_ld3 rfl ?_
  refine R_c1 rfl (m_look hrfa hnb h16 hcb hrb _) rfl rfl rfl sh_1 rfl rfl ?_
  exact R_iret rfl (rfl)

theorem c_info_bad1 {n : Nat} (hrf : RFok rf) (hn : ρ 3 0 = nI n) (h16 : n ≤ 16) (x y : Int32) (h : inR n x = false) : PC 46 [.ref 1, .int x, .int y] (HP sl ρ rf) (some (.int (-1))) (HP sl ρ rf) := by
  refine PC_of (cd := p_c_X4_inputInfo) (L0 := [some (.ref 1), some (.int x), some (.int y), none]) rfl rfl ?_
  refine R_la0 rfl ?_
  refine R_ld1 rfl ?_
  refine R_c1 rfl (m_isInput hrf hn h16 _) rfl rfl rfl sh_1 rfl rfl ?_
  refine BB_ne rfl (fun g3 => ?_) (fun g3 => ?_)
  · revert h; simp_all
  · refine R_i rfl ?_
    exact R_iret rfl (rfl)

theorem c_info_bad2 {n : Nat} (hrf : RFok rf) (hn : ρ 3 0 = nI n) (h16 : n ≤ 16) {j : Nat} (hj : j < n) (y : Int32) (h : inR 12 y = false) : PC 46 [.ref 1, .int (nI j), .int y] (HP sl ρ rf) (some (.int (-1))) (HP sl ρ rf) := by
  refine PC_of (cd := p_c_X4_inputInfo) (L0 := [some (.ref 1), some (.int (nI j)), some (.int y), none]) rfl rfl ?_
  refine R_la0 rfl ?_
  refine R_ld1 rfl ?_
  refine R_c1 rfl (m_isInput hrf hn h16 _) rfl rfl rfl sh_1 rfl rfl ?_
  refine BB_neT rfl (inR_N hj (by omega)) ?_
  refine R_la0 rfl ?_
  refine R_getR rfl sh_1 rfl (rf_1_0 hrf) ?_
  refine R_getR rfl sh_2 rfl (rf_2_0 hrf) ?_
  refine R_sa3 rfl ?_
  refine R_ld2 rfl ?_
  refine R_sw rfl (if_pos (inR_fi (n := 12) (by decide) h)) ?_
  refine R_i rfl ?_
  exact R_iret rfl (rfl)

theorem c_info_0 {n : Nat} (hrf : RFok rf) (hn : ρ 3 0 = nI n) (h16 : n ≤ 16) {j : Nat} (hj : j < n) : PC 46 [.ref 1, .int (nI j), .int (nI 0)] (HP sl ρ rf) (some (.int (bI (decide (¬ ρ 4 j = -1))))) (HP sl ρ rf) := by
  refine PC_of (cd := p_c_X4_inputInfo) (L0 := [some (.ref 1), some (.int (nI j)), some (.int (nI 0)), none]) rfl rfl ?_
  refine R_la0 rfl ?_
  refine R_ld1 rfl ?_
  refine R_c1 rfl (m_isInput hrf hn h16 _) rfl rfl rfl sh_1 rfl rfl ?_
  refine BB_neT rfl (inR_N hj (by omega)) ?_
  refine R_la0 rfl ?_
  refine R_getR rfl sh_1 rfl (rf_1_0 hrf) ?_
  refine R_getR rfl sh_2 rfl (rf_2_0 hrf) ?_
  refine R_sa3 rfl ?_
  refine R_ld2 rfl ?_
  refine R_swN rfl (by omega) rfl ?_
  refine R_la3 rfl ?_
  refine R_ld1 rfl ?_
  refine R_c1 rfl (m_isLock hrf (by omega)) rfl rfl rfl sh_3 rfl rfl ?_
  refine BB_eq rfl (fun g15 => ?_) (fun g15 => ?_)
  · refine R_n 0 rfl rfl ?_
    exact R_iret rfl (by first | rfl | exact lf_i (by simp [*]; rfl) | exact lf_i (by rw [g15]; rfl))
  · refine R_n 1 rfl rfl ?_
    refine R_goto rfl ?_
    exact R_iret rfl (by first | rfl | exact lf_i (by simp [*]; rfl) | exact lf_i (by rw [g15]; rfl))

theorem c_info_1 {n : Nat} (hrf : RFok rf) (hn : ρ 3 0 = nI n) (h16 : n ≤ 16) {j : Nat} (hj : j < n) : PC 46 [.ref 1, .int (nI j), .int (nI 1)] (HP sl ρ rf) (some (.int (bI (bt (ρ 3 3) j)))) (HP sl ρ rf) := by
  refine PC_of (cd := p_c_X4_inputInfo) (L0 := [some (.ref 1), some (.int (nI j)), some (.int (nI 1)), none]) rfl rfl ?_
  refine R_la0 rfl ?_
  refine R_ld1 rfl ?_
  refine R_c1 rfl (m_isInput hrf hn h16 _) rfl rfl rfl sh_1 rfl rfl ?_
  refine BB_neT rfl (inR_N hj (by omega)) ?_
  refine R_la0 rfl ?_
  refine R_getR rfl sh_1 rfl (rf_1_0 hrf) ?_
  refine R_getR rfl sh_2 rfl (rf_2_0 hrf) ?_
  refine R_sa3 rfl ?_
  refine R_ld2 rfl ?_
  refine R_swN rfl (by omega) rfl ?_
  refine R_la3 rfl ?_
  refine R_getI rfl sh_3 rfl rfl ?_
  refine R_ld1 rfl ?_
  refine R_c0 rfl (m_bitOf _ (by omega)) rfl rfl rfl ?_
  exact R_iret rfl (by first | rfl | exact lf_i (by simp [*]; rfl) | exact lf_i (by rw [g15]; rfl))

theorem c_info_2 {n : Nat} (hrf : RFok rf) (hn : ρ 3 0 = nI n) (h16 : n ≤ 16) {j : Nat} (hj : j < n) {c : Nat → Bool} (hc : ρ 3 3 = M c) : PC 46 [.ref 1, .int (nI j), .int (nI 2)] (HP sl ρ rf) (some (.int (bI (bt (M (cM ρ n c)) j)))) (HP sl ρ rf) := by
  refine PC_of (cd := p_c_X4_inputInfo) (L0 := [some (.ref 1), some (.int (nI j)), some (.int (nI 2)), none]) rfl rfl ?_
  refine R_la0 rfl ?_
  refine R_ld1 rfl ?_
  refine R_c1 rfl (m_isInput hrf hn h16 _) rfl rfl rfl sh_1 rfl rfl ?_
  refine BB_neT rfl (inR_N hj (by omega)) ?_
  refine R_la0 rfl ?_
  refine R_getR rfl sh_1 rfl (rf_1_0 hrf) ?_
  refine R_getR rfl sh_2 rfl (rf_2_0 hrf) ?_
  refine R_sa3 rfl ?_
  refine R_ld2 rfl ?_
  refine R_swN rfl (by omega) rfl ?_
  refine R_la3 rfl ?_
  refine R_c1 rfl (m_counting hrf hn h16 hc) rfl rfl rfl sh_3 rfl rfl ?_
  refine R_ld1 rfl ?_
  refine R_c0 rfl (m_bitOf _ (by omega)) rfl rfl rfl ?_
  exact R_iret rfl (by first | rfl | exact lf_i (by simp [*]; rfl) | exact lf_i (by rw [g15]; rfl))

theorem c_info_3 {n : Nat} (hrf : RFok rf) (hn : ρ 3 0 = nI n) (h16 : n ≤ 16) {j : Nat} (hj : j < n) : PC 46 [.ref 1, .int (nI j), .int (nI 3)] (HP sl ρ rf) (some (.int (bI (bt (ρ 3 4) j)))) (HP sl ρ rf) := by
  refine PC_of (cd := p_c_X4_inputInfo) (L0 := [some (.ref 1), some (.int (nI j)), some (.int (nI 3)), none]) rfl rfl ?_
  refine R_la0 rfl ?_
  refine R_ld1 rfl ?_
  refine R_c1 rfl (m_isInput hrf hn h16 _) rfl rfl rfl sh_1 rfl rfl ?_
  refine BB_neT rfl (inR_N hj (by omega)) ?_
  refine R_la0 rfl ?_
  refine R_getR rfl sh_1 rfl (rf_1_0 hrf) ?_
  refine R_getR rfl sh_2 rfl (rf_2_0 hrf) ?_
  refine R_sa3 rfl ?_
  refine R_ld2 rfl ?_
  refine R_swN rfl (by omega) rfl ?_
  refine R_la3 rfl ?_
  refine R_getI rfl sh_3 rfl rfl ?_
  refine R_ld1 rfl ?_
  refine R_c0 rfl (m_bitOf _ (by omega)) rfl rfl rfl ?_
  exact R_iret rfl (by first | rfl | exact lf_i (by simp [*]; rfl) | exact lf_i (by rw [g15]; rfl))

theorem c_info_4 {n : Nat} (hrf : RFok rf) (hn : ρ 3 0 = nI n) (h16 : n ≤ 16) {j : Nat} (hj : j < n) : PC 46 [.ref 1, .int (nI j), .int (nI 4)] (HP sl ρ rf) (some (.int (bI (bt (wA (ov ρ) n) j)))) (HP sl ρ rf) := by
  refine PC_of (cd := p_c_X4_inputInfo) (L0 := [some (.ref 1), some (.int (nI j)), some (.int (nI 4)), none]) rfl rfl ?_
  refine R_la0 rfl ?_
  refine R_ld1 rfl ?_
  refine R_c1 rfl (m_isInput hrf hn h16 _) rfl rfl rfl sh_1 rfl rfl ?_
  refine BB_neT rfl (inR_N hj (by omega)) ?_
  refine R_la0 rfl ?_
  refine R_getR rfl sh_1 rfl (rf_1_0 hrf) ?_
  refine R_getR rfl sh_2 rfl (rf_2_0 hrf) ?_
  refine R_sa3 rfl ?_
  refine R_ld2 rfl ?_
  refine R_swN rfl (by omega) rfl ?_
  refine R_la3 rfl ?_
  refine R_c1 rfl (m_overdue hrf hn h16) rfl rfl rfl sh_3 rfl rfl ?_
  refine R_ld1 rfl ?_
  refine R_c0 rfl (m_bitOf _ (by omega)) rfl rfl rfl ?_
  exact R_iret rfl (by first | rfl | exact lf_i (by simp [*]; rfl) | exact lf_i (by rw [g15]; rfl))

theorem c_info_5 {n : Nat} (hrf : RFok rf) (hn : ρ 3 0 = nI n) (h16 : n ≤ 16) {j : Nat} (hj : j < n) : PC 46 [.ref 1, .int (nI j), .int (nI 5)] (HP sl ρ rf) (some (.int (ρ 6 j))) (HP sl ρ rf) := by
  refine PC_of (cd := p_c_X4_inputInfo) (L0 := [some (.ref 1), some (.int (nI j)), some (.int (nI 5)), none]) rfl rfl ?_
  refine R_la0 rfl ?_
  refine R_ld1 rfl ?_
  refine R_c1 rfl (m_isInput hrf hn h16 _) rfl rfl rfl sh_1 rfl rfl ?_
  refine BB_neT rfl (inR_N hj (by omega)) ?_
  refine R_la0 rfl ?_
  refine R_getR rfl sh_1 rfl (rf_1_0 hrf) ?_
  refine R_getR rfl sh_2 rfl (rf_2_0 hrf) ?_
  refine R_sa3 rfl ?_
  refine R_ld2 rfl ?_
  refine R_swN rfl (by omega) rfl ?_
  refine R_la3 rfl ?_
  refine R_getR rfl sh_3 rfl (rf_3_7 hrf) ?_
  refine R_ld1 rfl ?_
  refine R_ald rfl sh_6 (by first | decide | omega) (by omega) rfl ?_
  exact R_iret rfl (by first | rfl | exact lf_i (by simp [*]; rfl) | exact lf_i (by rw [g15]; rfl))

theorem c_info_6 {n : Nat} (hrf : RFok rf) (hn : ρ 3 0 = nI n) (h16 : n ≤ 16) {j : Nat} (hj : j < n) : PC 46 [.ref 1, .int (nI j), .int (nI 6)] (HP sl ρ rf) (some (.int (ρ 7 j))) (HP sl ρ rf) := by
  refine PC_of (cd := p_c_X4_inputInfo) (L0 := [some (.ref 1), some (.int (nI j)), some (.int (nI 6)), none]) rfl rfl ?_
  refine R_la0 rfl ?_
  refine R_ld1 rfl ?_
  refine R_c1 rfl (m_isInput hrf hn h16 _) rfl rfl rfl sh_1 rfl rfl ?_
  refine BB_neT rfl (inR_N hj (by omega)) ?_
  refine R_la0 rfl ?_
  refine R_getR rfl sh_1 rfl (rf_1_0 hrf) ?_
  refine R_getR rfl sh_2 rfl (rf_2_0 hrf) ?_
  refine R_sa3 rfl ?_
  refine R_ld2 rfl ?_
  refine R_swN rfl (by omega) rfl ?_
  refine R_la3 rfl ?_
  refine R_getR rfl sh_3 rfl (rf_3_8 hrf) ?_
  refine R_ld1 rfl ?_
  refine R_ald rfl sh_7 (by first | decide | omega) (by omega) rfl ?_
  exact R_iret rfl (by first | rfl | exact lf_i (by simp [*]; rfl) | exact lf_i (by rw [g15]; rfl))

theorem c_info_7 {n : Nat} (hrf : RFok rf) (hn : ρ 3 0 = nI n) (h16 : n ≤ 16) {j : Nat} (hj : j < n) : PC 46 [.ref 1, .int (nI j), .int (nI 7)] (HP sl ρ rf) (some (.int (ρ 8 j))) (HP sl ρ rf) := by
  refine PC_of (cd := p_c_X4_inputInfo) (L0 := [some (.ref 1), some (.int (nI j)), some (.int (nI 7)), none]) rfl rfl ?_
  refine R_la0 rfl ?_
  refine R_ld1 rfl ?_
  refine R_c1 rfl (m_isInput hrf hn h16 _) rfl rfl rfl sh_1 rfl rfl ?_
  refine BB_neT rfl (inR_N hj (by omega)) ?_
  refine R_la0 rfl ?_
  refine R_getR rfl sh_1 rfl (rf_1_0 hrf) ?_
  refine R_getR rfl sh_2 rfl (rf_2_0 hrf) ?_
  refine R_sa3 rfl ?_
  refine R_ld2 rfl ?_
  refine R_swN rfl (by omega) rfl ?_
  refine R_la3 rfl ?_
  refine R_getR rfl sh_3 rfl (rf_3_9 hrf) ?_
  refine R_ld1 rfl ?_
  refine R_ald rfl sh_8 (by first | decide | omega) (by omega) rfl ?_
  exact R_iret rfl (by first | rfl | exact lf_i (by simp [*]; rfl) | exact lf_i (by rw [g15]; rfl))

theorem c_info_8 {n : Nat} (hrf : RFok rf) (hn : ρ 3 0 = nI n) (h16 : n ≤ 16) {j : Nat} (hj : j < n) : PC 46 [.ref 1, .int (nI j), .int (nI 8)] (HP sl ρ rf) (some (.int (ρ 9 j))) (HP sl ρ rf) := by
  refine PC_of (cd := p_c_X4_inputInfo) (L0 := [some (.ref 1), some (.int (nI j)), some (.int (nI 8)), none]) rfl rfl ?_
  refine R_la0 rfl ?_
  refine R_ld1 rfl ?_
  refine R_c1 rfl (m_isInput hrf hn h16 _) rfl rfl rfl sh_1 rfl rfl ?_
  refine BB_neT rfl (inR_N hj (by omega)) ?_
  refine R_la0 rfl ?_
  refine R_getR rfl sh_1 rfl (rf_1_0 hrf) ?_
  refine R_getR rfl sh_2 rfl (rf_2_0 hrf) ?_
  refine R_sa3 rfl ?_
  refine R_ld2 rfl ?_
  refine R_swN rfl (by omega) rfl ?_
  refine R_la3 rfl ?_
  refine R_getR rfl sh_3 rfl (rf_3_10 hrf) ?_
  refine R_ld1 rfl ?_
  refine R_ald rfl sh_9 (by first | decide | omega) (by omega) rfl ?_
  exact R_iret rfl (by first | rfl | exact lf_i (by simp [*]; rfl) | exact lf_i (by rw [g15]; rfl))

theorem c_info_9 {n : Nat} (hrf : RFok rf) (hn : ρ 3 0 = nI n) (h16 : n ≤ 16) {j : Nat} (hj : j < n) : PC 46 [.ref 1, .int (nI j), .int (nI 9)] (HP sl ρ rf) (some (.int (ρ 10 j))) (HP sl ρ rf) := by
  refine PC_of (cd := p_c_X4_inputInfo) (L0 := [some (.ref 1), some (.int (nI j)), some (.int (nI 9)), none]) rfl rfl ?_
  refine R_la0 rfl ?_
  refine R_ld1 rfl ?_
  refine R_c1 rfl (m_isInput hrf hn h16 _) rfl rfl rfl sh_1 rfl rfl ?_
  refine BB_neT rfl (inR_N hj (by omega)) ?_
  refine R_la0 rfl ?_
  refine R_getR rfl sh_1 rfl (rf_1_0 hrf) ?_
  refine R_getR rfl sh_2 rfl (rf_2_0 hrf) ?_
  refine R_sa3 rfl ?_
  refine R_ld2 rfl ?_
  refine R_swN rfl (by omega) rfl ?_
  refine R_la3 rfl ?_
  refine R_getR rfl sh_3 rfl (rf_3_11 hrf) ?_
  refine R_ld1 rfl ?_
  refine R_ald rfl sh_10 (by first | decide | omega) (by omega) rfl ?_
  exact R_iret rfl (by first | rfl | exact lf_i (by simp [*]; rfl) | exact lf_i (by rw [g15]; rfl))

theorem c_info_10 {n : Nat} (hrf : RFok rf) (hn : ρ 3 0 = nI n) (h16 : n ≤ 16) {j : Nat} (hj : j < n) : PC 46 [.ref 1, .int (nI j), .int (nI 10)] (HP sl ρ rf) (some (.int (onf (ρ 4 j)))) (HP sl ρ rf) := by
  refine PC_of (cd := p_c_X4_inputInfo) (L0 := [some (.ref 1), some (.int (nI j)), some (.int (nI 10)), none]) rfl rfl ?_
  refine R_la0 rfl ?_
  refine R_ld1 rfl ?_
  refine R_c1 rfl (m_isInput hrf hn h16 _) rfl rfl rfl sh_1 rfl rfl ?_
  refine BB_neT rfl (inR_N hj (by omega)) ?_
  refine R_la0 rfl ?_
  refine R_getR rfl sh_1 rfl (rf_1_0 hrf) ?_
  refine R_getR rfl sh_2 rfl (rf_2_0 hrf) ?_
  refine R_sa3 rfl ?_
  refine R_ld2 rfl ?_
  refine R_swN rfl (by omega) rfl ?_
  refine R_la3 rfl ?_
  refine R_getR rfl sh_3 rfl (rf_3_5 hrf) ?_
  refine R_ld1 rfl ?_
  refine R_ald rfl sh_4 (by first | decide | omega) (by omega) rfl ?_
  refine R_c0 rfl (m_orNF _) rfl rfl rfl ?_
  exact R_iret rfl (by first | rfl | exact lf_i (by simp [*]; rfl) | exact lf_i (by rw [g15]; rfl))

theorem c_info_11 {n : Nat} (hrf : RFok rf) (hn : ρ 3 0 = nI n) (h16 : n ≤ 16) {j : Nat} (hj : j < n) : PC 46 [.ref 1, .int (nI j), .int (nI 11)] (HP sl ρ rf) (some (.int (onf (ρ 5 j)))) (HP sl ρ rf) := by
  refine PC_of (cd := p_c_X4_inputInfo) (L0 := [some (.ref 1), some (.int (nI j)), some (.int (nI 11)), none]) rfl rfl ?_
  refine R_la0 rfl ?_
  refine R_ld1 rfl ?_
  refine R_c1 rfl (m_isInput hrf hn h16 _) rfl rfl rfl sh_1 rfl rfl ?_
  refine BB_neT rfl (inR_N hj (by omega)) ?_
  refine R_la0 rfl ?_
  refine R_getR rfl sh_1 rfl (rf_1_0 hrf) ?_
  refine R_getR rfl sh_2 rfl (rf_2_0 hrf) ?_
  refine R_sa3 rfl ?_
  refine R_ld2 rfl ?_
  refine R_swN rfl (by omega) rfl ?_
  refine R_la3 rfl ?_
  refine R_getR rfl sh_3 rfl (rf_3_6 hrf) ?_
  refine R_ld1 rfl ?_
  refine R_ald rfl sh_5 (by first | decide | omega) (by omega) rfl ?_
  refine R_c0 rfl (m_orNF _) rfl rfl rfl ?_
  exact R_iret rfl (by first | rfl | exact lf_i (by simp [*]; rfl) | exact lf_i (by rw [g15]; rfl))

theorem c_keyIn_bad {n : Nat} (hrf : RFok rf) (hn : ρ 3 0 = nI n) (h16 : n ≤ 16) (x y : Int32) (h : inR 6 x = false ∨ inR n y = false) : PC 47 [.ref 1, .int x, .int y] (HP sl ρ rf) (some (.int (-1))) (HP sl ρ rf) := by
  refine PC_of (cd := p_c_X4_keyIn) (L0 := [some (.ref 1), some (.int x), some (.int y)]) rfl rfl ?_
  refine R_ld1 rfl ?_
  refine R_c0 rfl (m_isKey _) rfl rfl rfl ?_
  refine BB_eq rfl (fun g2 => ?_) (fun g2 => ?_)
  · refine R_i rfl ?_
    exact R_iret rfl (rfl)
  · refine R_la0 rfl ?_
    refine R_ld2 rfl ?_
    refine R_c1 rfl (m_isInput hrf hn h16 _) rfl rfl rfl sh_1 rfl rfl ?_
    refine BB_ne rfl (fun g6 => ?_) (fun g6 => ?_)
    · revert h; simp_all
    · refine R_i rfl ?_
      exact R_iret rfl (rfl)

theorem c_keyIn_np {n : Nat} (hrf : RFok rf) (hn : ρ 3 0 = nI n) (h16 : n ≤ 16) {j : Nat} (hj : j < n) {k : Nat} (hk : k < 6) (h : ¬ fI (ff (kA ρ (nI k)) n) = -1 ∨ ¬ ρ 4 j = nI k) : PC 47 [.ref 1, .int (nI k), .int (nI j)] (HP sl ρ rf) (some (.int (-2))) (HP sl ρ rf) := by
  refine PC_of (cd := p_c_X4_keyIn) (L0 := [some (.ref 1), some (.int (nI k)), some (.int (nI j))]) rfl rfl ?_
  refine R_ld1 rfl ?_
  refine R_c0 rfl (m_isKey _) rfl rfl rfl ?_
  refine BB_eqF rfl (inR_N hk (by omega)) ?_
  refine R_la0 rfl ?_
  refine R_ld2 rfl ?_
  refine R_c1 rfl (m_isInput hrf hn h16 _) rfl rfl rfl sh_1 rfl rfl ?_
  refine BB_neT rfl (inR_N hj (by omega)) ?_
  refine R_la0 rfl ?_
  refine R_getR rfl sh_1 rfl (rf_1_0 hrf) ?_
  refine R_getR rfl sh_2 rfl (rf_2_0 hrf) ?_
  refine R_ld1 rfl ?_
  refine R_c1 rfl (m_placeOfKey hrf hn h16 _) rfl rfl rfl sh_3 rfl rfl ?_
  refine R_i rfl ?_
  refine B2_ne rfl (fun g15 => ?_) (fun g15 => ?_)
  · refine R_i rfl ?_
    exact R_iret rfl (rfl)
  · refine R_la0 rfl ?_
    refine R_getR rfl sh_1 rfl (rf_1_0 hrf) ?_
    refine R_getR rfl sh_2 rfl (rf_2_0 hrf) ?_
    refine R_getR rfl sh_3 rfl (rf_3_5 hrf) ?_
    refine R_ld2 rfl ?_
    refine R_ald rfl sh_4 (by first | decide | omega) (by omega) rfl ?_
    refine R_ld1 rfl ?_
    refine B2_eq rfl (fun g23 => ?_) (fun g23 => ?_)
    · rcases h with h | h
      · exact absurd g15 h
      · exact absurd g23 h
    · refine R_i rfl ?_
      exact R_iret rfl (rfl)

theorem c_keyIn_ok {n : Nat} (hrf : RFok rf) (hn : ρ 3 0 = nI n) (h16 : n ≤ 16) {j : Nat} (hj : j < n) {k : Nat} (hk : k < 6) (h1 : fI (ff (kA ρ (nI k)) n) = -1) (h2 : ρ 4 j = nI k) (hrem : PC 89 [.ref 1] (HP sl ρ rf) none (HP sl ρa rfa)) (hrfa : RFok rfa) (hna : ρa 3 0 = nI n) : PC 47 [.ref 1, .int (nI k), .int (nI j)] (HP sl ρ rf) (some (.int (nI (fb_ct (kL (u2 ρa 3 3 (wI (ρa 3 3) j true))) n)))) (HP sl (u2 ρa 3 3 (wI (ρa 3 3) j true)) rfa) := by
  refine PC_of (cd := p_c_X4_keyIn) (L0 := [some (.ref 1), some (.int (nI k)), some (.int (nI j))]) rfl rfl ?_
  refine R_ld1 rfl ?_
  refine R_c0 rfl (m_isKey _) rfl rfl rfl ?_
  refine BB_eqF rfl (inR_N hk (by omega)) ?_
  refine R_la0 rfl ?_
  refine R_ld2 rfl ?_
  refine R_c1 rfl (m_isInput hrf hn h16 _) rfl rfl rfl sh_1 rfl rfl ?_
  refine BB_neT rfl (inR_N hj (by omega)) ?_
  refine R_la0 rfl ?_
  refine R_getR rfl sh_1 rfl (rf_1_0 hrf) ?_
  refine R_getR rfl sh_2 rfl (rf_2_0 hrf) ?_
  refine R_ld1 rfl ?_
  refine R_c1 rfl (m_placeOfKey hrf hn h16 _) rfl rfl rfl sh_3 rfl rfl ?_
  refine R_i rfl ?_
  refine B2_neF rfl (h1) ?_
  refine R_la0 rfl ?_
  refine R_getR rfl sh_1 rfl (rf_1_0 hrf) ?_
  refine R_getR rfl sh_2 rfl (rf_2_0 hrf) ?_
  refine R_getR rfl sh_3 rfl (rf_3_5 hrf) ?_
  refine R_ld2 rfl ?_
  refine R_ald rfl sh_4 (by first | decide | omega) (by omega) rfl ?_
  refine R_ld1 rfl ?_
  refine B2_eqT rfl (h2) ?_
  refine R_la0 rfl ?_
  refine R_c1 rfl (hrem) rfl rfl rfl sh_1 rfl rfl ?_
  refine R_la0 rfl ?_
  refine R_getR rfl sh_1 rfl (rf_1_0 hrfa) ?_
  refine R_getR rfl sh_2 rfl (rf_2_0 hrfa) ?_
  refine R_la0 rfl ?_
  refine R_getR rfl sh_1 rfl (rf_1_0 hrfa) ?_
  refine R_getR rfl sh_2 rfl (rf_2_0 hrfa) ?_
  refine R_getI rfl sh_3 rfl rfl ?_
  refine R_ld2 rfl ?_
  refine R_n 1 rfl rfl ?_
  refine R_c0 rfl (m_with _ _ true) rfl rfl rfl ?_
  refine R_putI rfl sh_3 rfl ?_
  refine R_la0 rfl ?_
  refine R_getR rfl sh_1 rfl (rf_1_0 hrfa) ?_
  refine R_getR rfl sh_2 rfl (rf_2_0 hrfa) ?_
  refine R_c1 rfl (m_keysIn hrfa (show (u2 ρa 3 3 (wI (ρa 3 3) j true)) 3 0 = nI n from hna) h16) rfl rfl rfl sh_3 rfl rfl ?_
  exact R_iret rfl (rfl)

theorem c_keyOut_bad (x : Int32) (h : inR 6 x = false) : PC 48 [.ref 1, .int x] (HP sl ρ rf) (some (.int (-1))) (HP sl ρ rf) := by
  refine PC_of (cd := p_c_X4_keyOut) (L0 := [some (.ref 1), some (.int x), none, none]) rfl rfl ?_
  refine R_ld1 rfl ?_
  refine R_c0 rfl (m_isKey _) rfl rfl rfl ?_
  refine BB_ne rfl (fun g2 => ?_) (fun g2 => ?_)
  · revert h; simp_all
  · refine R_i rfl ?_
    exact R_iret rfl (rfl)

theorem c_keyOut_np1 {n : Nat} (hrf : RFok rf) (hn : ρ 3 0 = nI n) (h16 : n ≤ 16) {k : Nat} (hk : k < 6) (h : ff (kA ρ (nI k)) n = none) : PC 48 [.ref 1, .int (nI k)] (HP sl ρ rf) (some (.int (-2))) (HP sl ρ rf) := by
  refine PC_of (cd := p_c_X4_keyOut) (L0 := [some (.ref 1), some (.int (nI k)), none, none]) rfl rfl ?_
  refine R_ld1 rfl ?_
  refine R_c0 rfl (m_isKey _) rfl rfl rfl ?_
  refine BB_neT rfl (inR_N hk (by omega)) ?_
  refine R_la0 rfl ?_
  refine R_getR rfl sh_1 rfl (rf_1_0 hrf) ?_
  refine R_getR rfl sh_2 rfl (rf_2_0 hrf) ?_
  refine R_ld1 rfl ?_
  refine R_c1 rfl (m_placeOfKey hrf hn h16 _) rfl rfl rfl sh_3 rfl rfl ?_
  refine R_st2 rfl ?_
  refine R_ld2 rfl ?_
  refine R_i rfl ?_
  refine B2_eqT rfl (by rw [h]; rfl) ?_
  refine R_i rfl ?_
  exact R_iret rfl (rfl)

theorem c_keyOut_np2 {n : Nat} (hrf : RFok rf) (hn : ρ 3 0 = nI n) (h16 : n ≤ 16) {k : Nat} (hk : k < 6) {j : Nat} (hj : j < n) (h : ff (kA ρ (nI k)) n = some j) {g : Option Nat} (hg : ρ 5 j = fI g) (hg16 : ∀ a, g = some a → a < 16) {c : Nat → Bool} (hc : ρ 3 3 = M c) (hgo : (match g with | none => true | some a => cM ρ n c a) = false) : PC 48 [.ref 1, .int (nI k)] (HP sl ρ rf) (some (.int (-2))) (HP sl ρ rf) := by
  refine PC_of (cd := p_c_X4_keyOut) (L0 := [some (.ref 1), some (.int (nI k)), none, none]) rfl rfl ?_
  refine R_ld1 rfl ?_
  refine R_c0 rfl (m_isKey _) rfl rfl rfl ?_
  refine BB_neT rfl (inR_N hk (by omega)) ?_
  refine R_la0 rfl ?_
  refine R_getR rfl sh_1 rfl (rf_1_0 hrf) ?_
  refine R_getR rfl sh_2 rfl (rf_2_0 hrf) ?_
  refine R_ld1 rfl ?_
  refine R_c1 rfl (m_placeOfKey hrf hn h16 _) rfl rfl rfl sh_3 rfl rfl ?_
  rw [h]
  show PW _ _ _ (.int (nI j) :: _) _ _
  refine R_st2 rfl ?_
  refine R_ld2 rfl ?_
  refine R_i rfl ?_
  refine B2_eqF rfl (fun q => absurd (show nI j < 0 by rw [q]; decide) (nI_pos (by omega))) ?_
  refine R_la0 rfl ?_
  refine R_getR rfl sh_1 rfl (rf_1_0 hrf) ?_
  refine R_getR rfl sh_2 rfl (rf_2_0 hrf) ?_
  refine R_ld2 rfl ?_
  refine R_c1 rfl (m_guard hrf hn h16 hc (by omega) hg hg16) rfl rfl rfl sh_3 rfl rfl ?_
  refine BB_neF rfl (hgo) ?_
  refine R_i rfl ?_
  exact R_iret rfl (rfl)

theorem c_keyOut_ok {n : Nat} (hrf : RFok rf) (hn : ρ 3 0 = nI n) (h16 : n ≤ 16) {k : Nat} (hk : k < 6) {j : Nat} (hj : j < n) (h : ff (kA ρ (nI k)) n = some j) {g : Option Nat} (hg : ρ 5 j = fI g) (hg16 : ∀ a, g = some a → a < 16) {c0 : Nat → Bool} (hc : ρ 3 3 = M c0) (hgo : (match g with | none => true | some a => cM ρ n c0 a) = true) (hrem : PC 89 [.ref 1] (HP sl ρ rf) none (HP sl ρa rfa)) (hrfa : RFok rfa) {c c2 : Nat → Bool} {rc : Nat → Nat} (hna : ρa 3 0 = nI n) (hca : ρa 3 3 = M c) (hnb : (u2 ρa 3 3 (wI (ρa 3 3) j false)) 3 0 = nI n) (hcb : (u2 ρa 3 3 (wI (ρa 3 3) j false)) 3 3 = M c2) (hrb : ∀ m, m < 6 → (u2 ρa 3 3 (wI (ρa 3 3) j false)) 14 m = nI (rc m) ∧ rc m ≤ 4) : PC 48 [.ref 1, .int (nI k)] (HP sl ρ rf) (some (.int (nI (fb_ct (suN (u2 ρa 3 3 (wI (ρa 3 3) j false)) rc (M (cM ρa n c)) (M (cM (u2 ρa 3 3 (wI (ρa 3 3) j false)) n c2)) ((u2 ρa 3 3 (wI (ρa 3 3) j false)) 3 1)) 6)))) (HP sl (suA (u2 ρa 3 3 (wI (ρa 3 3) j false)) rc (M (cM ρa n c)) (M (cM (u2 ρa 3 3 (wI (ρa 3 3) j false)) n c2)) ((u2 ρa 3 3 (wI (ρa 3 3) j false)) 3 1) 6) rfa) := by
  refine PC_of (cd := p_c_X4_keyOut) (L0 := [some (.ref 1), some (.int (nI k)), none, none]) rfl rfl ?_
  refine R_ld1 rfl ?_
  refine R_c0 rfl (m_isKey _) rfl rfl rfl ?_
  refine BB_neT rfl (inR_N hk (by omega)) ?_
  refine R_la0 rfl ?_
  refine R_getR rfl sh_1 rfl (rf_1_0 hrf) ?_
  refine R_getR rfl sh_2 rfl (rf_2_0 hrf) ?_
  refine R_ld1 rfl ?_
  refine R_c1 rfl (m_placeOfKey hrf hn h16 _) rfl rfl rfl sh_3 rfl rfl ?_
  rw [h]
  show PW _ _ _ (.int (nI j) :: _) _ _
  refine R_st2 rfl ?_
  refine R_ld2 rfl ?_
  refine R_i rfl ?_
  refine B2_eqF rfl (fun q => absurd (show nI j < 0 by rw [q]; decide) (nI_pos (by omega))) ?_
  refine R_la0 rfl ?_
  refine R_getR rfl sh_1 rfl (rf_1_0 hrf) ?_
  refine R_getR rfl sh_2 rfl (rf_2_0 hrf) ?_
  refine R_ld2 rfl ?_
  refine R_c1 rfl (m_guard hrf hn h16 hc (by omega) hg hg16) rfl rfl rfl sh_3 rfl rfl ?_
  refine BB_neT rfl (hgo) ?_
  refine R_la0 rfl ?_
  refine R_c1 rfl (hrem) rfl rfl rfl sh_1 rfl rfl ?_
  refine R_la0 rfl ?_
  refine R_getR rfl sh_1 rfl (rf_1_0 hrfa) ?_
  refine R_getR rfl sh_2 rfl (rf_2_0 hrfa) ?_
  refine R_c1 rfl (m_counting hrfa hna h16 hca) rfl rfl rfl sh_3 rfl rfl ?_
  refine R_st3 rfl ?_
  refine R_la0 rfl ?_
  refine R_getR rfl sh_1 rfl (rf_1_0 hrfa) ?_
  refine R_getR rfl sh_2 rfl (rf_2_0 hrfa) ?_
  refine R_la0 rfl ?_
  refine R_getR rfl sh_1 rfl (rf_1_0 hrfa) ?_
  refine R_getR rfl sh_2 rfl (rf_2_0 hrfa) ?_
  refine R_getI rfl sh_3 rfl rfl ?_
  refine R_ld2 rfl ?_
  refine R_n 0 rfl rfl ?_
  refine R_c0 rfl (m_with _ _ false) rfl rfl rfl ?_
  refine R_putI rfl sh_3 rfl ?_
  refine R_la0 rfl ?_
  refine R_ld3 rfl ?_
  refine R_c1 rfl (m_look hrfa hnb h16 hcb hrb _) rfl rfl rfl sh_1 rfl rfl ?_
  exact R_iret rfl (rfl)

theorem c_key_bad (x : Int32) (h : inR 6 x = false) : PC 49 [.ref 1, .int x] (HP sl ρ rf) (some (.int (-1))) (HP sl ρ rf) := by
  refine PC_of (cd := p_c_X4_key) (L0 := [some (.ref 1), some (.int x)]) rfl rfl ?_
  refine R_ld1 rfl ?_
  refine R_c0 rfl (m_isKey _) rfl rfl rfl ?_
  refine BB_ne rfl (fun g2 => ?_) (fun g2 => ?_)
  · revert h; simp_all
  · refine R_i rfl ?_
    exact R_iret rfl (rfl)

theorem c_key_ok {n : Nat} (hrf : RFok rf) (hn : ρ 3 0 = nI n) (h16 : n ≤ 16) {k : Nat} (hk : k < 6) : PC 49 [.ref 1, .int (nI k)] (HP sl ρ rf) (some (.int (onf (fI (ff (kA ρ (nI k)) n))))) (HP sl ρ rf) := by
  refine PC_of (cd := p_c_X4_key) (L0 := [some (.ref 1), some (.int (nI k))]) rfl rfl ?_
  refine R_ld1 rfl ?_
  refine R_c0 rfl (m_isKey _) rfl rfl rfl ?_
  refine BB_neT rfl (inR_N hk (by omega)) ?_
  refine R_la0 rfl ?_
  refine R_getR rfl sh_1 rfl (rf_1_0 hrf) ?_
  refine R_getR rfl sh_2 rfl (rf_2_0 hrf) ?_
  refine R_ld1 rfl ?_
  refine R_c1 rfl (m_placeOfKey hrf hn h16 _) rfl rfl rfl sh_3 rfl rfl ?_
  refine R_c0 rfl (m_orNF _) rfl rfl rfl ?_
  exact R_iret rfl (rfl)

theorem c_bridge_bad {n : Nat} (hrf : RFok rf) (hn : ρ 3 0 = nI n) (h16 : n ≤ 16) (x y : Int32) (h : inR n x = false ∨ y < nI 1 ∨ nI 500 < y) : PC 50 [.ref 1, .int x, .int y] (HP sl ρ rf) (some (.int (-1))) (HP sl ρ rf) := by
  refine PC_of (cd := p_c_X4_bridge) (L0 := [some (.ref 1), some (.int x), some (.int y), none]) rfl rfl ?_
  refine R_la0 rfl ?_
  refine R_ld1 rfl ?_
  refine R_c1 rfl (m_isInput hrf hn h16 _) rfl rfl rfl sh_1 rfl rfl ?_
  refine BB_eq rfl (fun g3 => ?_) (fun g3 => ?_)
  · refine R_i rfl ?_
    exact R_iret rfl (rfl)
  · refine R_ld2 rfl ?_
    refine R_n 1 rfl rfl ?_
    refine B2_lt rfl (fun g6 => ?_) (fun g6 => ?_)
    · refine R_i rfl ?_
      exact R_iret rfl (rfl)
    · refine R_ld2 rfl ?_
      refine R_n 500 rfl rfl ?_
      refine B2_le rfl (fun g9 => ?_) (fun g9 => ?_)
      · rcases h with h | h | h
        · rw [h] at g3; cases g3
        · exact absurd h g6
        · exact absurd h (Int32.not_lt.mpr g9)
      · refine R_i rfl ?_
        exact R_iret rfl (rfl)

theorem c_bridge_np {n : Nat} (hrf : RFok rf) (hn : ρ 3 0 = nI n) (h16 : n ≤ 16) {j : Nat} (hj : j < n) (y : Int32) (h1 : ¬ y < nI 1) (h2 : y ≤ nI 500) (h : bt (ρ 3 4) j = true ∨ br ρ j = true) : PC 50 [.ref 1, .int (nI j), .int y] (HP sl ρ rf) (some (.int (-2))) (HP sl ρ rf) := by
  refine PC_of (cd := p_c_X4_bridge) (L0 := [some (.ref 1), some (.int (nI j)), some (.int y), none]) rfl rfl ?_
  refine R_la0 rfl ?_
  refine R_ld1 rfl ?_
  refine R_c1 rfl (m_isInput hrf hn h16 _) rfl rfl rfl sh_1 rfl rfl ?_
  refine BB_eqF rfl (inR_N hj (by omega)) ?_
  refine R_ld2 rfl ?_
  refine R_n 1 rfl rfl ?_
  refine B2_ltF rfl (h1) ?_
  refine R_ld2 rfl ?_
  refine R_n 500 rfl rfl ?_
  refine B2_leT rfl (h2) ?_
  refine R_la0 rfl ?_
  refine R_getR rfl sh_1 rfl (rf_1_0 hrf) ?_
  refine R_getR rfl sh_2 rfl (rf_2_0 hrf) ?_
  refine R_c1 rfl (m_bridgedOnes hrf hn h16) rfl rfl rfl sh_3 rfl rfl ?_
  refine R_st3 rfl ?_
  refine R_la0 rfl ?_
  refine R_getR rfl sh_1 rfl (rf_1_0 hrf) ?_
  refine R_getR rfl sh_2 rfl (rf_2_0 hrf) ?_
  refine R_getI rfl sh_3 rfl rfl ?_
  refine R_ld1 rfl ?_
  refine R_c0 rfl (m_has _ (by omega)) rfl rfl rfl ?_
  refine BB_ne rfl (fun g23 => ?_) (fun g23 => ?_)
  · refine R_i rfl ?_
    exact R_iret rfl (rfl)
  · refine R_ld3 rfl ?_
    refine R_ld1 rfl ?_
    refine R_c0 rfl (m_has _ (by omega)) rfl rfl rfl ?_
    refine BB_eq rfl (fun g27 => ?_) (fun g27 => ?_)
    · rcases h with h | h
      · rw [h] at g23; cases g23
      · rw [wA_bt h16 hj, h] at g27; cases g27
    · refine R_i rfl ?_
      exact R_iret rfl (rfl)

theorem c_bridge_full {n : Nat} (hrf : RFok rf) (hn : ρ 3 0 = nI n) (h16 : n ≤ 16) {j : Nat} (hj : j < n) (y : Int32) (h1 : ¬ y < nI 1) (h2 : y ≤ nI 500) (h3 : bt (ρ 3 4) j = false) (h4 : br ρ j = false) (h5 : nI 3 ≤ bcI (wA (br ρ) n)) : PC 50 [.ref 1, .int (nI j), .int y] (HP sl ρ rf) (some (.int (-3))) (HP sl ρ rf) := by
  refine PC_of (cd := p_c_X4_bridge) (L0 := [some (.ref 1), some (.int (nI j)), some (.int y), none]) rfl rfl ?_
  refine R_la0 rfl ?_
  refine R_ld1 rfl ?_
  refine R_c1 rfl (m_isInput hrf hn h16 _) rfl rfl rfl sh_1 rfl rfl ?_
  refine BB_eqF rfl (inR_N hj (by omega)) ?_
  refine R_ld2 rfl ?_
  refine R_n 1 rfl rfl ?_
  refine B2_ltF rfl (h1) ?_
  refine R_ld2 rfl ?_
  refine R_n 500 rfl rfl ?_
  refine B2_leT rfl (h2) ?_
  refine R_la0 rfl ?_
  refine R_getR rfl sh_1 rfl (rf_1_0 hrf) ?_
  refine R_getR rfl sh_2 rfl (rf_2_0 hrf) ?_
  refine R_c1 rfl (m_bridgedOnes hrf hn h16) rfl rfl rfl sh_3 rfl rfl ?_
  refine R_st3 rfl ?_
  refine R_la0 rfl ?_
  refine R_getR rfl sh_1 rfl (rf_1_0 hrf) ?_
  refine R_getR rfl sh_2 rfl (rf_2_0 hrf) ?_
  refine R_getI rfl sh_3 rfl rfl ?_
  refine R_ld1 rfl ?_
  refine R_c0 rfl (m_has _ (by omega)) rfl rfl rfl ?_
  refine BB_neF rfl (h3) ?_
  refine R_ld3 rfl ?_
  refine R_ld1 rfl ?_
  refine R_c0 rfl (m_has _ (by omega)) rfl rfl rfl ?_
  refine BB_eqT rfl ((wA_bt h16 hj).trans h4) ?_
  refine R_ld3 rfl ?_
  refine R_c0 rfl (m_bc _) rfl rfl rfl ?_
  refine R_n 3 rfl rfl ?_
  refine B2_ltF rfl (Int32.not_lt.mpr h5) ?_
  refine R_i rfl ?_
  exact R_iret rfl (rfl)

theorem c_bridge_ok {n : Nat} (hrf : RFok rf) (hn : ρ 3 0 = nI n) (h16 : n ≤ 16) {j : Nat} (hj : j < n) (y : Int32) (h1 : ¬ y < nI 1) (h2 : y ≤ nI 500) (h3 : bt (ρ 3 4) j = false) (h4 : br ρ j = false) (h5 : bcI (wA (br ρ) n) < nI 3) (hrem : PC 89 [.ref 1] (HP sl ρ rf) none (HP sl ρa rfa)) (hrfa : RFok rfa) (hna : ρa 3 0 = nI n) : PC 50 [.ref 1, .int (nI j), .int y] (HP sl ρ rf) (some (.int (bcI (wA (br (u2 ρa 8 j y)) n)))) (HP sl (u2 ρa 8 j y) rfa) := by
  refine PC_of (cd := p_c_X4_bridge) (L0 := [some (.ref 1), some (.int (nI j)), some (.int y), none]) rfl rfl ?_
  refine R_la0 rfl ?_
  refine R_ld1 rfl ?_
  refine R_c1 rfl (m_isInput hrf hn h16 _) rfl rfl rfl sh_1 rfl rfl ?_
  refine BB_eqF rfl (inR_N hj (by omega)) ?_
  refine R_ld2 rfl ?_
  refine R_n 1 rfl rfl ?_
  refine B2_ltF rfl (h1) ?_
  refine R_ld2 rfl ?_
  refine R_n 500 rfl rfl ?_
  refine B2_leT rfl (h2) ?_
  refine R_la0 rfl ?_
  refine R_getR rfl sh_1 rfl (rf_1_0 hrf) ?_
  refine R_getR rfl sh_2 rfl (rf_2_0 hrf) ?_
  refine R_c1 rfl (m_bridgedOnes hrf hn h16) rfl rfl rfl sh_3 rfl rfl ?_
  refine R_st3 rfl ?_
  refine R_la0 rfl ?_
  refine R_getR rfl sh_1 rfl (rf_1_0 hrf) ?_
  refine R_getR rfl sh_2 rfl (rf_2_0 hrf) ?_
  refine R_getI rfl sh_3 rfl rfl ?_
  refine R_ld1 rfl ?_
  refine R_c0 rfl (m_has _ (by omega)) rfl rfl rfl ?_
  refine BB_neF rfl (h3) ?_
  refine R_ld3 rfl ?_
  refine R_ld1 rfl ?_
  refine R_c0 rfl (m_has _ (by omega)) rfl rfl rfl ?_
  refine BB_eqT rfl ((wA_bt h16 hj).trans h4) ?_
  refine R_ld3 rfl ?_
  refine R_c0 rfl (m_bc _) rfl rfl rfl ?_
  refine R_n 3 rfl rfl ?_
  refine B2_ltT rfl (h5) ?_
  refine R_la0 rfl ?_
  refine R_c1 rfl (hrem) rfl rfl rfl sh_1 rfl rfl ?_
  refine R_la0 rfl ?_
  refine R_getR rfl sh_1 rfl (rf_1_0 hrfa) ?_
  refine R_getR rfl sh_2 rfl (rf_2_0 hrfa) ?_
  refine R_getR rfl sh_3 rfl (rf_3_9 hrfa) ?_
  refine R_ld1 rfl ?_
  refine R_ld2 rfl ?_
  refine R_ast rfl sh_8 (by decide) (by omega) ?_
  refine R_la0 rfl ?_
  refine R_getR rfl sh_1 rfl (rf_1_0 hrfa) ?_
  refine R_getR rfl sh_2 rfl (rf_2_0 hrfa) ?_
  refine R_c1 rfl (m_bridgedOnes hrfa (show (u2 ρa 8 j y) 3 0 = nI n from hna) h16) rfl rfl rfl sh_3 rfl rfl ?_
  refine R_c0 rfl (m_bc _) rfl rfl rfl ?_
  exact R_iret rfl (rfl)

theorem c_unbr_bad {n : Nat} (hrf : RFok rf) (hn : ρ 3 0 = nI n) (h16 : n ≤ 16) (x : Int32) (h : inR n x = false) : PC 51 [.ref 1, .int x] (HP sl ρ rf) (some (.int (-1))) (HP sl ρ rf) := by
  refine PC_of (cd := p_c_X4_unbridge) (L0 := [some (.ref 1), some (.int x), none]) rfl rfl ?_
  refine R_la0 rfl ?_
  refine R_ld1 rfl ?_
  refine R_c1 rfl (m_isInput hrf hn h16 _) rfl rfl rfl sh_1 rfl rfl ?_
  refine BB_ne rfl (fun g3 => ?_) (fun g3 => ?_)
  · revert h; simp_all
  · refine R_i rfl ?_
    exact R_iret rfl (rfl)

theorem c_unbr_np {n : Nat} (hrf : RFok rf) (hn : ρ 3 0 = nI n) (h16 : n ≤ 16) {j : Nat} (hj : j < n) (h : br ρ j = false) : PC 51 [.ref 1, .int (nI j)] (HP sl ρ rf) (some (.int (-2))) (HP sl ρ rf) := by
  refine PC_of (cd := p_c_X4_unbridge) (L0 := [some (.ref 1), some (.int (nI j)), none]) rfl rfl ?_
  refine R_la0 rfl ?_
  refine R_ld1 rfl ?_
  refine R_c1 rfl (m_isInput hrf hn h16 _) rfl rfl rfl sh_1 rfl rfl ?_
  refine BB_neT rfl (inR_N hj (by omega)) ?_
  refine R_la0 rfl ?_
  refine R_getR rfl sh_1 rfl (rf_1_0 hrf) ?_
  refine R_getR rfl sh_2 rfl (rf_2_0 hrf) ?_
  refine R_c1 rfl (m_bridgedOnes hrf hn h16) rfl rfl rfl sh_3 rfl rfl ?_
  refine R_ld1 rfl ?_
  refine R_c0 rfl (m_has _ (by omega)) rfl rfl rfl ?_
  refine BB_neF rfl ((wA_bt h16 hj).trans h) ?_
  refine R_i rfl ?_
  exact R_iret rfl (rfl)

theorem c_unbr_ok {n : Nat} (hrf : RFok rf) (hn : ρ 3 0 = nI n) (h16 : n ≤ 16) {j : Nat} (hj : j < n) (h : br ρ j = true) (hrem : PC 89 [.ref 1] (HP sl ρ rf) none (HP sl ρa rfa)) (hrfa : RFok rfa) {c c2 : Nat → Bool} {rc : Nat → Nat} (hna : ρa 3 0 = nI n) (hca : ρa 3 3 = M c) (hnb : (u2 ρa 8 j (nI 0)) 3 0 = nI n) (hcb : (u2 ρa 8 j (nI 0)) 3 3 = M c2) (hrb : ∀ m, m < 6 → (u2 ρa 8 j (nI 0)) 14 m = nI (rc m) ∧ rc m ≤ 4) : PC 51 [.ref 1, .int (nI j)] (HP sl ρ rf) (some (.int (nI (fb_ct (suN (u2 ρa 8 j (nI 0)) rc (M (cM ρa n c)) (M (cM (u2 ρa 8 j (nI 0)) n c2)) ((u2 ρa 8 j (nI 0)) 3 1)) 6)))) (HP sl (suA (u2 ρa 8 j (nI 0)) rc (M (cM ρa n c)) (M (cM (u2 ρa 8 j (nI 0)) n c2)) ((u2 ρa 8 j (nI 0)) 3 1) 6) rfa) := by
  refine PC_of (cd := p_c_X4_unbridge) (L0 := [some (.ref 1), some (.int (nI j)), none]) rfl rfl ?_
  refine R_la0 rfl ?_
  refine R_ld1 rfl ?_
  refine R_c1 rfl (m_isInput hrf hn h16 _) rfl rfl rfl sh_1 rfl rfl ?_
  refine BB_neT rfl (inR_N hj (by omega)) ?_
  refine R_la0 rfl ?_
  refine R_getR rfl sh_1 rfl (rf_1_0 hrf) ?_
  refine R_getR rfl sh_2 rfl (rf_2_0 hrf) ?_
  refine R_c1 rfl (m_bridgedOnes hrf hn h16) rfl rfl rfl sh_3 rfl rfl ?_
  refine R_ld1 rfl ?_
  refine R_c0 rfl (m_has _ (by omega)) rfl rfl rfl ?_
  refine BB_neT rfl ((wA_bt h16 hj).trans h) ?_
  refine R_la0 rfl ?_
  refine R_c1 rfl (hrem) rfl rfl rfl sh_1 rfl rfl ?_
  refine R_la0 rfl ?_
  refine R_getR rfl sh_1 rfl (rf_1_0 hrfa) ?_
  refine R_getR rfl sh_2 rfl (rf_2_0 hrfa) ?_
  refine R_c1 rfl (m_counting hrfa hna h16 hca) rfl rfl rfl sh_3 rfl rfl ?_
  refine R_st2 rfl ?_
  refine R_la0 rfl ?_
  refine R_getR rfl sh_1 rfl (rf_1_0 hrfa) ?_
  refine R_getR rfl sh_2 rfl (rf_2_0 hrfa) ?_
  refine R_getR rfl sh_3 rfl (rf_3_9 hrfa) ?_
  refine R_ld1 rfl ?_
  refine R_n 0 rfl rfl ?_
  refine R_ast rfl sh_8 (by decide) (by omega) ?_
  refine R_la0 rfl ?_
  refine R_ld2 rfl ?_
  refine R_c1 rfl (m_look hrfa hnb h16 hcb hrb _) rfl rfl rfl sh_1 rfl rfl ?_
  exact R_iret rfl (rfl)

theorem c_row_bad {n : Nat} (hrf : RFok rf) (hn : ρ 3 0 = nI n) (h16 : n ≤ 16) (x y : Int32) (h : inR 6 x = false ∨ y = 0 ∨ ¬ y &&& (M (fun i => decide (i < n)) ^^^ (-1)) = 0) : PC 53 [.ref 1, .int x, .int y] (HP sl ρ rf) (some (.int (-1))) (HP sl ρ rf) := by
  refine PC_of (cd := p_c_X4_row) (L0 := [some (.ref 1), some (.int x), some (.int y)]) rfl rfl ?_
  refine R_ld1 rfl ?_
  refine R_c0 rfl (m_isMotion _) rfl rfl rfl ?_
  refine BB_eq rfl (fun g2 => ?_) (fun g2 => ?_)
  · refine R_i rfl ?_
    exact R_iret rfl (rfl)
  · refine R_ld2 rfl ?_
    refine B1_eq rfl (fun g4 => ?_) (fun g4 => ?_)
    · refine R_i rfl ?_
      exact R_iret rfl (rfl)
    · refine R_ld2 rfl ?_
      refine R_la0 rfl ?_
      refine R_getR rfl sh_1 rfl (rf_1_0 hrf) ?_
      refine R_getR rfl sh_2 rfl (rf_2_0 hrf) ?_
      refine R_c1 rfl (m_all hrf hn h16) rfl rfl rfl sh_3 rfl rfl ?_
      refine R_i rfl ?_
      refine R_xor rfl ?_
      refine R_and rfl ?_
      refine B1_eq rfl (fun g13 => ?_) (fun g13 => ?_)
      · revert h; simp_all
      · refine R_i rfl ?_
        exact R_iret rfl (rfl)

theorem c_row_np {n : Nat} (hrf : RFok rf) (hn : ρ 3 0 = nI n) (h16 : n ≤ 16) {m : Nat} (hm : m < 6) (y : Int32) (h1 : ¬ y = 0) (h2 : y &&& (M (fun i => decide (i < n)) ^^^ (-1)) = 0) (h : bt (ρ 12 0) m = true) : PC 53 [.ref 1, .int (nI m), .int y] (HP sl ρ rf) (some (.int (-2))) (HP sl ρ rf) := by
  refine PC_of (cd := p_c_X4_row) (L0 := [some (.ref 1), some (.int (nI m)), some (.int y)]) rfl rfl ?_
  refine R_ld1 rfl ?_
  refine R_c0 rfl (m_isMotion _) rfl rfl rfl ?_
  refine BB_eqF rfl (inR_N hm (by omega)) ?_
  refine R_ld2 rfl ?_
  refine B1_eqF rfl (h1) ?_
  refine R_ld2 rfl ?_
  refine R_la0 rfl ?_
  refine R_getR rfl sh_1 rfl (rf_1_0 hrf) ?_
  refine R_getR rfl sh_2 rfl (rf_2_0 hrf) ?_
  refine R_c1 rfl (m_all hrf hn h16) rfl rfl rfl sh_3 rfl rfl ?_
  refine R_i rfl ?_
  refine R_xor rfl ?_
  refine R_and rfl ?_
  refine B1_eqT rfl (h2) ?_
  refine R_la0 rfl ?_
  refine R_getR rfl sh_1 rfl (rf_1_0 hrf) ?_
  refine R_getR rfl sh_2 rfl (rf_2_1 hrf) ?_
  refine R_getI rfl sh_12 rfl rfl ?_
  refine R_ld1 rfl ?_
  refine R_c0 rfl (m_has _ (by omega)) rfl rfl rfl ?_
  refine BB_eqF rfl (h) ?_
  refine R_i rfl ?_
  exact R_iret rfl (rfl)

theorem c_row_full {n : Nat} (hrf : RFok rf) (hn : ρ 3 0 = nI n) (h16 : n ≤ 16) {m : Nat} (hm : m < 6) (y : Int32) (h1 : ¬ y = 0) (h2 : y &&& (M (fun i => decide (i < n)) ^^^ (-1)) = 0) (h : bt (ρ 12 0) m = false) (hr : ρ 14 m = nI 4) : PC 53 [.ref 1, .int (nI m), .int y] (HP sl ρ rf) (some (.int (-3))) (HP sl ρ rf) := by
  refine PC_of (cd := p_c_X4_row) (L0 := [some (.ref 1), some (.int (nI m)), some (.int y)]) rfl rfl ?_
  refine R_ld1 rfl ?_
  refine R_c0 rfl (m_isMotion _) rfl rfl rfl ?_
  refine BB_eqF rfl (inR_N hm (by omega)) ?_
  refine R_ld2 rfl ?_
  refine B1_eqF rfl (h1) ?_
  refine R_ld2 rfl ?_
  refine R_la0 rfl ?_
  refine R_getR rfl sh_1 rfl (rf_1_0 hrf) ?_
  refine R_getR rfl sh_2 rfl (rf_2_0 hrf) ?_
  refine R_c1 rfl (m_all hrf hn h16) rfl rfl rfl sh_3 rfl rfl ?_
  refine R_i rfl ?_
  refine R_xor rfl ?_
  refine R_and rfl ?_
  refine B1_eqT rfl (h2) ?_
  refine R_la0 rfl ?_
  refine R_getR rfl sh_1 rfl (rf_1_0 hrf) ?_
  refine R_getR rfl sh_2 rfl (rf_2_1 hrf) ?_
  refine R_getI rfl sh_12 rfl rfl ?_
  refine R_ld1 rfl ?_
  refine R_c0 rfl (m_has _ (by omega)) rfl rfl rfl ?_
  refine BB_eqT rfl (h) ?_
  refine R_la0 rfl ?_
  refine R_getR rfl sh_1 rfl (rf_1_0 hrf) ?_
  refine R_getR rfl sh_2 rfl (rf_2_1 hrf) ?_
  refine R_getR rfl sh_12 rfl (rf_12_2 hrf) ?_
  refine R_ld1 rfl ?_
  refine R_ald rfl sh_14 (by first | decide | omega) (by omega) hr ?_
  refine R_n 4 rfl rfl ?_
  refine N2_ltF rfl (by omega) (by omega) (by omega) ?_
  refine R_i rfl ?_
  exact R_iret rfl (rfl)

theorem c_row_ok {n : Nat} (hrf : RFok rf) (hn : ρ 3 0 = nI n) (h16 : n ≤ 16) {m : Nat} (hm : m < 6) (y : Int32) (h1 : ¬ y = 0) (h2 : y &&& (M (fun i => decide (i < n)) ^^^ (-1)) = 0) (h : bt (ρ 12 0) m = false) {r : Nat} (hr : ρ 14 m = nI r) (hr4 : r < 4) (hrem : PC 89 [.ref 1] (HP sl ρ rf) none (HP sl ρa rfa)) (hrfa : RFok rfa) (hra : ρa 14 m = nI r) : PC 53 [.ref 1, .int (nI m), .int y] (HP sl ρ rf) (some (.int (nI (r + 1)))) (HP sl (arS ρa m r y) rfa) := by
  refine PC_of (cd := p_c_X4_row) (L0 := [some (.ref 1), some (.int (nI m)), some (.int y)]) rfl rfl ?_
  refine R_ld1 rfl ?_
  refine R_c0 rfl (m_isMotion _) rfl rfl rfl ?_
  refine BB_eqF rfl (inR_N hm (by omega)) ?_
  refine R_ld2 rfl ?_
  refine B1_eqF rfl (h1) ?_
  refine R_ld2 rfl ?_
  refine R_la0 rfl ?_
  refine R_getR rfl sh_1 rfl (rf_1_0 hrf) ?_
  refine R_getR rfl sh_2 rfl (rf_2_0 hrf) ?_
  refine R_c1 rfl (m_all hrf hn h16) rfl rfl rfl sh_3 rfl rfl ?_
  refine R_i rfl ?_
  refine R_xor rfl ?_
  refine R_and rfl ?_
  refine B1_eqT rfl (h2) ?_
  refine R_la0 rfl ?_
  refine R_getR rfl sh_1 rfl (rf_1_0 hrf) ?_
  refine R_getR rfl sh_2 rfl (rf_2_1 hrf) ?_
  refine R_getI rfl sh_12 rfl rfl ?_
  refine R_ld1 rfl ?_
  refine R_c0 rfl (m_has _ (by omega)) rfl rfl rfl ?_
  refine BB_eqT rfl (h) ?_
  refine R_la0 rfl ?_
  refine R_getR rfl sh_1 rfl (rf_1_0 hrf) ?_
  refine R_getR rfl sh_2 rfl (rf_2_1 hrf) ?_
  refine R_getR rfl sh_12 rfl (rf_12_2 hrf) ?_
  refine R_ld1 rfl ?_
  refine R_ald rfl sh_14 (by first | decide | omega) (by omega) hr ?_
  refine R_n 4 rfl rfl ?_
  refine N2_ltT rfl (by omega) (by omega) (by omega) ?_
  refine R_la0 rfl ?_
  refine R_c1 rfl (hrem) rfl rfl rfl sh_1 rfl rfl ?_
  refine R_la0 rfl ?_
  refine R_getR rfl sh_1 rfl (rf_1_0 hrfa) ?_
  refine R_getR rfl sh_2 rfl (rf_2_1 hrfa) ?_
  refine R_ld1 rfl ?_
  refine R_ld2 rfl ?_
  refine R_c1 rfl (m_addRow hrfa hm hra hr4 _) rfl rfl rfl sh_12 rfl rfl ?_
  exact R_iret rfl (rfl)

theorem c_drop_bad (x : Int32) (h : inR 6 x = false) : PC 54 [.ref 1, .int x] (HP sl ρ rf) (some (.int (-1))) (HP sl ρ rf) := by
  refine PC_of (cd := p_c_X4_dropRows) (L0 := [some (.ref 1), some (.int x), none]) rfl rfl ?_
  refine R_ld1 rfl ?_
  refine R_c0 rfl (m_isMotion _) rfl rfl rfl ?_
  refine BB_ne rfl (fun g2 => ?_) (fun g2 => ?_)
  · revert h; simp_all
  · refine R_i rfl ?_
    exact R_iret rfl (rfl)

theorem c_drop_np (hrf : RFok rf) {m : Nat} (hm : m < 6) (h : bt (ρ 12 0) m = true) : PC 54 [.ref 1, .int (nI m)] (HP sl ρ rf) (some (.int (-2))) (HP sl ρ rf) := by
  refine PC_of (cd := p_c_X4_dropRows) (L0 := [some (.ref 1), some (.int (nI m)), none]) rfl rfl ?_
  refine R_ld1 rfl ?_
  refine R_c0 rfl (m_isMotion _) rfl rfl rfl ?_
  refine BB_neT rfl (inR_N hm (by omega)) ?_
  refine R_la0 rfl ?_
  refine R_getR rfl sh_1 rfl (rf_1_0 hrf) ?_
  refine R_getR rfl sh_2 rfl (rf_2_1 hrf) ?_
  refine R_getI rfl sh_12 rfl rfl ?_
  refine R_ld1 rfl ?_
  refine R_c0 rfl (m_has _ (by omega)) rfl rfl rfl ?_
  refine BB_eqF rfl (h) ?_
  refine R_i rfl ?_
  exact R_iret rfl (rfl)

theorem c_drop_ok (hrf : RFok rf) {m : Nat} (hm : m < 6) (h : bt (ρ 12 0) m = false) (hrem : PC 89 [.ref 1] (HP sl ρ rf) none (HP sl ρa rfa)) (hrfa : RFok rfa) : PC 54 [.ref 1, .int (nI m)] (HP sl ρ rf) (some (.int (ρa 14 m))) (HP sl (u2 ρa 14 m (nI 0)) rfa) := by
  refine PC_of (cd := p_c_X4_dropRows) (L0 := [some (.ref 1), some (.int (nI m)), none]) rfl rfl ?_
  refine R_ld1 rfl ?_
  refine R_c0 rfl (m_isMotion _) rfl rfl rfl ?_
  refine BB_neT rfl (inR_N hm (by omega)) ?_
  refine R_la0 rfl ?_
  refine R_getR rfl sh_1 rfl (rf_1_0 hrf) ?_
  refine R_getR rfl sh_2 rfl (rf_2_1 hrf) ?_
  refine R_getI rfl sh_12 rfl rfl ?_
  refine R_ld1 rfl ?_
  refine R_c0 rfl (m_has _ (by omega)) rfl rfl rfl ?_
  refine BB_eqT rfl (h) ?_
  refine R_la0 rfl ?_
  refine R_c1 rfl (hrem) rfl rfl rfl sh_1 rfl rfl ?_
  refine R_la0 rfl ?_
  refine R_getR rfl sh_1 rfl (rf_1_0 hrfa) ?_
  refine R_getR rfl sh_2 rfl (rf_2_1 hrfa) ?_
  refine R_getR rfl sh_12 rfl (rf_12_2 hrfa) ?_
  refine R_ld1 rfl ?_
  refine R_ald rfl sh_14 (by first | decide | omega) (by omega) rfl ?_
  refine R_st2 rfl ?_
  refine R_la0 rfl ?_
  refine R_getR rfl sh_1 rfl (rf_1_0 hrfa) ?_
  refine R_getR rfl sh_2 rfl (rf_2_1 hrfa) ?_
  refine R_getR rfl sh_12 rfl (rf_12_2 hrfa) ?_
  refine R_ld1 rfl ?_
  refine R_n 0 rfl rfl ?_
  refine R_ast rfl sh_14 (by decide) (by omega) ?_
  refine R_ld2 rfl ?_
  exact R_iret rfl (rfl)

theorem c_excl_bad (hrf : RFok rf) (x y z : Int32) (h : inR 6 x = false ∨ inR 6 y = false ∨ x = y ∨ inR 2 z = false) : PC 55 [.ref 1, .int x, .int y, .int z] (HP sl ρ rf) (some (.int (-1))) (HP sl ρ rf) := by
  refine PC_of (cd := p_c_X4_exclude) (L0 := [some (.ref 1), some (.int x), some (.int y), some (.int z), none, none]) rfl rfl ?_
  refine R_ld1 rfl ?_
  refine R_c0 rfl (m_isMotion _) rfl rfl rfl ?_
  refine BB_eq rfl (fun g2 => ?_) (fun g2 => ?_)
  · refine R_i rfl ?_
    exact R_iret rfl (rfl)
  · refine R_ld2 rfl ?_
    refine R_c0 rfl (m_isMotion _) rfl rfl rfl ?_
    refine BB_eq rfl (fun g5 => ?_) (fun g5 => ?_)
    · refine R_i rfl ?_
      exact R_iret rfl (rfl)
    · refine R_ld1 rfl ?_
      refine R_ld2 rfl ?_
      refine B2_eq rfl (fun g8 => ?_) (fun g8 => ?_)
      · refine R_i rfl ?_
        exact R_iret rfl (rfl)
      · refine R_ld3 rfl ?_
        refine R_c0 rfl (m_isYes _) rfl rfl rfl ?_
        refine BB_ne rfl (fun g11 => ?_) (fun g11 => ?_)
        · revert h; simp_all
        · refine R_i rfl ?_
          exact R_iret rfl (rfl)

theorem c_excl_np (hrf : RFok rf) {a b : Nat} (ha : a < 6) (hb : b < 6) (hab : ¬ a = b) (h1 : bt (ρ 12 0) a = true) (h2 : bt (ρ 12 0) b = true) : PC 55 [.ref 1, .int (nI a), .int (nI b), .int (nI 1)] (HP sl ρ rf) (some (.int (-2))) (HP sl ρ rf) := by
  refine PC_of (cd := p_c_X4_exclude) (L0 := [some (.ref 1), some (.int (nI a)), some (.int (nI b)), some (.int (nI 1)), none, none]) rfl rfl ?_
  refine R_ld1 rfl ?_
  refine R_c0 rfl (m_isMotion _) rfl rfl rfl ?_
  refine BB_eqF rfl (inR_N ha (by omega)) ?_
  refine R_ld2 rfl ?_
  refine R_c0 rfl (m_isMotion _) rfl rfl rfl ?_
  refine BB_eqF rfl (inR_N hb (by omega)) ?_
  refine R_ld1 rfl ?_
  refine R_ld2 rfl ?_
  refine N2_eqF rfl (by omega) (by omega) (hab) ?_
  refine R_ld3 rfl ?_
  refine R_c0 rfl (m_isYes _) rfl rfl rfl ?_
  refine BB_neT rfl (rfl) ?_
  refine R_la0 rfl ?_
  refine R_getR rfl sh_1 rfl (rf_1_0 hrf) ?_
  refine R_getR rfl sh_2 rfl (rf_2_1 hrf) ?_
  refine R_sa4 rfl ?_
  refine R_ld3 rfl ?_
  refine R_n 1 rfl rfl ?_
  refine N2_neF rfl (by omega) (by omega) (by omega) ?_
  refine R_la4 rfl ?_
  refine R_getI rfl sh_12 rfl rfl ?_
  refine R_ld1 rfl ?_
  refine R_c0 rfl (m_has _ (by omega)) rfl rfl rfl ?_
  refine BB_eqF rfl (h1) ?_
  refine R_la4 rfl ?_
  refine R_getI rfl sh_12 rfl rfl ?_
  refine R_ld2 rfl ?_
  refine R_c0 rfl (m_has _ (by omega)) rfl rfl rfl ?_
  refine BB_eqF rfl (h2) ?_
  refine R_i rfl ?_
  exact R_iret rfl (rfl)

theorem c_excl_ok1a (hrf : RFok rf) {a b : Nat} (ha : a < 6) (hb : b < 6) (hab : ¬ a = b) (h1 : bt (ρ 12 0) a = false) (hrem : PC 89 [.ref 1] (HP sl ρ rf) none (HP sl ρa rfa)) (hrfa : RFok rfa) : PC 55 [.ref 1, .int (nI a), .int (nI b), .int (nI 1)] (HP sl ρ rf) (some (.int (bI (bt (ρa 15 a) b)))) (HP sl (u2 (u2 ρa 15 a (wI (ρa 15 a) b true)) 15 b (wI ((u2 ρa 15 a (wI (ρa 15 a) b true)) 15 b) a true)) rfa) := by
  refine PC_of (cd := p_c_X4_exclude) (L0 := [some (.ref 1), some (.int (nI a)), some (.int (nI b)), some (.int (nI 1)), none, none]) rfl rfl ?_
  refine R_ld1 rfl ?_
  refine R_c0 rfl (m_isMotion _) rfl rfl rfl ?_
  refine BB_eqF rfl (inR_N ha (by omega)) ?_
  refine R_ld2 rfl ?_
  refine R_c0 rfl (m_isMotion _) rfl rfl rfl ?_
  refine BB_eqF rfl (inR_N hb (by omega)) ?_
  refine R_ld1 rfl ?_
  refine R_ld2 rfl ?_
  refine N2_eqF rfl (by omega) (by omega) (hab) ?_
  refine R_ld3 rfl ?_
  refine R_c0 rfl (m_isYes _) rfl rfl rfl ?_
  refine BB_neT rfl (rfl) ?_
  refine R_la0 rfl ?_
  refine R_getR rfl sh_1 rfl (rf_1_0 hrf) ?_
  refine R_getR rfl sh_2 rfl (rf_2_1 hrf) ?_
  refine R_sa4 rfl ?_
  refine R_ld3 rfl ?_
  refine R_n 1 rfl rfl ?_
  refine N2_neF rfl (by omega) (by omega) (by omega) ?_
  refine R_la4 rfl ?_
  refine R_getI rfl sh_12 rfl rfl ?_
  refine R_ld1 rfl ?_
  refine R_c0 rfl (m_has _ (by omega)) rfl rfl rfl ?_
  refine BB_eqT rfl (h1) ?_
  refine R_la0 rfl ?_
  refine R_c1 rfl (hrem) rfl rfl rfl sh_1 rfl rfl ?_
  refine R_la4 rfl ?_
  refine R_getR rfl sh_12 rfl (rf_12_3 hrfa) ?_
  refine R_ld1 rfl ?_
  refine R_ald rfl sh_15 (by first | decide | omega) (by omega) rfl ?_
  refine R_ld2 rfl ?_
  refine R_c0 rfl (m_bitOf _ (by omega)) rfl rfl rfl ?_
  refine R_st5 rfl ?_
  refine R_la4 rfl ?_
  refine R_getR rfl sh_12 rfl (rf_12_3 hrfa) ?_
  refine R_ld1 rfl ?_
  refine R_la4 rfl ?_
  refine R_getR rfl sh_12 rfl (rf_12_3 hrfa) ?_
  refine R_ld1 rfl ?_
  refine R_ald rfl sh_15 (by first | decide | omega) (by omega) rfl ?_
  refine R_ld2 rfl ?_
  refine R_ld3 rfl ?_
  refine R_n 1 rfl rfl ?_
  refine N2_neF rfl (by omega) (by omega) (by omega) ?_
  refine R_n 1 rfl rfl ?_
  refine R_goto rfl ?_
  refine R_c0 rfl (m_with _ _ true) rfl rfl rfl ?_
  refine R_ast rfl sh_15 (by decide) (by omega) ?_
  refine R_la4 rfl ?_
  refine R_getR rfl sh_12 rfl (rf_12_3 hrfa) ?_
  refine R_ld2 rfl ?_
  refine R_la4 rfl ?_
  refine R_getR rfl sh_12 rfl (rf_12_3 hrfa) ?_
  refine R_ld2 rfl ?_
  refine R_ald rfl sh_15 (by first | decide | omega) (by omega) rfl ?_
  refine R_ld1 rfl ?_
  refine R_ld3 rfl ?_
  refine R_n 1 rfl rfl ?_
  refine N2_neF rfl (by omega) (by omega) (by omega) ?_
  refine R_n 1 rfl rfl ?_
  refine R_goto rfl ?_
  refine R_c0 rfl (m_with _ _ true) rfl rfl rfl ?_
  refine R_ast rfl sh_15 (by decide) (by omega) ?_
  refine R_ld5 rfl ?_
  exact R_iret rfl (rfl)

theorem c_excl_ok1b (hrf : RFok rf) {a b : Nat} (ha : a < 6) (hb : b < 6) (hab : ¬ a = b) (h1 : bt (ρ 12 0) a = true) (h2 : bt (ρ 12 0) b = false) (hrem : PC 89 [.ref 1] (HP sl ρ rf) none (HP sl ρa rfa)) (hrfa : RFok rfa) : PC 55 [.ref 1, .int (nI a), .int (nI b), .int (nI 1)] (HP sl ρ rf) (some (.int (bI (bt (ρa 15 a) b)))) (HP sl (u2 (u2 ρa 15 a (wI (ρa 15 a) b true)) 15 b (wI ((u2 ρa 15 a (wI (ρa 15 a) b true)) 15 b) a true)) rfa) := by
  refine PC_of (cd := p_c_X4_exclude) (L0 := [some (.ref 1), some (.int (nI a)), some (.int (nI b)), some (.int (nI 1)), none, none]) rfl rfl ?_
  refine R_ld1 rfl ?_
  refine R_c0 rfl (m_isMotion _) rfl rfl rfl ?_
  refine BB_eqF rfl (inR_N ha (by omega)) ?_
  refine R_ld2 rfl ?_
  refine R_c0 rfl (m_isMotion _) rfl rfl rfl ?_
  refine BB_eqF rfl (inR_N hb (by omega)) ?_
  refine R_ld1 rfl ?_
  refine R_ld2 rfl ?_
  refine N2_eqF rfl (by omega) (by omega) (hab) ?_
  refine R_ld3 rfl ?_
  refine R_c0 rfl (m_isYes _) rfl rfl rfl ?_
  refine BB_neT rfl (rfl) ?_
  refine R_la0 rfl ?_
  refine R_getR rfl sh_1 rfl (rf_1_0 hrf) ?_
  refine R_getR rfl sh_2 rfl (rf_2_1 hrf) ?_
  refine R_sa4 rfl ?_
  refine R_ld3 rfl ?_
  refine R_n 1 rfl rfl ?_
  refine N2_neF rfl (by omega) (by omega) (by omega) ?_
  refine R_la4 rfl ?_
  refine R_getI rfl sh_12 rfl rfl ?_
  refine R_ld1 rfl ?_
  refine R_c0 rfl (m_has _ (by omega)) rfl rfl rfl ?_
  refine BB_eqF rfl (h1) ?_
  refine R_la4 rfl ?_
  refine R_getI rfl sh_12 rfl rfl ?_
  refine R_ld2 rfl ?_
  refine R_c0 rfl (m_has _ (by omega)) rfl rfl rfl ?_
  refine BB_eqT rfl (h2) ?_
  refine R_la0 rfl ?_
  refine R_c1 rfl (hrem) rfl rfl rfl sh_1 rfl rfl ?_
  refine R_la4 rfl ?_
  refine R_getR rfl sh_12 rfl (rf_12_3 hrfa) ?_
  refine R_ld1 rfl ?_
  refine R_ald rfl sh_15 (by first | decide | omega) (by omega) rfl ?_
  refine R_ld2 rfl ?_
  refine R_c0 rfl (m_bitOf _ (by omega)) rfl rfl rfl ?_
  refine R_st5 rfl ?_
  refine R_la4 rfl ?_
  refine R_getR rfl sh_12 rfl (rf_12_3 hrfa) ?_
  refine R_ld1 rfl ?_
  refine R_la4 rfl ?_
  refine R_getR rfl sh_12 rfl (rf_12_3 hrfa) ?_
  refine R_ld1 rfl ?_
  refine R_ald rfl sh_15 (by first | decide | omega) (by omega) rfl ?_
  refine R_ld2 rfl ?_
  refine R_ld3 rfl ?_
  refine R_n 1 rfl rfl ?_
  refine N2_neF rfl (by omega) (by omega) (by omega) ?_
  refine R_n 1 rfl rfl ?_
  refine R_goto rfl ?_
  refine R_c0 rfl (m_with _ _ true) rfl rfl rfl ?_
  refine R_ast rfl sh_15 (by decide) (by omega) ?_
  refine R_la4 rfl ?_
  refine R_getR rfl sh_12 rfl (rf_12_3 hrfa) ?_
  refine R_ld2 rfl ?_
  refine R_la4 rfl ?_
  refine R_getR rfl sh_12 rfl (rf_12_3 hrfa) ?_
  refine R_ld2 rfl ?_
  refine R_ald rfl sh_15 (by first | decide | omega) (by omega) rfl ?_
  refine R_ld1 rfl ?_
  refine R_ld3 rfl ?_
  refine R_n 1 rfl rfl ?_
  refine N2_neF rfl (by omega) (by omega) (by omega) ?_
  refine R_n 1 rfl rfl ?_
  refine R_goto rfl ?_
  refine R_c0 rfl (m_with _ _ true) rfl rfl rfl ?_
  refine R_ast rfl sh_15 (by decide) (by omega) ?_
  refine R_ld5 rfl ?_
  exact R_iret rfl (rfl)

theorem c_excl_ok0 (hrf : RFok rf) {a b : Nat} (ha : a < 6) (hb : b < 6) (hab : ¬ a = b) (hrem : PC 89 [.ref 1] (HP sl ρ rf) none (HP sl ρa rfa)) (hrfa : RFok rfa) : PC 55 [.ref 1, .int (nI a), .int (nI b), .int (nI 0)] (HP sl ρ rf) (some (.int (bI (bt (ρa 15 a) b)))) (HP sl (u2 (u2 ρa 15 a (wI (ρa 15 a) b false)) 15 b (wI ((u2 ρa 15 a (wI (ρa 15 a) b false)) 15 b) a false)) rfa) := by
  refine PC_of (cd := p_c_X4_exclude) (L0 := [some (.ref 1), some (.int (nI a)), some (.int (nI b)), some (.int (nI 0)), none, none]) rfl rfl ?_
  refine R_ld1 rfl ?_
  refine R_c0 rfl (m_isMotion _) rfl rfl rfl ?_
  refine BB_eqF rfl (inR_N ha (by omega)) ?_
  refine R_ld2 rfl ?_
  refine R_c0 rfl (m_isMotion _) rfl rfl rfl ?_
  refine BB_eqF rfl (inR_N hb (by omega)) ?_
  refine R_ld1 rfl ?_
  refine R_ld2 rfl ?_
  refine N2_eqF rfl (by omega) (by omega) (hab) ?_
  refine R_ld3 rfl ?_
  refine R_c0 rfl (m_isYes _) rfl rfl rfl ?_
  refine BB_neT rfl (rfl) ?_
  refine R_la0 rfl ?_
  refine R_getR rfl sh_1 rfl (rf_1_0 hrf) ?_
  refine R_getR rfl sh_2 rfl (rf_2_1 hrf) ?_
  refine R_sa4 rfl ?_
  refine R_ld3 rfl ?_
  refine R_n 1 rfl rfl ?_
  refine N2_neT rfl (by omega) (by omega) (by omega) ?_
  refine R_la0 rfl ?_
  refine R_c1 rfl (hrem) rfl rfl rfl sh_1 rfl rfl ?_
  refine R_la4 rfl ?_
  refine R_getR rfl sh_12 rfl (rf_12_3 hrfa) ?_
  refine R_ld1 rfl ?_
  refine R_ald rfl sh_15 (by first | decide | omega) (by omega) rfl ?_
  refine R_ld2 rfl ?_
  refine R_c0 rfl (m_bitOf _ (by omega)) rfl rfl rfl ?_
  refine R_st5 rfl ?_
  refine R_la4 rfl ?_
  refine R_getR rfl sh_12 rfl (rf_12_3 hrfa) ?_
  refine R_ld1 rfl ?_
  refine R_la4 rfl ?_
  refine R_getR rfl sh_12 rfl (rf_12_3 hrfa) ?_
  refine R_ld1 rfl ?_
  refine R_ald rfl sh_15 (by first | decide | omega) (by omega) rfl ?_
  refine R_ld2 rfl ?_
  refine R_ld3 rfl ?_
  refine R_n 1 rfl rfl ?_
  refine N2_neT rfl (by omega) (by omega) (by omega) ?_
  refine R_n 0 rfl rfl ?_
  refine R_c0 rfl (m_with _ _ false) rfl rfl rfl ?_
  refine R_ast rfl sh_15 (by decide) (by omega) ?_
  refine R_la4 rfl ?_
  refine R_getR rfl sh_12 rfl (rf_12_3 hrfa) ?_
  refine R_ld2 rfl ?_
  refine R_la4 rfl ?_
  refine R_getR rfl sh_12 rfl (rf_12_3 hrfa) ?_
  refine R_ld2 rfl ?_
  refine R_ald rfl sh_15 (by first | decide | omega) (by omega) rfl ?_
  refine R_ld1 rfl ?_
  refine R_ld3 rfl ?_
  refine R_n 1 rfl rfl ?_
  refine N2_neT rfl (by omega) (by omega) (by omega) ?_
  refine R_n 0 rfl rfl ?_
  refine R_c0 rfl (m_with _ _ false) rfl rfl rfl ?_
  refine R_ast rfl sh_15 (by decide) (by omega) ?_
  refine R_ld5 rfl ?_
  exact R_iret rfl (rfl)

theorem c_start_bad (x : Int32) (h : inR 6 x = false) : PC 56 [.ref 1, .int x] (HP sl ρ rf) (some (.int (-1))) (HP sl ρ rf) := by
  refine PC_of (cd := p_c_X4_start) (L0 := [some (.ref 1), some (.int x)]) rfl rfl ?_
  refine R_ld1 rfl ?_
  refine R_c0 rfl (m_isMotion _) rfl rfl rfl ?_
  refine BB_ne rfl (fun g2 => ?_) (fun g2 => ?_)
  · revert h; simp_all
  · refine R_i rfl ?_
    exact R_iret rfl (rfl)

theorem c_why_bad (x : Int32) (h : inR 6 x = false) : PC 57 [.ref 1, .int x] (HP sl ρ rf) (some (.int (-1))) (HP sl ρ rf) := by
  refine PC_of (cd := p_c_X4_why) (L0 := [some (.ref 1), some (.int x)]) rfl rfl ?_
  refine R_ld1 rfl ?_
  refine R_c0 rfl (m_isMotion _) rfl rfl rfl ?_
  refine BB_ne rfl (fun g2 => ?_) (fun g2 => ?_)
  · revert h; simp_all
  · refine R_i rfl ?_
    exact R_iret rfl (rfl)

theorem c_stop_bad (x : Int32) (h : inR 6 x = false) : PC 58 [.ref 1, .int x] (HP sl ρ rf) (some (.int (-1))) (HP sl ρ rf) := by
  refine PC_of (cd := p_c_X4_stop) (L0 := [some (.ref 1), some (.int x)]) rfl rfl ?_
  refine R_ld1 rfl ?_
  refine R_c0 rfl (m_isMotion _) rfl rfl rfl ?_
  refine BB_ne rfl (fun g2 => ?_) (fun g2 => ?_)
  · revert h; simp_all
  · refine R_i rfl ?_
    exact R_iret rfl (rfl)

theorem c_reset_bad (x : Int32) (h : inR 6 x = false) : PC 59 [.ref 1, .int x] (HP sl ρ rf) (some (.int (-1))) (HP sl ρ rf) := by
  refine PC_of (cd := p_c_X4_reset) (L0 := [some (.ref 1), some (.int x), none]) rfl rfl ?_
  refine R_ld1 rfl ?_
  refine R_c0 rfl (m_isMotion _) rfl rfl rfl ?_
  refine BB_ne rfl (fun g2 => ?_) (fun g2 => ?_)
  · revert h; simp_all
  · refine R_i rfl ?_
    exact R_iret rfl (rfl)

theorem rsn_le (a : Bool) (f : Int32) (p : Bool) (x : Int32) : rsn a f p x ≤ 4 := by
  unfold rsn
  repeat' split
  all_goals decide
theorem c_start_np {n : Nat} {c : Nat → Bool} (hrf : RFok rf) (hn : ρ 3 0 = nI n) (h16 : n ≤ 16) (hc : ρ 3 3 = M c) {m r : Nat} (hm : m < 6) (hr : ρ 14 m = nI r) (hr4 : r ≤ 4) (h : ¬ rsn (bt (ρ 12 0) m) (ρ 16 m) (pmI (rw0 ρ m) r (M (cM ρ n c))) (ρ 12 0 &&& ρ 15 m) = 0) : PC 56 [.ref 1, .int (nI m)] (HP sl ρ rf) (some (.int (-2))) (HP sl ρ rf) := by
  refine PC_of (cd := p_c_X4_start) (L0 := [some (.ref 1), some (.int (nI m))]) rfl rfl ?_
  refine R_ld1 rfl ?_
  refine R_c0 rfl (m_isMotion _) rfl rfl rfl ?_
  refine BB_neT rfl (inR_N hm (by omega)) ?_
  refine R_la0 rfl ?_
  refine R_ld1 rfl ?_
  refine R_c1 rfl (m_reason hrf hn h16 hc hm hr hr4) rfl rfl rfl sh_1 rfl rfl ?_
  refine B1_eqF rfl (nI_ne0 (by omega) (by have := rsn_le (bt (ρ 12 0) m) (ρ 16 m) (pmI (rw0 ρ m) r (M (cM ρ n c))) (ρ 12 0 &&& ρ 15 m); omega)) ?_
  refine R_i rfl ?_
  exact R_iret rfl (rfl)

theorem c_start_ok {n : Nat} {c : Nat → Bool} (hrf : RFok rf) (hn : ρ 3 0 = nI n) (h16 : n ≤ 16) (hc : ρ 3 3 = M c) {m r : Nat} (hm : m < 6) (hr : ρ 14 m = nI r) (hr4 : r ≤ 4) (h : rsn (bt (ρ 12 0) m) (ρ 16 m) (pmI (rw0 ρ m) r (M (cM ρ n c))) (ρ 12 0 &&& ρ 15 m) = 0) (hrem : PC 89 [.ref 1] (HP sl ρ rf) none (HP sl ρa rfa)) (hrfa : RFok rfa) : PC 56 [.ref 1, .int (nI m)] (HP sl ρ rf) (some (.int (bcI (begS ρa m 12 0)))) (HP sl (begS ρa m) rfa) := by
  refine PC_of (cd := p_c_X4_start) (L0 := [some (.ref 1), some (.int (nI m))]) rfl rfl ?_
  refine R_ld1 rfl ?_
  refine R_c0 rfl (m_isMotion _) rfl rfl rfl ?_
  refine BB_neT rfl (inR_N hm (by omega)) ?_
  refine R_la0 rfl ?_
  refine R_ld1 rfl ?_
  refine R_c1 rfl (m_reason hrf hn h16 hc hm hr hr4) rfl rfl rfl sh_1 rfl rfl ?_
  refine B1_eqT rfl (by rw [h]; rfl) ?_
  refine R_la0 rfl ?_
  refine R_c1 rfl (hrem) rfl rfl rfl sh_1 rfl rfl ?_
  refine R_la0 rfl ?_
  refine R_getR rfl sh_1 rfl (rf_1_0 hrfa) ?_
  refine R_getR rfl sh_2 rfl (rf_2_1 hrfa) ?_
  refine R_ld1 rfl ?_
  refine R_c1 rfl (m_begin hrfa hm) rfl rfl rfl sh_12 rfl rfl ?_
  refine R_la0 rfl ?_
  refine R_getR rfl sh_1 rfl (rf_1_0 hrfa) ?_
  refine R_getR rfl sh_2 rfl (rf_2_1 hrfa) ?_
  refine R_getI rfl sh_12 rfl rfl ?_
  refine R_c0 rfl (m_bc _) rfl rfl rfl ?_
  exact R_iret rfl (rfl)

theorem c_why_ok {n : Nat} {c : Nat → Bool} (hrf : RFok rf) (hn : ρ 3 0 = nI n) (h16 : n ≤ 16) (hc : ρ 3 3 = M c) {m r : Nat} (hm : m < 6) (hr : ρ 14 m = nI r) (hr4 : r ≤ 4) : PC 57 [.ref 1, .int (nI m)] (HP sl ρ rf) (some (.int (nI (rsn (bt (ρ 12 0) m) (ρ 16 m) (pmI (rw0 ρ m) r (M (cM ρ n c))) (ρ 12 0 &&& ρ 15 m))))) (HP sl ρ rf) := by
  refine PC_of (cd := p_c_X4_why) (L0 := [some (.ref 1), some (.int (nI m))]) rfl rfl ?_
  refine R_ld1 rfl ?_
  refine R_c0 rfl (m_isMotion _) rfl rfl rfl ?_
  refine BB_neT rfl (inR_N hm (by omega)) ?_
  refine R_la0 rfl ?_
  refine R_ld1 rfl ?_
  refine R_c1 rfl (m_reason hrf hn h16 hc hm hr hr4) rfl rfl rfl sh_1 rfl rfl ?_
  exact R_iret rfl (rfl)

theorem c_stop_np (hrf : RFok rf) {m : Nat} (hm : m < 6) (h : bt (ρ 12 0) m = false) : PC 58 [.ref 1, .int (nI m)] (HP sl ρ rf) (some (.int (-2))) (HP sl ρ rf) := by
  refine PC_of (cd := p_c_X4_stop) (L0 := [some (.ref 1), some (.int (nI m))]) rfl rfl ?_
  refine R_ld1 rfl ?_
  refine R_c0 rfl (m_isMotion _) rfl rfl rfl ?_
  refine BB_neT rfl (inR_N hm (by omega)) ?_
  refine R_la0 rfl ?_
  refine R_getR rfl sh_1 rfl (rf_1_0 hrf) ?_
  refine R_getR rfl sh_2 rfl (rf_2_1 hrf) ?_
  refine R_getI rfl sh_12 rfl rfl ?_
  refine R_ld1 rfl ?_
  refine R_c0 rfl (m_has _ (by omega)) rfl rfl rfl ?_
  refine BB_neF rfl (h) ?_
  refine R_i rfl ?_
  exact R_iret rfl (rfl)

theorem c_stop_ok (hrf : RFok rf) {m : Nat} (hm : m < 6) (h : bt (ρ 12 0) m = true) (hrem : PC 89 [.ref 1] (HP sl ρ rf) none (HP sl ρa rfa)) (hrfa : RFok rfa) : PC 58 [.ref 1, .int (nI m)] (HP sl ρ rf) (some (.int (ρa 20 m))) (HP sl (u2 ρa 12 0 (wI (ρa 12 0) m false)) rfa) := by
  refine PC_of (cd := p_c_X4_stop) (L0 := [some (.ref 1), some (.int (nI m))]) rfl rfl ?_
  refine R_ld1 rfl ?_
  refine R_c0 rfl (m_isMotion _) rfl rfl rfl ?_
  refine BB_neT rfl (inR_N hm (by omega)) ?_
  refine R_la0 rfl ?_
  refine R_getR rfl sh_1 rfl (rf_1_0 hrf) ?_
  refine R_getR rfl sh_2 rfl (rf_2_1 hrf) ?_
  refine R_getI rfl sh_12 rfl rfl ?_
  refine R_ld1 rfl ?_
  refine R_c0 rfl (m_has _ (by omega)) rfl rfl rfl ?_
  refine BB_neT rfl (h) ?_
  refine R_la0 rfl ?_
  refine R_c1 rfl (hrem) rfl rfl rfl sh_1 rfl rfl ?_
  refine R_la0 rfl ?_
  refine R_getR rfl sh_1 rfl (rf_1_0 hrfa) ?_
  refine R_getR rfl sh_2 rfl (rf_2_1 hrfa) ?_
  refine R_la0 rfl ?_
  refine R_getR rfl sh_1 rfl (rf_1_0 hrfa) ?_
  refine R_getR rfl sh_2 rfl (rf_2_1 hrfa) ?_
  refine R_getI rfl sh_12 rfl rfl ?_
  refine R_ld1 rfl ?_
  refine R_n 0 rfl rfl ?_
  refine R_c0 rfl (m_with _ _ false) rfl rfl rfl ?_
  refine R_putI rfl sh_12 rfl ?_
  refine R_la0 rfl ?_
  refine R_getR rfl sh_1 rfl (rf_1_0 hrfa) ?_
  refine R_getR rfl sh_2 rfl (rf_2_1 hrfa) ?_
  refine R_getR rfl sh_12 rfl (rf_12_8 hrfa) ?_
  refine R_ld1 rfl ?_
  refine R_ald rfl sh_20 (by first | decide | omega) (by omega) rfl ?_
  exact R_iret rfl (rfl)

theorem c_reset_np (hrf : RFok rf) {m : Nat} (hm : m < 6) (h : ρ 16 m = -1) : PC 59 [.ref 1, .int (nI m)] (HP sl ρ rf) (some (.int (-2))) (HP sl ρ rf) := by
  refine PC_of (cd := p_c_X4_reset) (L0 := [some (.ref 1), some (.int (nI m)), none]) rfl rfl ?_
  refine R_ld1 rfl ?_
  refine R_c0 rfl (m_isMotion _) rfl rfl rfl ?_
  refine BB_neT rfl (inR_N hm (by omega)) ?_
  refine R_la0 rfl ?_
  refine R_getR rfl sh_1 rfl (rf_1_0 hrf) ?_
  refine R_getR rfl sh_2 rfl (rf_2_1 hrf) ?_
  refine R_getR rfl sh_12 rfl (rf_12_4 hrf) ?_
  refine R_ld1 rfl ?_
  refine R_ald rfl sh_16 (by first | decide | omega) (by omega) rfl ?_
  refine R_st2 rfl ?_
  refine R_ld2 rfl ?_
  refine R_i rfl ?_
  refine B2_neF rfl (h) ?_
  refine R_i rfl ?_
  exact R_iret rfl (rfl)

theorem c_reset_ok (hrf : RFok rf) {m : Nat} (hm : m < 6) (h : ¬ ρ 16 m = -1) (hrem : PC 89 [.ref 1] (HP sl ρ rf) none (HP sl ρa rfa)) (hrfa : RFok rfa) : PC 59 [.ref 1, .int (nI m)] (HP sl ρ rf) (some (.int (ρ 16 m))) (HP sl (u2 ρa 16 m (-1)) rfa) := by
  refine PC_of (cd := p_c_X4_reset) (L0 := [some (.ref 1), some (.int (nI m)), none]) rfl rfl ?_
  refine R_ld1 rfl ?_
  refine R_c0 rfl (m_isMotion _) rfl rfl rfl ?_
  refine BB_neT rfl (inR_N hm (by omega)) ?_
  refine R_la0 rfl ?_
  refine R_getR rfl sh_1 rfl (rf_1_0 hrf) ?_
  refine R_getR rfl sh_2 rfl (rf_2_1 hrf) ?_
  refine R_getR rfl sh_12 rfl (rf_12_4 hrf) ?_
  refine R_ld1 rfl ?_
  refine R_ald rfl sh_16 (by first | decide | omega) (by omega) rfl ?_
  refine R_st2 rfl ?_
  refine R_ld2 rfl ?_
  refine R_i rfl ?_
  refine B2_neT rfl (h) ?_
  refine R_la0 rfl ?_
  refine R_c1 rfl (hrem) rfl rfl rfl sh_1 rfl rfl ?_
  refine R_la0 rfl ?_
  refine R_getR rfl sh_1 rfl (rf_1_0 hrfa) ?_
  refine R_getR rfl sh_2 rfl (rf_2_1 hrfa) ?_
  refine R_getR rfl sh_12 rfl (rf_12_4 hrfa) ?_
  refine R_ld1 rfl ?_
  refine R_i rfl ?_
  refine R_ast rfl sh_16 (by decide) (by omega) ?_
  refine R_ld2 rfl ?_
  exact R_iret rfl (rfl)

theorem c_motion_bad1 (x y : Int32) (h : inR 6 x = false) : PC 60 [.ref 1, .int x, .int y] (HP sl ρ rf) (some (.int (-1))) (HP sl ρ rf) := by
  refine PC_of (cd := p_c_X4_motion) (L0 := [some (.ref 1), some (.int x), some (.int y), none]) rfl rfl ?_
  refine R_ld1 rfl ?_
  refine R_c0 rfl (m_isMotion _) rfl rfl rfl ?_
  refine BB_ne rfl (fun g2 => ?_) (fun g2 => ?_)
  · revert h; simp_all
  · refine R_i rfl ?_
    exact R_iret rfl (rfl)

theorem c_motion_bad2 (hrf : RFok rf) {m : Nat} (hm : m < 6) (y : Int32) (h : inR 13 y = false) : PC 60 [.ref 1, .int (nI m), .int y] (HP sl ρ rf) (some (.int (-1))) (HP sl ρ rf) := by
  refine PC_of (cd := p_c_X4_motion) (L0 := [some (.ref 1), some (.int (nI m)), some (.int y), none]) rfl rfl ?_
  refine R_ld1 rfl ?_
  refine R_c0 rfl (m_isMotion _) rfl rfl rfl ?_
  refine BB_neT rfl (inR_N hm (by omega)) ?_
  refine R_la0 rfl ?_
  refine R_getR rfl sh_1 rfl (rf_1_0 hrf) ?_
  refine R_getR rfl sh_2 rfl (rf_2_1 hrf) ?_
  refine R_sa3 rfl ?_
  refine R_ld2 rfl ?_
  refine R_sw rfl (if_pos (inR_fi (n := 13) (by decide) h)) ?_
  refine R_i rfl ?_
  exact R_iret rfl (rfl)

theorem c_motion_0 (hrf : RFok rf) {m : Nat} (hm : m < 6) : PC 60 [.ref 1, .int (nI m), .int (nI 0)] (HP sl ρ rf) (some (.int (ρ 14 m))) (HP sl ρ rf) := by
  refine PC_of (cd := p_c_X4_motion) (L0 := [some (.ref 1), some (.int (nI m)), some (.int (nI 0)), none]) rfl rfl ?_
  refine R_ld1 rfl ?_
  refine R_c0 rfl (m_isMotion _) rfl rfl rfl ?_
  refine BB_neT rfl (inR_N hm (by omega)) ?_
  refine R_la0 rfl ?_
  refine R_getR rfl sh_1 rfl (rf_1_0 hrf) ?_
  refine R_getR rfl sh_2 rfl (rf_2_1 hrf) ?_
  refine R_sa3 rfl ?_
  refine R_ld2 rfl ?_
  refine R_swN rfl (by omega) rfl ?_
  refine R_la3 rfl ?_
  refine R_getR rfl sh_12 rfl (rf_12_2 hrf) ?_
  refine R_ld1 rfl ?_
  refine R_ald rfl sh_14 (by first | decide | omega) (by omega) rfl ?_
  exact R_iret rfl (by first | rfl | exact lf_i (by simp [*]; rfl) | exact lf_i (by rw [g19]; rfl))

theorem c_motion_1 {n : Nat} {c : Nat → Bool} (hrf : RFok rf) (hn : ρ 3 0 = nI n) (h16 : n ≤ 16) (hc : ρ 3 3 = M c) {m r : Nat} (hm : m < 6) (hr : ρ 14 m = nI r) (hr4 : r ≤ 4) : PC 60 [.ref 1, .int (nI m), .int (nI 1)] (HP sl ρ rf) (some (.int (bI (pmI (rw0 ρ m) r (M (cM ρ n c)))))) (HP sl ρ rf) := by
  refine PC_of (cd := p_c_X4_motion) (L0 := [some (.ref 1), some (.int (nI m)), some (.int (nI 1)), none]) rfl rfl ?_
  refine R_ld1 rfl ?_
  refine R_c0 rfl (m_isMotion _) rfl rfl rfl ?_
  refine BB_neT rfl (inR_N hm (by omega)) ?_
  refine R_la0 rfl ?_
  refine R_getR rfl sh_1 rfl (rf_1_0 hrf) ?_
  refine R_getR rfl sh_2 rfl (rf_2_1 hrf) ?_
  refine R_sa3 rfl ?_
  refine R_ld2 rfl ?_
  refine R_swN rfl (by omega) rfl ?_
  refine R_la0 rfl ?_
  refine R_ld1 rfl ?_
  refine R_c1 rfl (m_isPermB hrf hn h16 hc hm hr hr4) rfl rfl rfl sh_1 rfl rfl ?_
  refine BB_eq rfl (fun g19 => ?_) (fun g19 => ?_)
  · refine R_n 0 rfl rfl ?_
    exact R_iret rfl (by first | rfl | exact lf_i (by simp [*]; rfl) | exact lf_i (by rw [g19]; rfl))
  · refine R_n 1 rfl rfl ?_
    refine R_goto rfl ?_
    exact R_iret rfl (by first | rfl | exact lf_i (by simp [*]; rfl) | exact lf_i (by rw [g19]; rfl))

theorem c_motion_2 (hrf : RFok rf) {m : Nat} (hm : m < 6) : PC 60 [.ref 1, .int (nI m), .int (nI 2)] (HP sl ρ rf) (some (.int (bI (bt (ρ 12 0) m)))) (HP sl ρ rf) := by
  refine PC_of (cd := p_c_X4_motion) (L0 := [some (.ref 1), some (.int (nI m)), some (.int (nI 2)), none]) rfl rfl ?_
  refine R_ld1 rfl ?_
  refine R_c0 rfl (m_isMotion _) rfl rfl rfl ?_
  refine BB_neT rfl (inR_N hm (by omega)) ?_
  refine R_la0 rfl ?_
  refine R_getR rfl sh_1 rfl (rf_1_0 hrf) ?_
  refine R_getR rfl sh_2 rfl (rf_2_1 hrf) ?_
  refine R_sa3 rfl ?_
  refine R_ld2 rfl ?_
  refine R_swN rfl (by omega) rfl ?_
  refine R_la3 rfl ?_
  refine R_getI rfl sh_12 rfl rfl ?_
  refine R_ld1 rfl ?_
  refine R_c0 rfl (m_bitOf _ (by omega)) rfl rfl rfl ?_
  exact R_iret rfl (by first | rfl | exact lf_i (by simp [*]; rfl) | exact lf_i (by rw [g19]; rfl))

theorem c_motion_3 (hrf : RFok rf) {m : Nat} (hm : m < 6) : PC 60 [.ref 1, .int (nI m), .int (nI 3)] (HP sl ρ rf) (some (.int (onf (ρ 16 m)))) (HP sl ρ rf) := by
  refine PC_of (cd := p_c_X4_motion) (L0 := [some (.ref 1), some (.int (nI m)), some (.int (nI 3)), none]) rfl rfl ?_
  refine R_ld1 rfl ?_
  refine R_c0 rfl (m_isMotion _) rfl rfl rfl ?_
  refine BB_neT rfl (inR_N hm (by omega)) ?_
  refine R_la0 rfl ?_
  refine R_getR rfl sh_1 rfl (rf_1_0 hrf) ?_
  refine R_getR rfl sh_2 rfl (rf_2_1 hrf) ?_
  refine R_sa3 rfl ?_
  refine R_ld2 rfl ?_
  refine R_swN rfl (by omega) rfl ?_
  refine R_la3 rfl ?_
  refine R_getR rfl sh_12 rfl (rf_12_4 hrf) ?_
  refine R_ld1 rfl ?_
  refine R_ald rfl sh_16 (by first | decide | omega) (by omega) rfl ?_
  refine R_c0 rfl (m_orNF _) rfl rfl rfl ?_
  exact R_iret rfl (by first | rfl | exact lf_i (by simp [*]; rfl) | exact lf_i (by rw [g19]; rfl))

theorem c_motion_4 (hrf : RFok rf) {m : Nat} (hm : m < 6) : PC 60 [.ref 1, .int (nI m), .int (nI 4)] (HP sl ρ rf) (some (.int (onf (ρ 17 m)))) (HP sl ρ rf) := by
  refine PC_of (cd := p_c_X4_motion) (L0 := [some (.ref 1), some (.int (nI m)), some (.int (nI 4)), none]) rfl rfl ?_
  refine R_ld1 rfl ?_
  refine R_c0 rfl (m_isMotion _) rfl rfl rfl ?_
  refine BB_neT rfl (inR_N hm (by omega)) ?_
  refine R_la0 rfl ?_
  refine R_getR rfl sh_1 rfl (rf_1_0 hrf) ?_
  refine R_getR rfl sh_2 rfl (rf_2_1 hrf) ?_
  refine R_sa3 rfl ?_
  refine R_ld2 rfl ?_
  refine R_swN rfl (by omega) rfl ?_
  refine R_la3 rfl ?_
  refine R_getR rfl sh_12 rfl (rf_12_5 hrf) ?_
  refine R_ld1 rfl ?_
  refine R_ald rfl sh_17 (by first | decide | omega) (by omega) rfl ?_
  refine R_c0 rfl (m_orNF _) rfl rfl rfl ?_
  exact R_iret rfl (by first | rfl | exact lf_i (by simp [*]; rfl) | exact lf_i (by rw [g19]; rfl))

theorem c_motion_5 (hrf : RFok rf) {m : Nat} (hm : m < 6) : PC 60 [.ref 1, .int (nI m), .int (nI 5)] (HP sl ρ rf) (some (.int (ρ 21 m))) (HP sl ρ rf) := by
  refine PC_of (cd := p_c_X4_motion) (L0 := [some (.ref 1), some (.int (nI m)), some (.int (nI 5)), none]) rfl rfl ?_
  refine R_ld1 rfl ?_
  refine R_c0 rfl (m_isMotion _) rfl rfl rfl ?_
  refine BB_neT rfl (inR_N hm (by omega)) ?_
  refine R_la0 rfl ?_
  refine R_getR rfl sh_1 rfl (rf_1_0 hrf) ?_
  refine R_getR rfl sh_2 rfl (rf_2_1 hrf) ?_
  refine R_sa3 rfl ?_
  refine R_ld2 rfl ?_
  refine R_swN rfl (by omega) rfl ?_
  refine R_la3 rfl ?_
  refine R_getR rfl sh_12 rfl (rf_12_9 hrf) ?_
  refine R_ld1 rfl ?_
  refine R_ald rfl sh_21 (by first | decide | omega) (by omega) rfl ?_
  exact R_iret rfl (by first | rfl | exact lf_i (by simp [*]; rfl) | exact lf_i (by rw [g19]; rfl))

theorem c_motion_6 (hrf : RFok rf) {m : Nat} (hm : m < 6) : PC 60 [.ref 1, .int (nI m), .int (nI 6)] (HP sl ρ rf) (some (.int (ρ 19 m))) (HP sl ρ rf) := by
  refine PC_of (cd := p_c_X4_motion) (L0 := [some (.ref 1), some (.int (nI m)), some (.int (nI 6)), none]) rfl rfl ?_
  refine R_ld1 rfl ?_
  refine R_c0 rfl (m_isMotion _) rfl rfl rfl ?_
  refine BB_neT rfl (inR_N hm (by omega)) ?_
  refine R_la0 rfl ?_
  refine R_getR rfl sh_1 rfl (rf_1_0 hrf) ?_
  refine R_getR rfl sh_2 rfl (rf_2_1 hrf) ?_
  refine R_sa3 rfl ?_
  refine R_ld2 rfl ?_
  refine R_swN rfl (by omega) rfl ?_
  refine R_la3 rfl ?_
  refine R_getR rfl sh_12 rfl (rf_12_7 hrf) ?_
  refine R_ld1 rfl ?_
  refine R_ald rfl sh_19 (by first | decide | omega) (by omega) rfl ?_
  exact R_iret rfl (by first | rfl | exact lf_i (by simp [*]; rfl) | exact lf_i (by rw [g19]; rfl))

theorem c_motion_7 (hrf : RFok rf) {m : Nat} (hm : m < 6) : PC 60 [.ref 1, .int (nI m), .int (nI 7)] (HP sl ρ rf) (some (.int (ρ 18 m))) (HP sl ρ rf) := by
  refine PC_of (cd := p_c_X4_motion) (L0 := [some (.ref 1), some (.int (nI m)), some (.int (nI 7)), none]) rfl rfl ?_
  refine R_ld1 rfl ?_
  refine R_c0 rfl (m_isMotion _) rfl rfl rfl ?_
  refine BB_neT rfl (inR_N hm (by omega)) ?_
  refine R_la0 rfl ?_
  refine R_getR rfl sh_1 rfl (rf_1_0 hrf) ?_
  refine R_getR rfl sh_2 rfl (rf_2_1 hrf) ?_
  refine R_sa3 rfl ?_
  refine R_ld2 rfl ?_
  refine R_swN rfl (by omega) rfl ?_
  refine R_la3 rfl ?_
  refine R_getR rfl sh_12 rfl (rf_12_6 hrf) ?_
  refine R_ld1 rfl ?_
  refine R_ald rfl sh_18 (by first | decide | omega) (by omega) rfl ?_
  exact R_iret rfl (by first | rfl | exact lf_i (by simp [*]; rfl) | exact lf_i (by rw [g19]; rfl))

theorem c_motion_8 {n : Nat} {c : Nat → Bool} (hrf : RFok rf) (hn : ρ 3 0 = nI n) (h16 : n ≤ 16) (hc : ρ 3 3 = M c) {m r : Nat} (hm : m < 6) (hr : ρ 14 m = nI r) (hr4 : r ≤ 4) : PC 60 [.ref 1, .int (nI m), .int (nI 8)] (HP sl ρ rf) (some (.int (if 0 < r then rw0 ρ m 0 else -4))) (HP sl ρ rf) := by
  refine PC_of (cd := p_c_X4_motion) (L0 := [some (.ref 1), some (.int (nI m)), some (.int (nI 8)), none]) rfl rfl ?_
  refine R_ld1 rfl ?_
  refine R_c0 rfl (m_isMotion _) rfl rfl rfl ?_
  refine BB_neT rfl (inR_N hm (by omega)) ?_
  refine R_la0 rfl ?_
  refine R_getR rfl sh_1 rfl (rf_1_0 hrf) ?_
  refine R_getR rfl sh_2 rfl (rf_2_1 hrf) ?_
  refine R_sa3 rfl ?_
  refine R_ld2 rfl ?_
  refine R_swN rfl (by omega) rfl ?_
  refine R_la0 rfl ?_
  refine R_ld1 rfl ?_
  refine R_ld2 rfl ?_
  refine R_n 8 rfl rfl ?_
  refine R_subN rfl (by omega) ?_
  refine R_c1 rfl (m_rowOrNF hrf hm hr hr4 (by omega)) rfl rfl rfl sh_1 rfl rfl ?_
  exact R_iret rfl (by first | rfl | exact lf_i (by simp [*]; rfl) | exact lf_i (by rw [g19]; rfl))

theorem c_motion_9 {n : Nat} {c : Nat → Bool} (hrf : RFok rf) (hn : ρ 3 0 = nI n) (h16 : n ≤ 16) (hc : ρ 3 3 = M c) {m r : Nat} (hm : m < 6) (hr : ρ 14 m = nI r) (hr4 : r ≤ 4) : PC 60 [.ref 1, .int (nI m), .int (nI 9)] (HP sl ρ rf) (some (.int (if 1 < r then rw0 ρ m 1 else -4))) (HP sl ρ rf) := by
  refine PC_of (cd := p_c_X4_motion) (L0 := [some (.ref 1), some (.int (nI m)), some (.int (nI 9)), none]) rfl rfl ?_
  refine R_ld1 rfl ?_
  refine R_c0 rfl (m_isMotion _) rfl rfl rfl ?_
  refine BB_neT rfl (inR_N hm (by omega)) ?_
  refine R_la0 rfl ?_
  refine R_getR rfl sh_1 rfl (rf_1_0 hrf) ?_
  refine R_getR rfl sh_2 rfl (rf_2_1 hrf) ?_
  refine R_sa3 rfl ?_
  refine R_ld2 rfl ?_
  refine R_swN rfl (by omega) rfl ?_
  refine R_la0 rfl ?_
  refine R_ld1 rfl ?_
  refine R_ld2 rfl ?_
  refine R_n 8 rfl rfl ?_
  refine R_subN rfl (by omega) ?_
  refine R_c1 rfl (m_rowOrNF hrf hm hr hr4 (by omega)) rfl rfl rfl sh_1 rfl rfl ?_
  exact R_iret rfl (by first | rfl | exact lf_i (by simp [*]; rfl) | exact lf_i (by rw [g19]; rfl))

theorem c_motion_10 {n : Nat} {c : Nat → Bool} (hrf : RFok rf) (hn : ρ 3 0 = nI n) (h16 : n ≤ 16) (hc : ρ 3 3 = M c) {m r : Nat} (hm : m < 6) (hr : ρ 14 m = nI r) (hr4 : r ≤ 4) : PC 60 [.ref 1, .int (nI m), .int (nI 10)] (HP sl ρ rf) (some (.int (if 2 < r then rw0 ρ m 2 else -4))) (HP sl ρ rf) := by
  refine PC_of (cd := p_c_X4_motion) (L0 := [some (.ref 1), some (.int (nI m)), some (.int (nI 10)), none]) rfl rfl ?_
  refine R_ld1 rfl ?_
  refine R_c0 rfl (m_isMotion _) rfl rfl rfl ?_
  refine BB_neT rfl (inR_N hm (by omega)) ?_
  refine R_la0 rfl ?_
  refine R_getR rfl sh_1 rfl (rf_1_0 hrf) ?_
  refine R_getR rfl sh_2 rfl (rf_2_1 hrf) ?_
  refine R_sa3 rfl ?_
  refine R_ld2 rfl ?_
  refine R_swN rfl (by omega) rfl ?_
  refine R_la0 rfl ?_
  refine R_ld1 rfl ?_
  refine R_ld2 rfl ?_
  refine R_n 8 rfl rfl ?_
  refine R_subN rfl (by omega) ?_
  refine R_c1 rfl (m_rowOrNF hrf hm hr hr4 (by omega)) rfl rfl rfl sh_1 rfl rfl ?_
  exact R_iret rfl (by first | rfl | exact lf_i (by simp [*]; rfl) | exact lf_i (by rw [g19]; rfl))

theorem c_motion_11 {n : Nat} {c : Nat → Bool} (hrf : RFok rf) (hn : ρ 3 0 = nI n) (h16 : n ≤ 16) (hc : ρ 3 3 = M c) {m r : Nat} (hm : m < 6) (hr : ρ 14 m = nI r) (hr4 : r ≤ 4) : PC 60 [.ref 1, .int (nI m), .int (nI 11)] (HP sl ρ rf) (some (.int (if 3 < r then rw0 ρ m 3 else -4))) (HP sl ρ rf) := by
  refine PC_of (cd := p_c_X4_motion) (L0 := [some (.ref 1), some (.int (nI m)), some (.int (nI 11)), none]) rfl rfl ?_
  refine R_ld1 rfl ?_
  refine R_c0 rfl (m_isMotion _) rfl rfl rfl ?_
  refine BB_neT rfl (inR_N hm (by omega)) ?_
  refine R_la0 rfl ?_
  refine R_getR rfl sh_1 rfl (rf_1_0 hrf) ?_
  refine R_getR rfl sh_2 rfl (rf_2_1 hrf) ?_
  refine R_sa3 rfl ?_
  refine R_ld2 rfl ?_
  refine R_swN rfl (by omega) rfl ?_
  refine R_la0 rfl ?_
  refine R_ld1 rfl ?_
  refine R_ld2 rfl ?_
  refine R_n 8 rfl rfl ?_
  refine R_subN rfl (by omega) ?_
  refine R_c1 rfl (m_rowOrNF hrf hm hr hr4 (by omega)) rfl rfl rfl sh_1 rfl rfl ?_
  exact R_iret rfl (by first | rfl | exact lf_i (by simp [*]; rfl) | exact lf_i (by rw [g19]; rfl))

theorem c_motion_12 (hrf : RFok rf) {m : Nat} (hm : m < 6) : PC 60 [.ref 1, .int (nI m), .int (nI 12)] (HP sl ρ rf) (some (.int (ρ 15 m))) (HP sl ρ rf) := by
  refine PC_of (cd := p_c_X4_motion) (L0 := [some (.ref 1), some (.int (nI m)), some (.int (nI 12)), none]) rfl rfl ?_
  refine R_ld1 rfl ?_
  refine R_c0 rfl (m_isMotion _) rfl rfl rfl ?_
  refine BB_neT rfl (inR_N hm (by omega)) ?_
  refine R_la0 rfl ?_
  refine R_getR rfl sh_1 rfl (rf_1_0 hrf) ?_
  refine R_getR rfl sh_2 rfl (rf_2_1 hrf) ?_
  refine R_sa3 rfl ?_
  refine R_ld2 rfl ?_
  refine R_swN rfl (by omega) rfl ?_
  refine R_la3 rfl ?_
  refine R_getR rfl sh_12 rfl (rf_12_3 hrf) ?_
  refine R_ld1 rfl ?_
  refine R_ald rfl sh_15 (by first | decide | omega) (by omega) rfl ?_
  exact R_iret rfl (by first | rfl | exact lf_i (by simp [*]; rfl) | exact lf_i (by rw [g19]; rfl))

theorem c_needed_bad (x : Int32) (h : inR 6 x = false) : PC 63 [.ref 1, .int x] (HP sl ρ rf) (some (.int (-1))) (HP sl ρ rf) := by
  refine PC_of (cd := p_c_X4_needed) (L0 := [some (.ref 1), some (.int x)]) rfl rfl ?_
  refine R_ld1 rfl ?_
  refine R_c0 rfl (m_isMotion _) rfl rfl rfl ?_
  refine BB_ne rfl (fun g2 => ?_) (fun g2 => ?_)
  · revert h; simp_all
  · refine R_i rfl ?_
    exact R_iret rfl (rfl)

theorem c_needed_nf (hrf : RFok rf) {m : Nat} (hm : m < 6) (h : ρ 14 m = nI 0) : PC 63 [.ref 1, .int (nI m)] (HP sl ρ rf) (some (.int (-4))) (HP sl ρ rf) := by
  refine PC_of (cd := p_c_X4_needed) (L0 := [some (.ref 1), some (.int (nI m))]) rfl rfl ?_
  refine R_ld1 rfl ?_
  refine R_c0 rfl (m_isMotion _) rfl rfl rfl ?_
  refine BB_neT rfl (inR_N hm (by omega)) ?_
  refine R_la0 rfl ?_
  refine R_getR rfl sh_1 rfl (rf_1_0 hrf) ?_
  refine R_getR rfl sh_2 rfl (rf_2_1 hrf) ?_
  refine R_getR rfl sh_12 rfl (rf_12_2 hrf) ?_
  refine R_ld1 rfl ?_
  refine R_ald rfl sh_14 (by first | decide | omega) (by omega) rfl ?_
  refine B1_neF rfl (h) ?_
  refine R_i rfl ?_
  exact R_iret rfl (rfl)

theorem c_needed_ok {n : Nat} {c : Nat → Bool} (hrf : RFok rf) (hn : ρ 3 0 = nI n) (h16 : n ≤ 16) (hc : ρ 3 3 = M c) {m r : Nat} (hm : m < 6) (hr : ρ 14 m = nI r) (hr4 : r ≤ 4) (h : 1 ≤ r) : PC 63 [.ref 1, .int (nI m)] (HP sl ρ rf) (some (.int (feA (rw0 ρ m) (M (cM ρ n c)) (r - 1)))) (HP sl ρ rf) := by
  refine PC_of (cd := p_c_X4_needed) (L0 := [some (.ref 1), some (.int (nI m))]) rfl rfl ?_
  refine R_ld1 rfl ?_
  refine R_c0 rfl (m_isMotion _) rfl rfl rfl ?_
  refine BB_neT rfl (inR_N hm (by omega)) ?_
  refine R_la0 rfl ?_
  refine R_getR rfl sh_1 rfl (rf_1_0 hrf) ?_
  refine R_getR rfl sh_2 rfl (rf_2_1 hrf) ?_
  refine R_getR rfl sh_12 rfl (rf_12_2 hrf) ?_
  refine R_ld1 rfl ?_
  refine R_ald rfl sh_14 (by first | decide | omega) (by omega) rfl ?_
  refine B1_neT rfl (by rw [hr]; exact nI_ne0 (by omega) (by omega)) ?_
  refine R_la0 rfl ?_
  refine R_getR rfl sh_1 rfl (rf_1_0 hrf) ?_
  refine R_getR rfl sh_2 rfl (rf_2_1 hrf) ?_
  refine R_ld1 rfl ?_
  refine R_la0 rfl ?_
  refine R_getR rfl sh_1 rfl (rf_1_0 hrf) ?_
  refine R_getR rfl sh_2 rfl (rf_2_0 hrf) ?_
  refine R_c1 rfl (m_counting hrf hn h16 hc) rfl rfl rfl sh_3 rfl rfl ?_
  refine R_c1 rfl (m_fewest hrf hm hr hr4 h _) rfl rfl rfl sh_12 rfl rfl ?_
  exact R_iret rfl (rfl)

theorem c_test_bad {n : Nat} (hrf : RFok rf) (hn : ρ 3 0 = nI n) (h16 : n ≤ 16) (x : Int32) (h : inR n x = false) : PC 64 [.ref 1, .int x] (HP sl ρ rf) (some (.int (-1))) (HP sl ρ rf) := by
  refine PC_of (cd := p_c_X4_test) (L0 := [some (.ref 1), some (.int x)]) rfl rfl ?_
  refine R_la0 rfl ?_
  refine R_ld1 rfl ?_
  refine R_c1 rfl (m_isInput hrf hn h16 _) rfl rfl rfl sh_1 rfl rfl ?_
  refine BB_ne rfl (fun g3 => ?_) (fun g3 => ?_)
  · revert h; simp_all
  · refine R_i rfl ?_
    exact R_iret rfl (rfl)

theorem c_test_np {n : Nat} (hrf : RFok rf) (hn : ρ 3 0 = nI n) (h16 : n ≤ 16) {j : Nat} (hj : j < n) (h : (!(decide (¬ ρ 4 j = -1)) && (bt (ρ 3 3) j && decide (ρ 10 j = 0))) = false) : PC 64 [.ref 1, .int (nI j)] (HP sl ρ rf) (some (.int (-2))) (HP sl ρ rf) := by
  refine PC_of (cd := p_c_X4_test) (L0 := [some (.ref 1), some (.int (nI j))]) rfl rfl ?_
  refine R_la0 rfl ?_
  refine R_ld1 rfl ?_
  refine R_c1 rfl (m_isInput hrf hn h16 _) rfl rfl rfl sh_1 rfl rfl ?_
  refine BB_neT rfl (inR_N hj (by omega)) ?_
  refine R_la0 rfl ?_
  refine R_getR rfl sh_1 rfl (rf_1_0 hrf) ?_
  refine R_getR rfl sh_2 rfl (rf_2_0 hrf) ?_
  refine R_ld1 rfl ?_
  refine R_c1 rfl (m_canTest hrf (by omega)) rfl rfl rfl sh_3 rfl rfl ?_
  refine BB_neF rfl (h) ?_
  refine R_i rfl ?_
  exact R_iret rfl (rfl)

theorem c_test_ok {n : Nat} (hrf : RFok rf) (hn : ρ 3 0 = nI n) (h16 : n ≤ 16) {j : Nat} (hj : j < n) (h : (!(decide (¬ ρ 4 j = -1)) && (bt (ρ 3 3) j && decide (ρ 10 j = 0))) = true) (hrem : PC 89 [.ref 1] (HP sl ρ rf) none (HP sl ρa rfa)) (hrfa : RFok rfa) : PC 64 [.ref 1, .int (nI j)] (HP sl ρ rf) (some (.int (ρa 3 1 + nI 20))) (HP sl (u2 (u2 ρa 10 j (nI 1)) 11 j (ρa 3 1 + nI 20)) rfa) := by
  refine PC_of (cd := p_c_X4_test) (L0 := [some (.ref 1), some (.int (nI j))]) rfl rfl ?_
  refine R_la0 rfl ?_
  refine R_ld1 rfl ?_
  refine R_c1 rfl (m_isInput hrf hn h16 _) rfl rfl rfl sh_1 rfl rfl ?_
  refine BB_neT rfl (inR_N hj (by omega)) ?_
  refine R_la0 rfl ?_
  refine R_getR rfl sh_1 rfl (rf_1_0 hrf) ?_
  refine R_getR rfl sh_2 rfl (rf_2_0 hrf) ?_
  refine R_ld1 rfl ?_
  refine R_c1 rfl (m_canTest hrf (by omega)) rfl rfl rfl sh_3 rfl rfl ?_
  refine BB_neT rfl (h) ?_
  refine R_la0 rfl ?_
  refine R_c1 rfl (hrem) rfl rfl rfl sh_1 rfl rfl ?_
  refine R_la0 rfl ?_
  refine R_getR rfl sh_1 rfl (rf_1_0 hrfa) ?_
  refine R_getR rfl sh_2 rfl (rf_2_0 hrfa) ?_
  refine R_ld1 rfl ?_
  refine R_c1 rfl (m_beginTest hrfa (by omega)) rfl rfl rfl sh_3 rfl rfl ?_
  exact R_iret rfl (rfl)

theorem c_count_bad (hrf : RFok rf) (y : Int32) (h : inR 17 y = false) : PC 66 [.ref 1, .int y] (HP sl ρ rf) (some (.int (-1))) (HP sl ρ rf) := by
  refine PC_of (cd := p_c_X4_count) (L0 := [some (.ref 1), some (.int y), none, none]) rfl rfl ?_
  refine R_la0 rfl ?_
  refine R_getR rfl sh_1 rfl (rf_1_0 hrf) ?_
  refine R_getR rfl sh_2 rfl (rf_2_0 hrf) ?_
  refine R_sa2 rfl ?_
  refine R_la0 rfl ?_
  refine R_getR rfl sh_1 rfl (rf_1_0 hrf) ?_
  refine R_getR rfl sh_2 rfl (rf_2_1 hrf) ?_
  refine R_sa3 rfl ?_
  refine R_ld1 rfl ?_
  refine R_sw rfl (if_pos (inR_fi (n := 17) (by decide) h)) ?_
  refine R_i rfl ?_
  exact R_iret rfl (rfl)

theorem c_count_0 {n : Nat} {c : Nat → Bool} {rc : Nat → Nat} (hrf : RFok rf) (hn : ρ 3 0 = nI n) (h16 : n ≤ 16) (hc : ρ 3 3 = M c) (hrr : ∀ m, m < 6 → ρ 14 m = nI (rc m) ∧ rc m ≤ 4) : PC 66 [.ref 1, .int (nI 0)] (HP sl ρ rf) (some (.int (nI n))) (HP sl ρ rf) := by
  refine PC_of (cd := p_c_X4_count) (L0 := [some (.ref 1), some (.int (nI 0)), none, none]) rfl rfl ?_
  refine R_la0 rfl ?_
  refine R_getR rfl sh_1 rfl (rf_1_0 hrf) ?_
  refine R_getR rfl sh_2 rfl (rf_2_0 hrf) ?_
  refine R_sa2 rfl ?_
  refine R_la0 rfl ?_
  refine R_getR rfl sh_1 rfl (rf_1_0 hrf) ?_
  refine R_getR rfl sh_2 rfl (rf_2_1 hrf) ?_
  refine R_sa3 rfl ?_
  refine R_ld1 rfl ?_
  refine R_swN rfl (by omega) rfl ?_
  refine R_la2 rfl ?_
  refine R_getI rfl sh_3 rfl hn ?_
  exact R_iret rfl (rfl)

theorem c_count_1 {n : Nat} {c : Nat → Bool} {rc : Nat → Nat} (hrf : RFok rf) (hn : ρ 3 0 = nI n) (h16 : n ≤ 16) (hc : ρ 3 3 = M c) (hrr : ∀ m, m < 6 → ρ 14 m = nI (rc m) ∧ rc m ≤ 4) : PC 66 [.ref 1, .int (nI 1)] (HP sl ρ rf) (some (.int (bcI (M (cM ρ n c))))) (HP sl ρ rf) := by
  refine PC_of (cd := p_c_X4_count) (L0 := [some (.ref 1), some (.int (nI 1)), none, none]) rfl rfl ?_
  refine R_la0 rfl ?_
  refine R_getR rfl sh_1 rfl (rf_1_0 hrf) ?_
  refine R_getR rfl sh_2 rfl (rf_2_0 hrf) ?_
  refine R_sa2 rfl ?_
  refine R_la0 rfl ?_
  refine R_getR rfl sh_1 rfl (rf_1_0 hrf) ?_
  refine R_getR rfl sh_2 rfl (rf_2_1 hrf) ?_
  refine R_sa3 rfl ?_
  refine R_ld1 rfl ?_
  refine R_swN rfl (by omega) rfl ?_
  refine R_la2 rfl ?_
  refine R_c1 rfl (m_counting hrf hn h16 hc) rfl rfl rfl sh_3 rfl rfl ?_
  refine R_c0 rfl (m_bc _) rfl rfl rfl ?_
  exact R_iret rfl (rfl)

theorem c_count_2 {n : Nat} {c : Nat → Bool} {rc : Nat → Nat} (hrf : RFok rf) (hn : ρ 3 0 = nI n) (h16 : n ≤ 16) (hc : ρ 3 3 = M c) (hrr : ∀ m, m < 6 → ρ 14 m = nI (rc m) ∧ rc m ≤ 4) : PC 66 [.ref 1, .int (nI 2)] (HP sl ρ rf) (some (.int (bcI (wA (ov ρ) n)))) (HP sl ρ rf) := by
  refine PC_of (cd := p_c_X4_count) (L0 := [some (.ref 1), some (.int (nI 2)), none, none]) rfl rfl ?_
  refine R_la0 rfl ?_
  refine R_getR rfl sh_1 rfl (rf_1_0 hrf) ?_
  refine R_getR rfl sh_2 rfl (rf_2_0 hrf) ?_
  refine R_sa2 rfl ?_
  refine R_la0 rfl ?_
  refine R_getR rfl sh_1 rfl (rf_1_0 hrf) ?_
  refine R_getR rfl sh_2 rfl (rf_2_1 hrf) ?_
  refine R_sa3 rfl ?_
  refine R_ld1 rfl ?_
  refine R_swN rfl (by omega) rfl ?_
  refine R_la2 rfl ?_
  refine R_c1 rfl (m_overdue hrf hn h16) rfl rfl rfl sh_3 rfl rfl ?_
  refine R_c0 rfl (m_bc _) rfl rfl rfl ?_
  exact R_iret rfl (rfl)

theorem c_count_3 {n : Nat} {c : Nat → Bool} {rc : Nat → Nat} (hrf : RFok rf) (hn : ρ 3 0 = nI n) (h16 : n ≤ 16) (hc : ρ 3 3 = M c) (hrr : ∀ m, m < 6 → ρ 14 m = nI (rc m) ∧ rc m ≤ 4) : PC 66 [.ref 1, .int (nI 3)] (HP sl ρ rf) (some (.int (bcI (wA (br ρ) n)))) (HP sl ρ rf) := by
  refine PC_of (cd := p_c_X4_count) (L0 := [some (.ref 1), some (.int (nI 3)), none, none]) rfl rfl ?_
  refine R_la0 rfl ?_
  refine R_getR rfl sh_1 rfl (rf_1_0 hrf) ?_
  refine R_getR rfl sh_2 rfl (rf_2_0 hrf) ?_
  refine R_sa2 rfl ?_
  refine R_la0 rfl ?_
  refine R_getR rfl sh_1 rfl (rf_1_0 hrf) ?_
  refine R_getR rfl sh_2 rfl (rf_2_1 hrf) ?_
  refine R_sa3 rfl ?_
  refine R_ld1 rfl ?_
  refine R_swN rfl (by omega) rfl ?_
  refine R_la2 rfl ?_
  refine R_c1 rfl (m_bridgedOnes hrf hn h16) rfl rfl rfl sh_3 rfl rfl ?_
  refine R_c0 rfl (m_bc _) rfl rfl rfl ?_
  exact R_iret rfl (rfl)

theorem c_count_4 {n : Nat} {c : Nat → Bool} {rc : Nat → Nat} (hrf : RFok rf) (hn : ρ 3 0 = nI n) (h16 : n ≤ 16) (hc : ρ 3 3 = M c) (hrr : ∀ m, m < 6 → ρ 14 m = nI (rc m) ∧ rc m ≤ 4) : PC 66 [.ref 1, .int (nI 4)] (HP sl ρ rf) (some (.int (nI (fb_ct (kL ρ) n)))) (HP sl ρ rf) := by
  refine PC_of (cd := p_c_X4_count) (L0 := [some (.ref 1), some (.int (nI 4)), none, none]) rfl rfl ?_
  refine R_la0 rfl ?_
  refine R_getR rfl sh_1 rfl (rf_1_0 hrf) ?_
  refine R_getR rfl sh_2 rfl (rf_2_0 hrf) ?_
  refine R_sa2 rfl ?_
  refine R_la0 rfl ?_
  refine R_getR rfl sh_1 rfl (rf_1_0 hrf) ?_
  refine R_getR rfl sh_2 rfl (rf_2_1 hrf) ?_
  refine R_sa3 rfl ?_
  refine R_ld1 rfl ?_
  refine R_swN rfl (by omega) rfl ?_
  refine R_la2 rfl ?_
  refine R_c1 rfl (m_keysIn hrf hn h16) rfl rfl rfl sh_3 rfl rfl ?_
  exact R_iret rfl (rfl)

theorem c_count_5 {n : Nat} {c : Nat → Bool} {rc : Nat → Nat} (hrf : RFok rf) (hn : ρ 3 0 = nI n) (h16 : n ≤ 16) (hc : ρ 3 3 = M c) (hrr : ∀ m, m < 6 → ρ 14 m = nI (rc m) ∧ rc m ≤ 4) : PC 66 [.ref 1, .int (nI 5)] (HP sl ρ rf) (some (.int (bcI (ρ 12 0)))) (HP sl ρ rf) := by
  refine PC_of (cd := p_c_X4_count) (L0 := [some (.ref 1), some (.int (nI 5)), none, none]) rfl rfl ?_
  refine R_la0 rfl ?_
  refine R_getR rfl sh_1 rfl (rf_1_0 hrf) ?_
  refine R_getR rfl sh_2 rfl (rf_2_0 hrf) ?_
  refine R_sa2 rfl ?_
  refine R_la0 rfl ?_
  refine R_getR rfl sh_1 rfl (rf_1_0 hrf) ?_
  refine R_getR rfl sh_2 rfl (rf_2_1 hrf) ?_
  refine R_sa3 rfl ?_
  refine R_ld1 rfl ?_
  refine R_swN rfl (by omega) rfl ?_
  refine R_la3 rfl ?_
  refine R_getI rfl sh_12 rfl rfl ?_
  refine R_c0 rfl (m_bc _) rfl rfl rfl ?_
  exact R_iret rfl (rfl)

theorem c_count_6 {n : Nat} {c : Nat → Bool} {rc : Nat → Nat} (hrf : RFok rf) (hn : ρ 3 0 = nI n) (h16 : n ≤ 16) (hc : ρ 3 3 = M c) (hrr : ∀ m, m < 6 → ρ 14 m = nI (rc m) ∧ rc m ≤ 4) : PC 66 [.ref 1, .int (nI 6)] (HP sl ρ rf) (some (.int (nI (fb_ct (fun m => pmI (rw0 ρ m) (rc m) (M (cM ρ n c))) 6)))) (HP sl ρ rf) := by
  refine PC_of (cd := p_c_X4_count) (L0 := [some (.ref 1), some (.int (nI 6)), none, none]) rfl rfl ?_
  refine R_la0 rfl ?_
  refine R_getR rfl sh_1 rfl (rf_1_0 hrf) ?_
  refine R_getR rfl sh_2 rfl (rf_2_0 hrf) ?_
  refine R_sa2 rfl ?_
  refine R_la0 rfl ?_
  refine R_getR rfl sh_1 rfl (rf_1_0 hrf) ?_
  refine R_getR rfl sh_2 rfl (rf_2_1 hrf) ?_
  refine R_sa3 rfl ?_
  refine R_ld1 rfl ?_
  refine R_swN rfl (by omega) rfl ?_
  refine R_la3 rfl ?_
  refine R_la2 rfl ?_
  refine R_c1 rfl (m_counting hrf hn h16 hc) rfl rfl rfl sh_3 rfl rfl ?_
  refine R_c1 rfl (m_permitted hrf hrr _) rfl rfl rfl sh_12 rfl rfl ?_
  exact R_iret rfl (rfl)

theorem c_count_7 (hrf : RFok rf) : PC 66 [.ref 1, .int (nI 7)] (HP sl ρ rf) (some (.int (nI (fb_ct (fun m => decide (¬ ρ 16 m = -1)) 6)))) (HP sl ρ rf) := by
  refine PC_of (cd := p_c_X4_count) (L0 := [some (.ref 1), some (.int (nI 7)), none, none]) rfl rfl ?_
  refine R_la0 rfl ?_
  refine R_getR rfl sh_1 rfl (rf_1_0 hrf) ?_
  refine R_getR rfl sh_2 rfl (rf_2_0 hrf) ?_
  refine R_sa2 rfl ?_
  refine R_la0 rfl ?_
  refine R_getR rfl sh_1 rfl (rf_1_0 hrf) ?_
  refine R_getR rfl sh_2 rfl (rf_2_1 hrf) ?_
  refine R_sa3 rfl ?_
  refine R_ld1 rfl ?_
  refine R_swN rfl (by omega) rfl ?_
  refine R_la3 rfl ?_
  refine R_c1 rfl (m_withFirst hrf) rfl rfl rfl sh_12 rfl rfl ?_
  exact R_iret rfl (rfl)

theorem c_count_8 (hrf : RFok rf) : PC 66 [.ref 1, .int (nI 8)] (HP sl ρ rf) (some (.int (ρ 3 1))) (HP sl ρ rf) := by
  refine PC_of (cd := p_c_X4_count) (L0 := [some (.ref 1), some (.int (nI 8)), none, none]) rfl rfl ?_
  refine R_la0 rfl ?_
  refine R_getR rfl sh_1 rfl (rf_1_0 hrf) ?_
  refine R_getR rfl sh_2 rfl (rf_2_0 hrf) ?_
  refine R_sa2 rfl ?_
  refine R_la0 rfl ?_
  refine R_getR rfl sh_1 rfl (rf_1_0 hrf) ?_
  refine R_getR rfl sh_2 rfl (rf_2_1 hrf) ?_
  refine R_sa3 rfl ?_
  refine R_ld1 rfl ?_
  refine R_swN rfl (by omega) rfl ?_
  refine R_la2 rfl ?_
  refine R_getI rfl sh_3 rfl rfl ?_
  exact R_iret rfl (rfl)

theorem c_count_9 (hrf : RFok rf) : PC 66 [.ref 1, .int (nI 9)] (HP sl ρ rf) (some (.int (sI (ρ 21) 6))) (HP sl ρ rf) := by
  refine PC_of (cd := p_c_X4_count) (L0 := [some (.ref 1), some (.int (nI 9)), none, none]) rfl rfl ?_
  refine R_la0 rfl ?_
  refine R_getR rfl sh_1 rfl (rf_1_0 hrf) ?_
  refine R_getR rfl sh_2 rfl (rf_2_0 hrf) ?_
  refine R_sa2 rfl ?_
  refine R_la0 rfl ?_
  refine R_getR rfl sh_1 rfl (rf_1_0 hrf) ?_
  refine R_getR rfl sh_2 rfl (rf_2_1 hrf) ?_
  refine R_sa3 rfl ?_
  refine R_ld1 rfl ?_
  refine R_swN rfl (by omega) rfl ?_
  refine R_la3 rfl ?_
  refine R_getR rfl sh_12 rfl (rf_12_9 hrf) ?_
  refine R_c0 rfl (m_sum sh_21 (by decide)) rfl rfl rfl ?_
  exact R_iret rfl (rfl)

theorem c_count_10 (hrf : RFok rf) : PC 66 [.ref 1, .int (nI 10)] (HP sl ρ rf) (some (.int (sI (ρ 19) 6))) (HP sl ρ rf) := by
  refine PC_of (cd := p_c_X4_count) (L0 := [some (.ref 1), some (.int (nI 10)), none, none]) rfl rfl ?_
  refine R_la0 rfl ?_
  refine R_getR rfl sh_1 rfl (rf_1_0 hrf) ?_
  refine R_getR rfl sh_2 rfl (rf_2_0 hrf) ?_
  refine R_sa2 rfl ?_
  refine R_la0 rfl ?_
  refine R_getR rfl sh_1 rfl (rf_1_0 hrf) ?_
  refine R_getR rfl sh_2 rfl (rf_2_1 hrf) ?_
  refine R_sa3 rfl ?_
  refine R_ld1 rfl ?_
  refine R_swN rfl (by omega) rfl ?_
  refine R_la3 rfl ?_
  refine R_getR rfl sh_12 rfl (rf_12_7 hrf) ?_
  refine R_c0 rfl (m_sum sh_19 (by decide)) rfl rfl rfl ?_
  exact R_iret rfl (rfl)

theorem c_count_11 (hrf : RFok rf) : PC 66 [.ref 1, .int (nI 11)] (HP sl ρ rf) (some (.int (sI (ρ 18) 6))) (HP sl ρ rf) := by
  refine PC_of (cd := p_c_X4_count) (L0 := [some (.ref 1), some (.int (nI 11)), none, none]) rfl rfl ?_
  refine R_la0 rfl ?_
  refine R_getR rfl sh_1 rfl (rf_1_0 hrf) ?_
  refine R_getR rfl sh_2 rfl (rf_2_0 hrf) ?_
  refine R_sa2 rfl ?_
  refine R_la0 rfl ?_
  refine R_getR rfl sh_1 rfl (rf_1_0 hrf) ?_
  refine R_getR rfl sh_2 rfl (rf_2_1 hrf) ?_
  refine R_sa3 rfl ?_
  refine R_ld1 rfl ?_
  refine R_swN rfl (by omega) rfl ?_
  refine R_la3 rfl ?_
  refine R_getR rfl sh_12 rfl (rf_12_6 hrf) ?_
  refine R_c0 rfl (m_sum sh_18 (by decide)) rfl rfl rfl ?_
  exact R_iret rfl (rfl)

theorem c_count_12 (hrf : RFok rf) : PC 66 [.ref 1, .int (nI 12)] (HP sl ρ rf) (some (.int (sI (ρ 9) 16))) (HP sl ρ rf) := by
  refine PC_of (cd := p_c_X4_count) (L0 := [some (.ref 1), some (.int (nI 12)), none, none]) rfl rfl ?_
  refine R_la0 rfl ?_
  refine R_getR rfl sh_1 rfl (rf_1_0 hrf) ?_
  refine R_getR rfl sh_2 rfl (rf_2_0 hrf) ?_
  refine R_sa2 rfl ?_
  refine R_la0 rfl ?_
  refine R_getR rfl sh_1 rfl (rf_1_0 hrf) ?_
  refine R_getR rfl sh_2 rfl (rf_2_1 hrf) ?_
  refine R_sa3 rfl ?_
  refine R_ld1 rfl ?_
  refine R_swN rfl (by omega) rfl ?_
  refine R_la2 rfl ?_
  refine R_getR rfl sh_3 rfl (rf_3_10 hrf) ?_
  refine R_c0 rfl (m_sum sh_9 (by decide)) rfl rfl rfl ?_
  exact R_iret rfl (rfl)

theorem c_count_13 (hrf : RFok rf) : PC 66 [.ref 1, .int (nI 13)] (HP sl ρ rf) (some (.int (ρ 3 2))) (HP sl ρ rf) := by
  refine PC_of (cd := p_c_X4_count) (L0 := [some (.ref 1), some (.int (nI 13)), none, none]) rfl rfl ?_
  refine R_la0 rfl ?_
  refine R_getR rfl sh_1 rfl (rf_1_0 hrf) ?_
  refine R_getR rfl sh_2 rfl (rf_2_0 hrf) ?_
  refine R_sa2 rfl ?_
  refine R_la0 rfl ?_
  refine R_getR rfl sh_1 rfl (rf_1_0 hrf) ?_
  refine R_getR rfl sh_2 rfl (rf_2_1 hrf) ?_
  refine R_sa3 rfl ?_
  refine R_ld1 rfl ?_
  refine R_swN rfl (by omega) rfl ?_
  refine R_la2 rfl ?_
  refine R_getI rfl sh_3 rfl rfl ?_
  exact R_iret rfl (rfl)

theorem c_count_14 (hrf : RFok rf) : PC 66 [.ref 1, .int (nI 14)] (HP sl ρ rf) (some (.int (ρ 1 2))) (HP sl ρ rf) := by
  refine PC_of (cd := p_c_X4_count) (L0 := [some (.ref 1), some (.int (nI 14)), none, none]) rfl rfl ?_
  refine R_la0 rfl ?_
  refine R_getR rfl sh_1 rfl (rf_1_0 hrf) ?_
  refine R_getR rfl sh_2 rfl (rf_2_0 hrf) ?_
  refine R_sa2 rfl ?_
  refine R_la0 rfl ?_
  refine R_getR rfl sh_1 rfl (rf_1_0 hrf) ?_
  refine R_getR rfl sh_2 rfl (rf_2_1 hrf) ?_
  refine R_sa3 rfl ?_
  refine R_ld1 rfl ?_
  refine R_swN rfl (by omega) rfl ?_
  refine R_la0 rfl ?_
  refine R_getI rfl sh_1 rfl rfl ?_
  exact R_iret rfl (rfl)

theorem c_count_15 (hrf : RFok rf) : PC 66 [.ref 1, .int (nI 15)] (HP sl ρ rf) (some (.int (ρ 144 1))) (HP sl ρ rf) := by
  refine PC_of (cd := p_c_X4_count) (L0 := [some (.ref 1), some (.int (nI 15)), none, none]) rfl rfl ?_
  refine R_la0 rfl ?_
  refine R_getR rfl sh_1 rfl (rf_1_0 hrf) ?_
  refine R_getR rfl sh_2 rfl (rf_2_0 hrf) ?_
  refine R_sa2 rfl ?_
  refine R_la0 rfl ?_
  refine R_getR rfl sh_1 rfl (rf_1_0 hrf) ?_
  refine R_getR rfl sh_2 rfl (rf_2_1 hrf) ?_
  refine R_sa3 rfl ?_
  refine R_ld1 rfl ?_
  refine R_swN rfl (by omega) rfl ?_
  refine R_la0 rfl ?_
  refine R_getR rfl sh_1 rfl (rf_1_5 hrf) ?_
  refine R_getI rfl sh_144 rfl rfl ?_
  exact R_iret rfl (rfl)

theorem c_count_16 (hrf : RFok rf) : PC 66 [.ref 1, .int (nI 16)] (HP sl ρ rf) (some (.int (bcI (ρ 1 4)))) (HP sl ρ rf) := by
  refine PC_of (cd := p_c_X4_count) (L0 := [some (.ref 1), some (.int (nI 16)), none, none]) rfl rfl ?_
  refine R_la0 rfl ?_
  refine R_getR rfl sh_1 rfl (rf_1_0 hrf) ?_
  refine R_getR rfl sh_2 rfl (rf_2_0 hrf) ?_
  refine R_sa2 rfl ?_
  refine R_la0 rfl ?_
  refine R_getR rfl sh_1 rfl (rf_1_0 hrf) ?_
  refine R_getR rfl sh_2 rfl (rf_2_1 hrf) ?_
  refine R_sa3 rfl ?_
  refine R_ld1 rfl ?_
  refine R_swN rfl (by omega) rfl ?_
  refine R_la0 rfl ?_
  refine R_getI rfl sh_1 rfl rfl ?_
  refine R_c0 rfl (m_bc _) rfl rfl rfl ?_
  exact R_iret rfl (rfl)

theorem c_snap_bad (x : Int32) (h : inR 2 x = false) : PC 67 [.ref 1, .int x] (HP sl ρ rf) (some (.int (-1))) (HP sl ρ rf) := by
  refine PC_of (cd := p_c_X4_snapshot) (L0 := [some (.ref 1), some (.int x)]) rfl rfl ?_
  refine R_ld1 rfl ?_
  refine R_c0 rfl (m_isSnap _) rfl rfl rfl ?_
  refine BB_ne rfl (fun g2 => ?_) (fun g2 => ?_)
  · revert h; simp_all
  · refine R_i rfl ?_
    exact R_iret rfl (rfl)

theorem c_snap_0 (hrf : RFok rf) : PC 67 [.ref 1, .int (nI 0)] (HP sl ρ rf) (some (.int (bcI (wI (ρ 1 4) 0 true)))) (HP sl (u2 (cpS 104 2 ρ) 1 4 (wI (ρ 1 4) 0 true)) rf) := by
  refine PC_of (cd := p_c_X4_snapshot) (L0 := [some (.ref 1), some (.int (nI 0))]) rfl rfl ?_
  refine R_ld1 rfl ?_
  refine R_c0 rfl (m_isSnap _) rfl rfl rfl ?_
  refine BB_neT rfl (rfl) ?_
  refine R_la0 rfl ?_
  refine R_getR rfl sh_1 rfl (rf_1_3 hrf) ?_
  refine R_ld1 rfl ?_
  refine R_aaldN rfl sh_103 (by decide) (by omega) (rf_103_0 hrf) ?_
  refine R_la0 rfl ?_
  refine R_getR rfl sh_1 rfl (rf_1_0 hrf) ?_
  refine R_c1 rfl (m_copyS (StOK_104 hrf) (StOK_2 hrf)) rfl rfl rfl sh_104 rfl rfl ?_
  refine R_la0 rfl ?_
  refine R_la0 rfl ?_
  refine R_getI rfl sh_1 rfl (show _ = ρ 1 4 by rw [cpS_out (by omega)]) ?_
  refine R_ld1 rfl ?_
  refine R_n 1 rfl rfl ?_
  refine R_c0 rfl (m_with _ _ true) rfl rfl rfl ?_
  refine R_putI rfl sh_1 rfl ?_
  refine R_la0 rfl ?_
  refine R_getI rfl sh_1 rfl (show _ = wI (ρ 1 4) 0 true from rfl) ?_
  refine R_c0 rfl (m_bc _) rfl rfl rfl ?_
  exact R_iret rfl (rfl)

theorem c_snap_1 (hrf : RFok rf) : PC 67 [.ref 1, .int (nI 1)] (HP sl ρ rf) (some (.int (bcI (wI (ρ 1 4) 1 true)))) (HP sl (u2 (cpS 124 2 ρ) 1 4 (wI (ρ 1 4) 1 true)) rf) := by
  refine PC_of (cd := p_c_X4_snapshot) (L0 := [some (.ref 1), some (.int (nI 1))]) rfl rfl ?_
  refine R_ld1 rfl ?_
  refine R_c0 rfl (m_isSnap _) rfl rfl rfl ?_
  refine BB_neT rfl (rfl) ?_
  refine R_la0 rfl ?_
  refine R_getR rfl sh_1 rfl (rf_1_3 hrf) ?_
  refine R_ld1 rfl ?_
  refine R_aaldN rfl sh_103 (by decide) (by omega) (rf_103_1 hrf) ?_
  refine R_la0 rfl ?_
  refine R_getR rfl sh_1 rfl (rf_1_0 hrf) ?_
  refine R_c1 rfl (m_copyS (StOK_124 hrf) (StOK_2 hrf)) rfl rfl rfl sh_124 rfl rfl ?_
  refine R_la0 rfl ?_
  refine R_la0 rfl ?_
  refine R_getI rfl sh_1 rfl (show _ = ρ 1 4 by rw [cpS_out (by omega)]) ?_
  refine R_ld1 rfl ?_
  refine R_n 1 rfl rfl ?_
  refine R_c0 rfl (m_with _ _ true) rfl rfl rfl ?_
  refine R_putI rfl sh_1 rfl ?_
  refine R_la0 rfl ?_
  refine R_getI rfl sh_1 rfl (show _ = wI (ρ 1 4) 1 true from rfl) ?_
  refine R_c0 rfl (m_bc _) rfl rfl rfl ?_
  exact R_iret rfl (rfl)

theorem c_rest_bad (x : Int32) (h : inR 2 x = false) : PC 68 [.ref 1, .int x] (HP sl ρ rf) (some (.int (-1))) (HP sl ρ rf) := by
  refine PC_of (cd := p_c_X4_restore) (L0 := [some (.ref 1), some (.int x)]) rfl rfl ?_
  refine R_ld1 rfl ?_
  refine R_c0 rfl (m_isSnap _) rfl rfl rfl ?_
  refine BB_ne rfl (fun g2 => ?_) (fun g2 => ?_)
  · revert h; simp_all
  · refine R_i rfl ?_
    exact R_iret rfl (rfl)

theorem c_rest_np0 (hrf : RFok rf) (h : bt (ρ 1 4) 0 = false) : PC 68 [.ref 1, .int (nI 0)] (HP sl ρ rf) (some (.int (-2))) (HP sl ρ rf) := by
  refine PC_of (cd := p_c_X4_restore) (L0 := [some (.ref 1), some (.int (nI 0))]) rfl rfl ?_
  refine R_ld1 rfl ?_
  refine R_c0 rfl (m_isSnap _) rfl rfl rfl ?_
  refine BB_neT rfl (rfl) ?_
  refine R_la0 rfl ?_
  refine R_getI rfl sh_1 rfl rfl ?_
  refine R_ld1 rfl ?_
  refine R_c0 rfl (m_has _ (by omega)) rfl rfl rfl ?_
  refine BB_neF rfl (h) ?_
  refine R_i rfl ?_
  exact R_iret rfl (rfl)

theorem c_rest_ok0 (hrf : RFok rf) (h : bt (ρ 1 4) 0 = true) (hrem : PC 89 [.ref 1] (HP sl ρ rf) none (HP sl ρa rfa)) (hrfa : RFok rfa) : PC 68 [.ref 1, .int (nI 0)] (HP sl ρ rf) (some (.int (ρa 105 1))) (HP sl (cpS 2 104 ρa) rfa) := by
  refine PC_of (cd := p_c_X4_restore) (L0 := [some (.ref 1), some (.int (nI 0))]) rfl rfl ?_
  refine R_ld1 rfl ?_
  refine R_c0 rfl (m_isSnap _) rfl rfl rfl ?_
  refine BB_neT rfl (rfl) ?_
  refine R_la0 rfl ?_
  refine R_getI rfl sh_1 rfl rfl ?_
  refine R_ld1 rfl ?_
  refine R_c0 rfl (m_has _ (by omega)) rfl rfl rfl ?_
  refine BB_neT rfl (h) ?_
  refine R_la0 rfl ?_
  refine R_c1 rfl (hrem) rfl rfl rfl sh_1 rfl rfl ?_
  refine R_la0 rfl ?_
  refine R_getR rfl sh_1 rfl (rf_1_0 hrfa) ?_
  refine R_la0 rfl ?_
  refine R_getR rfl sh_1 rfl (rf_1_3 hrfa) ?_
  refine R_ld1 rfl ?_
  refine R_aaldN rfl sh_103 (by decide) (by omega) (rf_103_0 hrfa) ?_
  refine R_c1 rfl (m_copyS (StOK_2 hrfa) (StOK_104 hrfa)) rfl rfl rfl sh_2 rfl rfl ?_
  refine R_la0 rfl ?_
  refine R_getR rfl sh_1 rfl (rf_1_0 hrfa) ?_
  refine R_getR rfl sh_2 rfl (rf_2_0 hrfa) ?_
  refine R_getI rfl sh_3 rfl (show cpS 2 104 ρa 3 1 = ρa 105 1 from (cpS_V (a := 2) (b := 104) (by omega)).1 1 (by decide)) ?_
  exact R_iret rfl (rfl)

theorem c_rest_np1 (hrf : RFok rf) (h : bt (ρ 1 4) 1 = false) : PC 68 [.ref 1, .int (nI 1)] (HP sl ρ rf) (some (.int (-2))) (HP sl ρ rf) := by
  refine PC_of (cd := p_c_X4_restore) (L0 := [some (.ref 1), some (.int (nI 1))]) rfl rfl ?_
  refine R_ld1 rfl ?_
  refine R_c0 rfl (m_isSnap _) rfl rfl rfl ?_
  refine BB_neT rfl (rfl) ?_
  refine R_la0 rfl ?_
  refine R_getI rfl sh_1 rfl rfl ?_
  refine R_ld1 rfl ?_
  refine R_c0 rfl (m_has _ (by omega)) rfl rfl rfl ?_
  refine BB_neF rfl (h) ?_
  refine R_i rfl ?_
  exact R_iret rfl (rfl)

theorem c_rest_ok1 (hrf : RFok rf) (h : bt (ρ 1 4) 1 = true) (hrem : PC 89 [.ref 1] (HP sl ρ rf) none (HP sl ρa rfa)) (hrfa : RFok rfa) : PC 68 [.ref 1, .int (nI 1)] (HP sl ρ rf) (some (.int (ρa 125 1))) (HP sl (cpS 2 124 ρa) rfa) := by
  refine PC_of (cd := p_c_X4_restore) (L0 := [some (.ref 1), some (.int (nI 1))]) rfl rfl ?_
  refine R_ld1 rfl ?_
  refine R_c0 rfl (m_isSnap _) rfl rfl rfl ?_
  refine BB_neT rfl (rfl) ?_
  refine R_la0 rfl ?_
  refine R_getI rfl sh_1 rfl rfl ?_
  refine R_ld1 rfl ?_
  refine R_c0 rfl (m_has _ (by omega)) rfl rfl rfl ?_
  refine BB_neT rfl (h) ?_
  refine R_la0 rfl ?_
  refine R_c1 rfl (hrem) rfl rfl rfl sh_1 rfl rfl ?_
  refine R_la0 rfl ?_
  refine R_getR rfl sh_1 rfl (rf_1_0 hrfa) ?_
  refine R_la0 rfl ?_
  refine R_getR rfl sh_1 rfl (rf_1_3 hrfa) ?_
  refine R_ld1 rfl ?_
  refine R_aaldN rfl sh_103 (by decide) (by omega) (rf_103_1 hrfa) ?_
  refine R_c1 rfl (m_copyS (StOK_2 hrfa) (StOK_124 hrfa)) rfl rfl rfl sh_2 rfl rfl ?_
  refine R_la0 rfl ?_
  refine R_getR rfl sh_1 rfl (rf_1_0 hrfa) ?_
  refine R_getR rfl sh_2 rfl (rf_2_0 hrfa) ?_
  refine R_getI rfl sh_3 rfl (show cpS 2 124 ρa 3 1 = ρa 125 1 from (cpS_V (a := 2) (b := 124) (by omega)).1 1 (by decide)) ?_
  exact R_iret rfl (rfl)

theorem c_undo_np (hrf : RFok rf) (h : ρ 1 2 = nI 0) : PC 69 [.ref 1] (HP sl ρ rf) (some (.int (-2))) (HP sl ρ rf) := by
  refine PC_of (cd := p_c_X4_undo) (L0 := [some (.ref 1)]) rfl rfl ?_
  refine R_la0 rfl ?_
  refine R_getI rfl sh_1 rfl rfl ?_
  refine B1_neF rfl (h) ?_
  refine R_i rfl ?_
  exact R_iret rfl (rfl)

theorem c_undo_ok (hrf : RFok rf) {h : Nat → Nat} (hh : HOK rf h) {s : Nat} (hs : ρ 1 2 = nI (s + 1)) (h4 : s < 4) : PC 69 [.ref 1] (HP sl ρ rf) (some (.int (nI s))) (HP sl (cpS 2 (h s) (u2 ρ 1 2 (nI s))) rf) := by
  refine PC_of (cd := p_c_X4_undo) (L0 := [some (.ref 1)]) rfl rfl ?_
  refine R_la0 rfl ?_
  refine R_getI rfl sh_1 rfl hs ?_
  refine B1_neT rfl (nI_ne0 (by omega) (by omega)) ?_
  refine R_la0 rfl ?_
  refine R_dupR rfl ?_
  refine R_getI rfl sh_1 rfl hs ?_
  refine R_n 1 rfl rfl ?_
  refine R_subN rfl (by omega) ?_
  refine R_putI rfl sh_1 rfl ?_
  refine R_la0 rfl ?_
  refine R_getR rfl sh_1 rfl (rf_1_0 hrf) ?_
  refine R_la0 rfl ?_
  refine R_getR rfl sh_1 rfl (rf_1_1 hrf) ?_
  refine R_la0 rfl ?_
  refine R_getI rfl sh_1 rfl (show _ = nI s from rfl) ?_
  refine R_aaldN rfl sh_22 (by decide) (by omega) (hh.1 s h4).1 ?_
  refine R_c1 rfl (m_copyS (StOK_2 hrf) (StOK_h hrf (hh.1 s h4).2)) rfl rfl rfl sh_2 rfl rfl ?_
  refine R_la0 rfl ?_
  refine R_getI rfl sh_1 rfl (show _ = nI s by rw [cpS_out (by omega)]; rfl) ?_
  exact R_iret rfl (rfl)

theorem c_type_bad (hrf : RFok rf) (x : Int32) (h : x < nI 32 ∨ nI 126 < x) : PC 70 [.ref 1, .int x] (HP sl ρ rf) (some (.int (-1))) (HP sl ρ rf) := by
  refine PC_of (cd := p_c_X4_type) (L0 := [some (.ref 1), some (.int x)]) rfl rfl ?_
  refine R_ld1 rfl ?_
  refine R_n 32 rfl rfl ?_
  refine B2_lt rfl (fun g2 => ?_) (fun g2 => ?_)
  · refine R_i rfl ?_
    exact R_iret rfl (rfl)
  · refine R_ld1 rfl ?_
    refine R_n 126 rfl rfl ?_
    refine B2_le rfl (fun g5 => ?_) (fun g5 => ?_)
    · rcases h with h | h
      · exact absurd h g2
      · exact absurd h (Int32.not_lt.mpr g5)
    · refine R_i rfl ?_
      exact R_iret rfl (rfl)

theorem c_type_full (hrf : RFok rf) {l w : Nat} (hl : ρ 144 1 = nI l) (h1 : 32 ≤ w) (h2 : w ≤ 126) (h80 : l = 80) : PC 70 [.ref 1, .int (nI w)] (HP sl ρ rf) (some (.int (-3))) (HP sl ρ rf) := by
  refine PC_of (cd := p_c_X4_type) (L0 := [some (.ref 1), some (.int (nI w))]) rfl rfl ?_
  refine R_ld1 rfl ?_
  refine R_n 32 rfl rfl ?_
  refine N2_ltF rfl (by omega) (by omega) (by omega) ?_
  refine R_ld1 rfl ?_
  refine R_n 126 rfl rfl ?_
  refine N2_leT rfl (by omega) (by omega) (by omega) ?_
  refine R_la0 rfl ?_
  refine R_getR rfl sh_1 rfl (rf_1_5 hrf) ?_
  refine R_getI rfl sh_144 rfl hl ?_
  refine R_n 80 rfl rfl ?_
  refine N2_ltF rfl (by omega) (by omega) (by omega) ?_
  refine R_i rfl ?_
  exact R_iret rfl (rfl)

theorem i2cN {w : Nat} (h : w < 65536) : ((nI w).toUInt32 % 65536).toInt32 = nI w := by
  rw [pk_char, pk_tn (by omega), Nat.mod_eq_of_lt h]
theorem c_type_ok (hrf : RFok rf) {l w : Nat} (hl : ρ 144 1 = nI l) (h1 : 32 ≤ w) (h2 : w ≤ 126) (h80 : l < 80) : PC 70 [.ref 1, .int (nI w)] (HP sl ρ rf) (some (.int (nI (l + 1)))) (HP sl (u2 (u2 ρ 145 l (nI w)) 144 1 (nI (l + 1))) rf) := by
  refine PC_of (cd := p_c_X4_type) (L0 := [some (.ref 1), some (.int (nI w))]) rfl rfl ?_
  refine R_ld1 rfl ?_
  refine R_n 32 rfl rfl ?_
  refine N2_ltF rfl (by omega) (by omega) (by omega) ?_
  refine R_ld1 rfl ?_
  refine R_n 126 rfl rfl ?_
  refine N2_leT rfl (by omega) (by omega) (by omega) ?_
  refine R_la0 rfl ?_
  refine R_getR rfl sh_1 rfl (rf_1_5 hrf) ?_
  refine R_getI rfl sh_144 rfl hl ?_
  refine R_n 80 rfl rfl ?_
  refine N2_ltT rfl (by omega) (by omega) (by omega) ?_
  refine R_la0 rfl ?_
  refine R_getR rfl sh_1 rfl (rf_1_5 hrf) ?_
  refine R_getR rfl sh_144 rfl (rf_144_0 hrf) ?_
  refine R_la0 rfl ?_
  refine R_getR rfl sh_1 rfl (rf_1_5 hrf) ?_
  refine R_getI rfl sh_144 rfl hl ?_
  refine R_ld1 rfl ?_
  refine R_i2c rfl ?_
  rw [i2cN (by omega)]
  refine R_cst rfl sh_145 (by decide) (by omega) (by omega) ?_
  refine R_la0 rfl ?_
  refine R_getR rfl sh_1 rfl (rf_1_5 hrf) ?_
  refine R_dupR rfl ?_
  refine R_getI rfl sh_144 rfl (show _ = nI l from hl) ?_
  refine R_n 1 rfl rfl ?_
  refine R_addN rfl ?_
  refine R_putI rfl sh_144 rfl ?_
  refine R_la0 rfl ?_
  refine R_getR rfl sh_1 rfl (rf_1_5 hrf) ?_
  refine R_getI rfl sh_144 rfl (show _ = nI (l + 1) from rfl) ?_
  exact R_iret rfl (rfl)

theorem c_clear (hrf : RFok rf) : PC 71 [.ref 1] (HP sl ρ rf) (some (.int (ρ 144 1))) (HP sl (u2 ρ 144 1 (nI 0)) rf) := by
  refine PC_of (cd := p_c_X4_clearText) (L0 := [some (.ref 1), none]) rfl rfl ?_
  refine R_la0 rfl ?_
  refine R_getR rfl sh_1 rfl (rf_1_5 hrf) ?_
  refine R_getI rfl sh_144 rfl rfl ?_
  refine R_st1 rfl ?_
  refine R_la0 rfl ?_
  refine R_getR rfl sh_1 rfl (rf_1_5 hrf) ?_
  refine R_n 0 rfl rfl ?_
  refine R_putI rfl sh_144 rfl ?_
  refine R_ld1 rfl ?_
  exact R_iret rfl (rfl)

end
