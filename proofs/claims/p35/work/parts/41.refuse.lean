/-! what is refused: the law's `refusesMotions` and `refused` -/
theorem rfz_1 : ∀ n, n < 17 → ¬ ((nI 1 <<< (nI n &&& 31) - nI 1) + nI 1) &&& (M (fun i => decide (i < n)) ^^^ (-1)) = 0 := by decide +kernel
theorem rfz_2 : ∀ n, n < 17 → ¬ (-1 : Int32) &&& (M (fun i => decide (i < n)) ^^^ (-1)) = 0 := by decide +kernel
theorem rfz_3 : ∀ n, n < 17 → ¬ nI n = -1 := by decide +kernel
theorem rfz_4 : ∀ n, n < 17 → inR n (nI n) = false := by decide +kernel
theorem rfz_5 : ∀ n, n < 17 → inR n (-1) = false := by decide +kernel
theorem rfz_6 : ∀ n, n < 17 → inR n (-2) = false := by decide +kernel
section
variable {sl : pS} {ρ : pR} {rf : pF}
theorem rm_body (hrf : RFok rf) (hS : StC ρ) {x : Int32} (hx : inR 6 x = false) {v : Option Value} {Q : Option Value × pH → Prop} (kk : PW p_c_L_refusesMotions 101 [some (.ref 1), v, some (.int x)] [] (HP sl ρ rf) Q) : PW p_c_L_refusesMotions 11 [some (.ref 1), v, some (.int x)] [] (HP sl ρ rf) Q := by
  obtain ⟨a1, a2, -⟩ := hS
  refine R_la0 rfl ?_
  refine R_ld2 rfl ?_
  refine R_n 1 rfl rfl ?_
  refine R_c1 rfl (c_row_bad hrf a2 a1 x (nI 1) (Or.inl hx)) rfl rfl rfl sh_1 rfl rfl ?_
  refine R_i rfl ?_
  refine B2_neF rfl (rfl) ?_
  refine R_la0 rfl ?_
  refine R_ld2 rfl ?_
  refine R_c1 rfl (c_drop_bad x hx) rfl rfl rfl sh_1 rfl rfl ?_
  refine R_i rfl ?_
  refine B2_neF rfl (rfl) ?_
  refine R_la0 rfl ?_
  refine R_ld2 rfl ?_
  refine R_n 0 rfl rfl ?_
  refine R_n 1 rfl rfl ?_
  refine R_c1 rfl (c_excl_bad hrf x (nI 0) (nI 1) (Or.inl hx)) rfl rfl rfl sh_1 rfl rfl ?_
  refine R_i rfl ?_
  refine B2_neF rfl (rfl) ?_
  refine R_la0 rfl ?_
  refine R_n 0 rfl rfl ?_
  refine R_ld2 rfl ?_
  refine R_n 0 rfl rfl ?_
  refine R_c1 rfl (c_excl_bad hrf (nI 0) x (nI 0) (Or.inr (Or.inl hx))) rfl rfl rfl sh_1 rfl rfl ?_
  refine R_i rfl ?_
  refine B2_neF rfl (rfl) ?_
  refine R_la0 rfl ?_
  refine R_ld2 rfl ?_
  refine R_c1 rfl (c_start_bad x hx) rfl rfl rfl sh_1 rfl rfl ?_
  refine R_i rfl ?_
  refine B2_neF rfl (rfl) ?_
  refine R_la0 rfl ?_
  refine R_ld2 rfl ?_
  refine R_c1 rfl (c_why_bad x hx) rfl rfl rfl sh_1 rfl rfl ?_
  refine R_i rfl ?_
  refine B2_neF rfl (rfl) ?_
  refine R_la0 rfl ?_
  refine R_ld2 rfl ?_
  refine R_c1 rfl (c_stop_bad x hx) rfl rfl rfl sh_1 rfl rfl ?_
  refine R_i rfl ?_
  refine B2_neF rfl (rfl) ?_
  refine R_la0 rfl ?_
  refine R_ld2 rfl ?_
  refine R_c1 rfl (c_reset_bad x hx) rfl rfl rfl sh_1 rfl rfl ?_
  refine R_i rfl ?_
  refine B2_neF rfl (rfl) ?_
  refine R_la0 rfl ?_
  refine R_ld2 rfl ?_
  refine R_n 0 rfl rfl ?_
  refine R_c1 rfl (c_motion_bad1 x (nI 0) hx) rfl rfl rfl sh_1 rfl rfl ?_
  refine R_i rfl ?_
  refine B2_neF rfl (rfl) ?_
  refine R_la0 rfl ?_
  refine R_ld2 rfl ?_
  refine R_c1 rfl (c_ways_bad x hx) rfl rfl rfl sh_1 rfl rfl ?_
  refine R_i rfl ?_
  refine B2_neF rfl (rfl) ?_
  refine R_la0 rfl ?_
  refine R_ld2 rfl ?_
  refine R_c1 rfl (c_wag_bad x hx) rfl rfl rfl sh_1 rfl rfl ?_
  refine R_i rfl ?_
  refine B2_neF rfl (rfl) ?_
  refine R_la0 rfl ?_
  refine R_ld2 rfl ?_
  refine R_c1 rfl (c_needed_bad x hx) rfl rfl rfl sh_1 rfl rfl ?_
  refine R_i rfl ?_
  refine B2_neF rfl (rfl) ?_
  refine R_la0 rfl ?_
  refine R_ld2 rfl ?_
  refine R_i rfl ?_
  refine R_c1 rfl (c_lock_bad hrf a2 a1 x (-1) (Or.inl hx)) rfl rfl rfl sh_1 rfl rfl ?_
  refine R_i rfl ?_
  refine B2_neF rfl (rfl) ?_
  refine R_la0 rfl ?_
  refine R_ld2 rfl ?_
  refine R_c1 rfl (c_key_bad x hx) rfl rfl rfl sh_1 rfl rfl ?_
  refine R_i rfl ?_
  refine B2_neF rfl (rfl) ?_
  refine R_la0 rfl ?_
  refine R_ld2 rfl ?_
  refine R_c1 rfl (c_keyOut_bad x hx) rfl rfl rfl sh_1 rfl rfl ?_
  refine R_i rfl ?_
  refine B2_neF rfl (rfl) ?_
  refine R_la0 rfl ?_
  refine R_ld2 rfl ?_
  refine R_n 0 rfl rfl ?_
  refine R_c1 rfl (c_keyIn_bad hrf a2 a1 x (nI 0) (Or.inl hx)) rfl rfl rfl sh_1 rfl rfl ?_
  refine R_i rfl ?_
  refine B2_eqT rfl (rfl) ?_
  exact kk
theorem m_refM (hrf : RFok rf) (hS : StC ρ) : PC 99 [.ref 1] (HP sl ρ rf) (some (.int 1)) (HP sl ρ rf) := by
  have hS0 := hS
  obtain ⟨a1, a2, -⟩ := hS
  refine PC_of (cd := p_c_L_refusesMotions) (L0 := [some (.ref 1), none, none]) rfl rfl ?_
  refine R_n 0 rfl rfl ?_
  refine R_st1 rfl ?_
  refine R_ld1 rfl ?_
  refine R_n 2 rfl rfl ?_
  refine N2_geF rfl (by omega) (by omega) (by decide) ?_
  refine R_ld1 rfl ?_
  refine B1_neF rfl (by decide) ?_
  refine R_n 6 rfl rfl ?_
  refine R_goto rfl ?_
  refine R_st2 rfl ?_
  refine rm_body hrf hS0 (by decide +kernel) ?_
  refine R_in1 rfl rfl ?_
  refine R_goto rfl ?_
  refine R_ld1 rfl ?_
  refine R_n 2 rfl rfl ?_
  refine N2_geF rfl (by omega) (by omega) (by decide) ?_
  refine R_ld1 rfl ?_
  refine B1_neT rfl (by decide) ?_
  refine R_i rfl ?_
  refine R_st2 rfl ?_
  refine rm_body hrf hS0 (by decide +kernel) ?_
  refine R_in1 rfl rfl ?_
  refine R_goto rfl ?_
  refine R_ld1 rfl ?_
  refine R_n 2 rfl rfl ?_
  refine N2_geT rfl (by omega) (by omega) (by decide) ?_
  refine R_n 1 rfl rfl ?_
  refine R_la0 rfl ?_
  refine R_n 0 rfl rfl ?_
  refine R_c1 rfl (s_cnt hrf hS0 (w := 0) (by decide)) rfl rfl rfl sh_1 rfl rfl ?_
  refine R_shl rfl ?_
  refine R_n 1 rfl rfl ?_
  refine R_sub rfl ?_
  refine R_st1 rfl ?_
  refine R_la0 rfl ?_
  refine R_n 0 rfl rfl ?_
  refine R_n 0 rfl rfl ?_
  refine R_c1 rfl (c_row_bad hrf a2 a1 (nI 0) (nI 0) (Or.inr (Or.inl rfl))) rfl rfl rfl sh_1 rfl rfl ?_
  refine R_i rfl ?_
  refine B2_neF rfl (rfl) ?_
  refine R_la0 rfl ?_
  refine R_n 0 rfl rfl ?_
  refine R_i rfl ?_
  refine R_c1 rfl (c_row_bad hrf a2 a1 (nI 0) (-1) (Or.inr (Or.inr (rfz_2 _ (by omega))))) rfl rfl rfl sh_1 rfl rfl ?_
  refine R_i rfl ?_
  refine B2_neF rfl (rfl) ?_
  refine R_la0 rfl ?_
  refine R_n 0 rfl rfl ?_
  refine R_ld1 rfl ?_
  refine R_n 1 rfl rfl ?_
  refine R_add rfl ?_
  refine R_c1 rfl (c_row_bad hrf a2 a1 (nI 0) _ (Or.inr (Or.inr (rfz_1 _ (by omega))))) rfl rfl rfl sh_1 rfl rfl ?_
  refine R_i rfl ?_
  refine B2_neF rfl (rfl) ?_
  refine R_la0 rfl ?_
  refine R_n 2 rfl rfl ?_
  refine R_n 2 rfl rfl ?_
  refine R_n 1 rfl rfl ?_
  refine R_c1 rfl (c_excl_bad hrf (nI 2) (nI 2) (nI 1) (Or.inr (Or.inr (Or.inl rfl)))) rfl rfl rfl sh_1 rfl rfl ?_
  refine R_i rfl ?_
  refine B2_neF rfl (rfl) ?_
  refine R_la0 rfl ?_
  refine R_n 0 rfl rfl ?_
  refine R_n 1 rfl rfl ?_
  refine R_n 2 rfl rfl ?_
  refine R_c1 rfl (c_excl_bad hrf (nI 0) (nI 1) (nI 2) (Or.inr (Or.inr (Or.inr (by decide +kernel))))) rfl rfl rfl sh_1 rfl rfl ?_
  refine R_i rfl ?_
  refine B2_neF rfl (rfl) ?_
  refine R_la0 rfl ?_
  refine R_n 0 rfl rfl ?_
  refine R_n 1 rfl rfl ?_
  refine R_i rfl ?_
  refine R_c1 rfl (c_excl_bad hrf (nI 0) (nI 1) (-1) (Or.inr (Or.inr (Or.inr (by decide +kernel))))) rfl rfl rfl sh_1 rfl rfl ?_
  refine R_i rfl ?_
  refine B2_neF rfl (rfl) ?_
  refine R_la0 rfl ?_
  refine R_n 0 rfl rfl ?_
  refine R_n 13 rfl rfl ?_
  refine R_c1 rfl (c_motion_bad2 hrf (m := 0) (by decide) (nI 13) (by decide +kernel)) rfl rfl rfl sh_1 rfl rfl ?_
  refine R_i rfl ?_
  refine B2_neF rfl (rfl) ?_
  refine R_la0 rfl ?_
  refine R_n 0 rfl rfl ?_
  refine R_i rfl ?_
  refine R_c1 rfl (c_motion_bad2 hrf (m := 0) (by decide) (-1) (by decide +kernel)) rfl rfl rfl sh_1 rfl rfl ?_
  refine R_i rfl ?_
  refine B2_neF rfl (rfl) ?_
  refine R_n 1 rfl rfl ?_
  refine R_goto rfl ?_
  exact R_zret1 rfl (rfl)
theorem rd_body (hrf : RFok rf) (hS : StC ρ) {x : Int32} (hx : inR (nOf ρ) x = false) {v0 v1 v2 v3 : Option Value} {Q : Option Value × pH → Prop} (kk : PW p_c_L_refused 172 [some (.ref 1), v0, v1, v2, v3, some (.int x)] [] (HP sl ρ rf) Q) : PW p_c_L_refused 130 [some (.ref 1), v0, v1, v2, v3, some (.int x)] [] (HP sl ρ rf) Q := by
  obtain ⟨a1, a2, -⟩ := hS
  refine R_la0 rfl ?_
  refine R_ld5 rfl ?_
  refine R_n 0 rfl rfl ?_
  refine R_c1 rfl (c_ess_bad hrf a2 a1 x (nI 0) (Or.inl hx)) rfl rfl rfl sh_1 rfl rfl ?_
  refine R_i rfl ?_
  refine B2_neF rfl (rfl) ?_
  refine R_la0 rfl ?_
  refine R_ld5 rfl ?_
  refine R_n 0 rfl rfl ?_
  refine R_c1 rfl (c_input_bad hrf a2 a1 x (nI 0) (Or.inl hx)) rfl rfl rfl sh_1 rfl rfl ?_
  refine R_i rfl ?_
  refine B2_neF rfl (rfl) ?_
  refine R_la0 rfl ?_
  refine R_ld5 rfl ?_
  refine R_n 0 rfl rfl ?_
  refine R_c1 rfl (c_info_bad1 hrf a2 a1 x (nI 0) hx) rfl rfl rfl sh_1 rfl rfl ?_
  refine R_i rfl ?_
  refine B2_neF rfl (rfl) ?_
  refine R_la0 rfl ?_
  refine R_n 0 rfl rfl ?_
  refine R_ld5 rfl ?_
  refine R_c1 rfl (c_keyIn_bad hrf a2 a1 (nI 0) x (Or.inr hx)) rfl rfl rfl sh_1 rfl rfl ?_
  refine R_i rfl ?_
  refine B2_neF rfl (rfl) ?_
  refine R_la0 rfl ?_
  refine R_ld5 rfl ?_
  refine R_n 1 rfl rfl ?_
  refine R_c1 rfl (c_bridge_bad hrf a2 a1 x (nI 1) (Or.inl hx)) rfl rfl rfl sh_1 rfl rfl ?_
  refine R_i rfl ?_
  refine B2_neF rfl (rfl) ?_
  refine R_la0 rfl ?_
  refine R_ld5 rfl ?_
  refine R_c1 rfl (c_unbr_bad hrf a2 a1 x hx) rfl rfl rfl sh_1 rfl rfl ?_
  refine R_i rfl ?_
  refine B2_neF rfl (rfl) ?_
  refine R_la0 rfl ?_
  refine R_ld5 rfl ?_
  refine R_c1 rfl (c_test_bad hrf a2 a1 x hx) rfl rfl rfl sh_1 rfl rfl ?_
  refine R_i rfl ?_
  refine B2_eqT rfl (rfl) ?_
  exact kk
theorem rd_tail (hrf : RFok rf) (hS : StC ρ) {v1 v2 v3 v4 : Option Value} : PW p_c_L_refused 226 [some (.ref 1), some (.long (mx (mx (mx (sL ρ) (ρ 1 2).toInt64) (ρ 144 1).toInt64) (bcI (ρ 1 4)).toInt64)), v1, v2, v3, v4] [] (HP sl ρ rf) (fun zz => zz = (some (.int 1), HP sl ρ rf)) := by
  have hS0 := hS
  refine R_la0 rfl ?_
  refine R_c0 rfl (m_state hrf hS0) rfl rfl rfl ?_
  refine R_la0 rfl ?_
  refine R_n 14 rfl rfl ?_
  refine R_c4 rfl (c_count_14 hrf) rfl rfl rfl sh_1 rfl rfl ?_
  refine R_i2l rfl ?_
  refine R_c3 rfl (m_mixed _ _) rfl rfl rfl ?_
  refine R_la0 rfl ?_
  refine R_n 15 rfl rfl ?_
  refine R_c4 rfl (c_count_15 hrf) rfl rfl rfl sh_1 rfl rfl ?_
  refine R_i2l rfl ?_
  refine R_c3 rfl (m_mixed _ _) rfl rfl rfl ?_
  refine R_la0 rfl ?_
  refine R_n 16 rfl rfl ?_
  refine R_c4 rfl (c_count_16 hrf) rfl rfl rfl sh_1 rfl rfl ?_
  refine R_i2l rfl ?_
  refine R_c3 rfl (m_mixed _ _) rfl rfl rfl ?_
  refine R_ll1 rfl ?_
  refine R_lcmp rfl ?_
  refine B1_neF rfl (lg_cmp_self _) ?_
  refine R_n 1 rfl rfl ?_
  refine R_goto rfl ?_
  exact R_zret1 rfl (rfl)
theorem rd_some (hrf : RFok rf) (hS : StC ρ) {v1 v3 v4 : Option Value} : PW p_c_L_refused 174 [some (.ref 1), some (.long (mx (mx (mx (sL ρ) (ρ 1 2).toInt64) (ρ 144 1).toInt64) (bcI (ρ 1 4)).toInt64)), v1, some (.int (nI (nOf ρ))), v3, v4] [] (HP sl ρ rf) (fun zz => zz = (some (.int 1), HP sl ρ rf)) := by
  have hS0 := hS
  obtain ⟨a1, a2, -⟩ := hS
  refine R_ld3 rfl ?_
  by_cases hn : nOf ρ = 0
  · exact B1_leT rfl (by rw [hn]; decide) (rd_tail hrf hS0)
  · refine B1_leF rfl (fun e => ?_) ?_
    · have e2 := (nI_leI (show nOf ρ < 2 ^ 31 by omega) (show 0 < 2 ^ 31 by decide)).mp e
      omega
    · refine R_la0 rfl ?_
      refine R_n 0 rfl rfl ?_
      refine R_n 2 rfl rfl ?_
      refine R_c1 rfl (c_ess_bad hrf a2 a1 (nI 0) (nI 2) (Or.inr (by decide +kernel))) rfl rfl rfl sh_1 rfl rfl ?_
      refine R_i rfl ?_
      refine B2_neF rfl (rfl) ?_
      refine R_la0 rfl ?_
      refine R_n 0 rfl rfl ?_
      refine R_i rfl ?_
      refine R_c1 rfl (c_ess_bad hrf a2 a1 (nI 0) (-1) (Or.inr (by decide +kernel))) rfl rfl rfl sh_1 rfl rfl ?_
      refine R_i rfl ?_
      refine B2_neF rfl (rfl) ?_
      refine R_la0 rfl ?_
      refine R_n 0 rfl rfl ?_
      refine R_n 2 rfl rfl ?_
      refine R_c1 rfl (c_input_bad hrf a2 a1 (nI 0) (nI 2) (Or.inr (by decide +kernel))) rfl rfl rfl sh_1 rfl rfl ?_
      refine R_i rfl ?_
      refine B2_neF rfl (rfl) ?_
      refine R_la0 rfl ?_
      refine R_n 0 rfl rfl ?_
      refine R_i rfl ?_
      refine R_c1 rfl (c_input_bad hrf a2 a1 (nI 0) (-1) (Or.inr (by decide +kernel))) rfl rfl rfl sh_1 rfl rfl ?_
      refine R_i rfl ?_
      refine B2_neF rfl (rfl) ?_
      refine R_la0 rfl ?_
      refine R_n 0 rfl rfl ?_
      refine R_n 12 rfl rfl ?_
      refine R_c1 rfl (c_info_bad2 hrf a2 a1 (j := 0) (by omega) (nI 12) (by decide +kernel)) rfl rfl rfl sh_1 rfl rfl ?_
      refine R_i rfl ?_
      refine B2_neF rfl (rfl) ?_
      refine R_la0 rfl ?_
      refine R_n 0 rfl rfl ?_
      refine R_i rfl ?_
      refine R_c1 rfl (c_info_bad2 hrf a2 a1 (j := 0) (by omega) (-1) (by decide +kernel)) rfl rfl rfl sh_1 rfl rfl ?_
      refine R_i rfl ?_
      refine B2_neF rfl (rfl) ?_
      refine R_la0 rfl ?_
      refine R_n 0 rfl rfl ?_
      refine R_n 0 rfl rfl ?_
      refine R_c1 rfl (c_bridge_bad hrf a2 a1 (nI 0) (nI 0) (Or.inr (Or.inl (by decide +kernel)))) rfl rfl rfl sh_1 rfl rfl ?_
      refine R_i rfl ?_
      refine B2_neF rfl (rfl) ?_
      refine R_la0 rfl ?_
      refine R_n 0 rfl rfl ?_
      refine R_n 501 rfl rfl ?_
      refine R_c1 rfl (c_bridge_bad hrf a2 a1 (nI 0) (nI 501) (Or.inr (Or.inr (by decide +kernel)))) rfl rfl rfl sh_1 rfl rfl ?_
      refine R_i rfl ?_
      refine B2_eqT rfl (rfl) ?_
      exact rd_tail hrf hS0
/-- what is refused changes nothing, and is refused -/
theorem m_refused (hrf : RFok rf) (hS : StC ρ) : PC 100 [.ref 1] (HP sl ρ rf) (some (.int 1)) (HP sl ρ rf) := by
  have hS0 := hS
  obtain ⟨a1, a2, a3, a4, a5, a6, a7, -⟩ := hS
  refine PC_of (cd := p_c_L_refused) (L0 := [some (.ref 1), none, none, none, none, none]) rfl rfl ?_
  refine R_la0 rfl ?_
  refine R_c0 rfl (m_state hrf hS0) rfl rfl rfl ?_
  refine R_la0 rfl ?_
  refine R_n 14 rfl rfl ?_
  refine R_c4 rfl (c_count_14 hrf) rfl rfl rfl sh_1 rfl rfl ?_
  refine R_i2l rfl ?_
  refine R_c3 rfl (m_mixed _ _) rfl rfl rfl ?_
  refine R_la0 rfl ?_
  refine R_n 15 rfl rfl ?_
  refine R_c4 rfl (c_count_15 hrf) rfl rfl rfl sh_1 rfl rfl ?_
  refine R_i2l rfl ?_
  refine R_c3 rfl (m_mixed _ _) rfl rfl rfl ?_
  refine R_la0 rfl ?_
  refine R_n 16 rfl rfl ?_
  refine R_c4 rfl (c_count_16 hrf) rfl rfl rfl sh_1 rfl rfl ?_
  refine R_i2l rfl ?_
  refine R_c3 rfl (m_mixed _ _) rfl rfl rfl ?_
  refine R_ls1 rfl ?_
  refine R_la0 rfl ?_
  refine R_n 0 rfl rfl ?_
  refine R_c1 rfl (s_cnt hrf hS0 (w := 0) (by decide)) rfl rfl rfl sh_1 rfl rfl ?_
  refine R_st3 rfl ?_
  refine R_la0 rfl ?_
  refine R_c0 rfl (m_refM hrf hS0) rfl rfl rfl ?_
  refine B1_eqF rfl (by decide) ?_
  refine R_la0 rfl ?_
  refine R_i rfl ?_
  refine R_c1 rfl (c_sensor_bad (-1) (Or.inl (by decide +kernel))) rfl rfl rfl sh_1 rfl rfl ?_
  refine R_i rfl ?_
  refine B2_neF rfl (rfl) ?_
  refine R_la0 rfl ?_
  refine R_n 5001 rfl rfl ?_
  refine R_c1 rfl (c_sensor_bad (nI 5001) (Or.inr (by decide +kernel))) rfl rfl rfl sh_1 rfl rfl ?_
  refine R_i rfl ?_
  refine B2_neF rfl (rfl) ?_
  refine R_la0 rfl ?_
  refine R_n 0 rfl rfl ?_
  refine R_ld3 rfl ?_
  refine R_c1 rfl (c_lock_bad hrf a2 a1 (nI 0) (nI (nOf ρ)) (Or.inr ⟨rfz_3 _ (by omega), rfz_4 _ (by omega)⟩)) rfl rfl rfl sh_1 rfl rfl ?_
  refine R_i rfl ?_
  refine B2_neF rfl (rfl) ?_
  refine R_la0 rfl ?_
  refine R_n 0 rfl rfl ?_
  refine R_i rfl ?_
  refine R_c1 rfl (c_lock_bad hrf a2 a1 (nI 0) (-2) (Or.inr ⟨by decide, rfz_6 _ (by omega)⟩)) rfl rfl rfl sh_1 rfl rfl ?_
  refine R_i rfl ?_
  refine B2_neF rfl (rfl) ?_
  refine R_la0 rfl ?_
  refine R_i rfl ?_
  refine R_c1 rfl (c_bridged_bad (-1) (by decide)) rfl rfl rfl sh_1 rfl rfl ?_
  refine R_i rfl ?_
  refine B2_neF rfl (rfl) ?_
  refine R_la0 rfl ?_
  refine R_n 3 rfl rfl ?_
  refine R_c1 rfl (c_bridged_nf hrf a2 a1 (nI 3) (by decide) (by rw [bc_wA a1]; exact nI_le a7 (by decide))) rfl rfl rfl sh_1 rfl rfl ?_
  refine R_i rfl ?_
  refine B2_neF rfl (rfl) ?_
  refine R_la0 rfl ?_
  refine R_n 0 rfl rfl ?_
  refine R_c1 rfl (c_run_bad (nI 0) (Or.inl (by decide +kernel))) rfl rfl rfl sh_1 rfl rfl ?_
  refine R_i rfl ?_
  refine B2_neF rfl (rfl) ?_
  refine R_la0 rfl ?_
  refine R_n 501 rfl rfl ?_
  refine R_c1 rfl (c_run_bad (nI 501) (Or.inr (by decide +kernel))) rfl rfl rfl sh_1 rfl rfl ?_
  refine R_i rfl ?_
  refine B2_neF rfl (rfl) ?_
  refine R_la0 rfl ?_
  refine R_i rfl ?_
  refine R_c1 rfl (c_count_bad hrf (-1) (by decide +kernel)) rfl rfl rfl sh_1 rfl rfl ?_
  refine R_i rfl ?_
  refine B2_neF rfl (rfl) ?_
  refine R_la0 rfl ?_
  refine R_n 17 rfl rfl ?_
  refine R_c1 rfl (c_count_bad hrf (nI 17) (by decide +kernel)) rfl rfl rfl sh_1 rfl rfl ?_
  refine R_i rfl ?_
  refine B2_neF rfl (rfl) ?_
  refine R_la0 rfl ?_
  refine R_n 2 rfl rfl ?_
  refine R_c1 rfl (c_snap_bad (nI 2) (by decide +kernel)) rfl rfl rfl sh_1 rfl rfl ?_
  refine R_i rfl ?_
  refine B2_neF rfl (rfl) ?_
  refine R_la0 rfl ?_
  refine R_i rfl ?_
  refine R_c1 rfl (c_snap_bad (-1) (by decide +kernel)) rfl rfl rfl sh_1 rfl rfl ?_
  refine R_i rfl ?_
  refine B2_neF rfl (rfl) ?_
  refine R_la0 rfl ?_
  refine R_n 2 rfl rfl ?_
  refine R_c1 rfl (c_rest_bad (nI 2) (by decide +kernel)) rfl rfl rfl sh_1 rfl rfl ?_
  refine R_i rfl ?_
  refine B2_neF rfl (rfl) ?_
  refine R_la0 rfl ?_
  refine R_i rfl ?_
  refine R_c1 rfl (c_rest_bad (-1) (by decide +kernel)) rfl rfl rfl sh_1 rfl rfl ?_
  refine R_i rfl ?_
  refine B2_neF rfl (rfl) ?_
  refine R_la0 rfl ?_
  refine R_n 31 rfl rfl ?_
  refine R_c1 rfl (c_type_bad hrf (nI 31) (Or.inl (by decide +kernel))) rfl rfl rfl sh_1 rfl rfl ?_
  refine R_i rfl ?_
  refine B2_neF rfl (rfl) ?_
  refine R_la0 rfl ?_
  refine R_n 127 rfl rfl ?_
  refine R_c1 rfl (c_type_bad hrf (nI 127) (Or.inr (by decide +kernel))) rfl rfl rfl sh_1 rfl rfl ?_
  refine R_i rfl ?_
  refine B2_neF rfl (rfl) ?_
  refine R_la0 rfl ?_
  refine R_i rfl ?_
  refine R_c1 rfl (c_fault_bad (-1) (by decide +kernel)) rfl rfl rfl sh_1 rfl rfl ?_
  refine R_i rfl ?_
  refine B2_neF rfl (rfl) ?_
  refine R_la0 rfl ?_
  refine R_n 2 rfl rfl ?_
  refine R_c1 rfl (c_fault_bad (nI 2) (by decide +kernel)) rfl rfl rfl sh_1 rfl rfl ?_
  refine R_i rfl ?_
  refine B2_eqT rfl (rfl) ?_
  refine R_n 0 rfl rfl ?_
  refine R_st4 rfl ?_
  refine R_ld4 rfl ?_
  refine R_n 2 rfl rfl ?_
  refine N2_geF rfl (by omega) (by omega) (by decide) ?_
  refine R_ld4 rfl ?_
  refine B1_neF rfl (by decide) ?_
  refine R_ld3 rfl ?_
  refine R_goto rfl ?_
  refine R_st5 rfl ?_
  refine rd_body hrf hS0 (rfz_4 _ (by omega)) ?_
  refine R_in4 rfl rfl ?_
  refine R_goto rfl ?_
  refine R_ld4 rfl ?_
  refine R_n 2 rfl rfl ?_
  refine N2_geF rfl (by omega) (by omega) (by decide) ?_
  refine R_ld4 rfl ?_
  refine B1_neT rfl (by decide) ?_
  refine R_i rfl ?_
  refine R_st5 rfl ?_
  refine rd_body hrf hS0 (rfz_5 _ (by omega)) ?_
  refine R_in4 rfl rfl ?_
  refine R_goto rfl ?_
  refine R_ld4 rfl ?_
  refine R_n 2 rfl rfl ?_
  refine N2_geT rfl (by omega) (by omega) (by decide) ?_
  exact rd_some hrf hS0
end
