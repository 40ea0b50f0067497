/-! the law -/
theorem b_31 : ∀ i, i < 32 → bt 31 i = decide (i < 5) := by decide +kernel
theorem and31 (x : Int32) : ∃ c, c < 32 ∧ x &&& nI 31 = nI c := by
  refine ⟨mkN 5 (bt x), mkN_lt 5 _, b_ext fun i hi => ?_⟩
  rw [show nI 31 = (31 : Int32) from rfl, b_and, b_31 i hi, b_nI i hi, mkN_tb, Bool.and_comm]
theorem law_gt {L i : Nat} (hL : L ≤ 2048) (h : ¬ i + 4 ≤ L) (hi : i < 100000) : nI L - nI 4 < nI i := by
  by_cases h4 : 4 ≤ L
  · rw [pk_sub h4]
    exact nI_lt (by omega) (by omega)
  · have hl : nI L - nI 4 < 0 := by
      rcases (show L = 0 ∨ L = 1 ∨ L = 2 ∨ L = 3 by omega) with q | q | q | q <;> subst q <;> decide
    exact Int32.lt_of_lt_of_le hl (nI_pos' (by omega))
theorem law_le {L i : Nat} (hL : L ≤ 2048) (h : i + 4 ≤ L) : ¬ nI L - nI 4 < nI i := by
  rw [pk_sub (show 4 ≤ L by omega)]
  exact nI_nlt (by omega) (by omega)
section
variable {sl : Nat} {s : Nat → Int32} {ρ : pR} {rf : pF} {i : Nat} {Q : Option Value × pH → Prop}
set_option maxRecDepth 8000 in
theorem law_0 (hsl : sl ≤ 2048) (hi : i + 4 ≤ sl) (hF : FI s ρ rf) (hk : ∀ (ρ' : pR) (rf' : pF), FI s ρ' rf' → PW p_c_L_law 636 [some (.ref 0), some (.ref 1), some (.ref 146), some (.int (nI i))] [] (HP sl ρ' rf') Q) : PW p_c_L_law 22 [some (.ref 0), some (.ref 1), some (.ref 146), some (.int (nI i))] [] (HP sl ρ rf) Q := by
  have h0 := hF.2.1
  obtain ⟨v, ρ1, rf1, ρ2, hp1, hp2, hF2⟩ := o_sensor (sl := sl) hF (s (i + 1))
  have h1 := (PC_0 hp1).trans h0
  refine R_la1 rfl ?_
  refine R_la0 rfl ?_
  refine R_ld3 rfl ?_
  refine R_n 1 rfl rfl ?_
  refine R_addN rfl ?_
  refine R_ald rfl sh_0 (by first | decide | omega) (by omega) (congrFun h0 _) ?_
  refine R_c1 rfl (hp1) rfl rfl rfl sh_1 rfl rfl ?_
  refine R_la2 rfl ?_
  refine R_la0 rfl ?_
  refine R_ld3 rfl ?_
  refine R_n 1 rfl rfl ?_
  refine R_addN rfl ?_
  refine R_ald rfl sh_0 (by first | decide | omega) (by omega) (congrFun h1 _) ?_
  refine R_c1 rfl (hp2) rfl rfl rfl sh_146 rfl rfl ?_
  refine B2_eqT rfl (rfl) ?_
  exact hk _ _ hF2
set_option maxRecDepth 8000 in
theorem law_1 (hsl : sl ≤ 2048) (hi : i + 4 ≤ sl) (hF : FI s ρ rf) (hk : ∀ (ρ' : pR) (rf' : pF), FI s ρ' rf' → PW p_c_L_law 636 [some (.ref 0), some (.ref 1), some (.ref 146), some (.int (nI i))] [] (HP sl ρ' rf') Q) : PW p_c_L_law 39 [some (.ref 0), some (.ref 1), some (.ref 146), some (.int (nI i))] [] (HP sl ρ rf) Q := by
  have h0 := hF.2.1
  obtain ⟨v, ρ1, rf1, ρ2, hp1, hp2, hF2⟩ := o_lock (sl := sl) hF (s (i + 1)) (s (i + 2))
  have h1 := (PC_0 hp1).trans h0
  refine R_la1 rfl ?_
  refine R_la0 rfl ?_
  refine R_ld3 rfl ?_
  refine R_n 1 rfl rfl ?_
  refine R_addN rfl ?_
  refine R_ald rfl sh_0 (by first | decide | omega) (by omega) (congrFun h0 _) ?_
  refine R_la0 rfl ?_
  refine R_ld3 rfl ?_
  refine R_n 2 rfl rfl ?_
  refine R_addN rfl ?_
  refine R_ald rfl sh_0 (by first | decide | omega) (by omega) (congrFun h0 _) ?_
  refine R_c1 rfl (hp1) rfl rfl rfl sh_1 rfl rfl ?_
  refine R_la2 rfl ?_
  refine R_la0 rfl ?_
  refine R_ld3 rfl ?_
  refine R_n 1 rfl rfl ?_
  refine R_addN rfl ?_
  refine R_ald rfl sh_0 (by first | decide | omega) (by omega) (congrFun h1 _) ?_
  refine R_la0 rfl ?_
  refine R_ld3 rfl ?_
  refine R_n 2 rfl rfl ?_
  refine R_addN rfl ?_
  refine R_ald rfl sh_0 (by first | decide | omega) (by omega) (congrFun h1 _) ?_
  refine R_c1 rfl (hp2) rfl rfl rfl sh_146 rfl rfl ?_
  refine B2_eqT rfl (rfl) ?_
  exact hk _ _ hF2
set_option maxRecDepth 8000 in
theorem law_2 (hsl : sl ≤ 2048) (hi : i + 4 ≤ sl) (hF : FI s ρ rf) (hk : ∀ (ρ' : pR) (rf' : pF), FI s ρ' rf' → PW p_c_L_law 636 [some (.ref 0), some (.ref 1), some (.ref 146), some (.int (nI i))] [] (HP sl ρ' rf') Q) : PW p_c_L_law 66 [some (.ref 0), some (.ref 1), some (.ref 146), some (.int (nI i))] [] (HP sl ρ rf) Q := by
  have h0 := hF.2.1
  obtain ⟨v, ρ1, rf1, ρ2, hp1, hp2, hF2⟩ := o_ess (sl := sl) hF (s (i + 1)) (s (i + 2))
  have h1 := (PC_0 hp1).trans h0
  refine R_la1 rfl ?_
  refine R_la0 rfl ?_
  refine R_ld3 rfl ?_
  refine R_n 1 rfl rfl ?_
  refine R_addN rfl ?_
  refine R_ald rfl sh_0 (by first | decide | omega) (by omega) (congrFun h0 _) ?_
  refine R_la0 rfl ?_
  refine R_ld3 rfl ?_
  refine R_n 2 rfl rfl ?_
  refine R_addN rfl ?_
  refine R_ald rfl sh_0 (by first | decide | omega) (by omega) (congrFun h0 _) ?_
  refine R_c1 rfl (hp1) rfl rfl rfl sh_1 rfl rfl ?_
  refine R_la2 rfl ?_
  refine R_la0 rfl ?_
  refine R_ld3 rfl ?_
  refine R_n 1 rfl rfl ?_
  refine R_addN rfl ?_
  refine R_ald rfl sh_0 (by first | decide | omega) (by omega) (congrFun h1 _) ?_
  refine R_la0 rfl ?_
  refine R_ld3 rfl ?_
  refine R_n 2 rfl rfl ?_
  refine R_addN rfl ?_
  refine R_ald rfl sh_0 (by first | decide | omega) (by omega) (congrFun h1 _) ?_
  refine R_c1 rfl (hp2) rfl rfl rfl sh_146 rfl rfl ?_
  refine B2_eqT rfl (rfl) ?_
  exact hk _ _ hF2
set_option maxRecDepth 8000 in
theorem law_3 (hsl : sl ≤ 2048) (hi : i + 4 ≤ sl) (hF : FI s ρ rf) (hk : ∀ (ρ' : pR) (rf' : pF), FI s ρ' rf' → PW p_c_L_law 636 [some (.ref 0), some (.ref 1), some (.ref 146), some (.int (nI i))] [] (HP sl ρ' rf') Q) : PW p_c_L_law 93 [some (.ref 0), some (.ref 1), some (.ref 146), some (.int (nI i))] [] (HP sl ρ rf) Q := by
  have h0 := hF.2.1
  obtain ⟨v, ρ1, rf1, ρ2, hp1, hp2, hF2⟩ := o_input (sl := sl) hF (s (i + 1)) (s (i + 2))
  have h1 := (PC_0 hp1).trans h0
  refine R_la1 rfl ?_
  refine R_la0 rfl ?_
  refine R_ld3 rfl ?_
  refine R_n 1 rfl rfl ?_
  refine R_addN rfl ?_
  refine R_ald rfl sh_0 (by first | decide | omega) (by omega) (congrFun h0 _) ?_
  refine R_la0 rfl ?_
  refine R_ld3 rfl ?_
  refine R_n 2 rfl rfl ?_
  refine R_addN rfl ?_
  refine R_ald rfl sh_0 (by first | decide | omega) (by omega) (congrFun h0 _) ?_
  refine R_c1 rfl (hp1) rfl rfl rfl sh_1 rfl rfl ?_
  refine R_la2 rfl ?_
  refine R_la0 rfl ?_
  refine R_ld3 rfl ?_
  refine R_n 1 rfl rfl ?_
  refine R_addN rfl ?_
  refine R_ald rfl sh_0 (by first | decide | omega) (by omega) (congrFun h1 _) ?_
  refine R_la0 rfl ?_
  refine R_ld3 rfl ?_
  refine R_n 2 rfl rfl ?_
  refine R_addN rfl ?_
  refine R_ald rfl sh_0 (by first | decide | omega) (by omega) (congrFun h1 _) ?_
  refine R_c1 rfl (hp2) rfl rfl rfl sh_146 rfl rfl ?_
  refine B2_eqT rfl (rfl) ?_
  exact hk _ _ hF2
set_option maxRecDepth 8000 in
theorem law_4 (hsl : sl ≤ 2048) (hi : i + 4 ≤ sl) (hF : FI s ρ rf) (hk : ∀ (ρ' : pR) (rf' : pF), FI s ρ' rf' → PW p_c_L_law 636 [some (.ref 0), some (.ref 1), some (.ref 146), some (.int (nI i))] [] (HP sl ρ' rf') Q) : PW p_c_L_law 120 [some (.ref 0), some (.ref 1), some (.ref 146), some (.int (nI i))] [] (HP sl ρ rf) Q := by
  have h0 := hF.2.1
  obtain ⟨v, ρ1, rf1, ρ2, hp1, hp2, hF2⟩ := o_info (sl := sl) hF (s (i + 1)) (s (i + 2))
  have h1 := (PC_0 hp1).trans h0
  refine R_la1 rfl ?_
  refine R_la0 rfl ?_
  refine R_ld3 rfl ?_
  refine R_n 1 rfl rfl ?_
  refine R_addN rfl ?_
  refine R_ald rfl sh_0 (by first | decide | omega) (by omega) (congrFun h0 _) ?_
  refine R_la0 rfl ?_
  refine R_ld3 rfl ?_
  refine R_n 2 rfl rfl ?_
  refine R_addN rfl ?_
  refine R_ald rfl sh_0 (by first | decide | omega) (by omega) (congrFun h0 _) ?_
  refine R_c1 rfl (hp1) rfl rfl rfl sh_1 rfl rfl ?_
  refine R_la2 rfl ?_
  refine R_la0 rfl ?_
  refine R_ld3 rfl ?_
  refine R_n 1 rfl rfl ?_
  refine R_addN rfl ?_
  refine R_ald rfl sh_0 (by first | decide | omega) (by omega) (congrFun h1 _) ?_
  refine R_la0 rfl ?_
  refine R_ld3 rfl ?_
  refine R_n 2 rfl rfl ?_
  refine R_addN rfl ?_
  refine R_ald rfl sh_0 (by first | decide | omega) (by omega) (congrFun h1 _) ?_
  refine R_c1 rfl (hp2) rfl rfl rfl sh_146 rfl rfl ?_
  refine B2_eqT rfl (rfl) ?_
  exact hk _ _ hF2
set_option maxRecDepth 8000 in
theorem law_5 (hsl : sl ≤ 2048) (hi : i + 4 ≤ sl) (hF : FI s ρ rf) (hk : ∀ (ρ' : pR) (rf' : pF), FI s ρ' rf' → PW p_c_L_law 636 [some (.ref 0), some (.ref 1), some (.ref 146), some (.int (nI i))] [] (HP sl ρ' rf') Q) : PW p_c_L_law 147 [some (.ref 0), some (.ref 1), some (.ref 146), some (.int (nI i))] [] (HP sl ρ rf) Q := by
  have h0 := hF.2.1
  obtain ⟨v, ρ1, rf1, ρ2, hp1, hp2, hF2⟩ := o_keyIn (sl := sl) hF (s (i + 1)) (s (i + 2))
  have h1 := (PC_0 hp1).trans h0
  refine R_la1 rfl ?_
  refine R_la0 rfl ?_
  refine R_ld3 rfl ?_
  refine R_n 1 rfl rfl ?_
  refine R_addN rfl ?_
  refine R_ald rfl sh_0 (by first | decide | omega) (by omega) (congrFun h0 _) ?_
  refine R_la0 rfl ?_
  refine R_ld3 rfl ?_
  refine R_n 2 rfl rfl ?_
  refine R_addN rfl ?_
  refine R_ald rfl sh_0 (by first | decide | omega) (by omega) (congrFun h0 _) ?_
  refine R_c1 rfl (hp1) rfl rfl rfl sh_1 rfl rfl ?_
  refine R_la2 rfl ?_
  refine R_la0 rfl ?_
  refine R_ld3 rfl ?_
  refine R_n 1 rfl rfl ?_
  refine R_addN rfl ?_
  refine R_ald rfl sh_0 (by first | decide | omega) (by omega) (congrFun h1 _) ?_
  refine R_la0 rfl ?_
  refine R_ld3 rfl ?_
  refine R_n 2 rfl rfl ?_
  refine R_addN rfl ?_
  refine R_ald rfl sh_0 (by first | decide | omega) (by omega) (congrFun h1 _) ?_
  refine R_c1 rfl (hp2) rfl rfl rfl sh_146 rfl rfl ?_
  refine B2_eqT rfl (rfl) ?_
  exact hk _ _ hF2
set_option maxRecDepth 8000 in
theorem law_6 (hsl : sl ≤ 2048) (hi : i + 4 ≤ sl) (hF : FI s ρ rf) (hk : ∀ (ρ' : pR) (rf' : pF), FI s ρ' rf' → PW p_c_L_law 636 [some (.ref 0), some (.ref 1), some (.ref 146), some (.int (nI i))] [] (HP sl ρ' rf') Q) : PW p_c_L_law 174 [some (.ref 0), some (.ref 1), some (.ref 146), some (.int (nI i))] [] (HP sl ρ rf) Q := by
  have h0 := hF.2.1
  obtain ⟨v, ρ1, rf1, ρ2, hp1, hp2, hF2⟩ := o_keyOut (sl := sl) hF (s (i + 1))
  have h1 := (PC_0 hp1).trans h0
  refine R_la1 rfl ?_
  refine R_la0 rfl ?_
  refine R_ld3 rfl ?_
  refine R_n 1 rfl rfl ?_
  refine R_addN rfl ?_
  refine R_ald rfl sh_0 (by first | decide | omega) (by omega) (congrFun h0 _) ?_
  refine R_c1 rfl (hp1) rfl rfl rfl sh_1 rfl rfl ?_
  refine R_la2 rfl ?_
  refine R_la0 rfl ?_
  refine R_ld3 rfl ?_
  refine R_n 1 rfl rfl ?_
  refine R_addN rfl ?_
  refine R_ald rfl sh_0 (by first | decide | omega) (by omega) (congrFun h1 _) ?_
  refine R_c1 rfl (hp2) rfl rfl rfl sh_146 rfl rfl ?_
  refine B2_eqT rfl (rfl) ?_
  exact hk _ _ hF2
set_option maxRecDepth 8000 in
theorem law_7 (hsl : sl ≤ 2048) (hi : i + 4 ≤ sl) (hF : FI s ρ rf) (hk : ∀ (ρ' : pR) (rf' : pF), FI s ρ' rf' → PW p_c_L_law 636 [some (.ref 0), some (.ref 1), some (.ref 146), some (.int (nI i))] [] (HP sl ρ' rf') Q) : PW p_c_L_law 191 [some (.ref 0), some (.ref 1), some (.ref 146), some (.int (nI i))] [] (HP sl ρ rf) Q := by
  have h0 := hF.2.1
  obtain ⟨v, ρ1, rf1, ρ2, hp1, hp2, hF2⟩ := o_key (sl := sl) hF (s (i + 1))
  have h1 := (PC_0 hp1).trans h0
  refine R_la1 rfl ?_
  refine R_la0 rfl ?_
  refine R_ld3 rfl ?_
  refine R_n 1 rfl rfl ?_
  refine R_addN rfl ?_
  refine R_ald rfl sh_0 (by first | decide | omega) (by omega) (congrFun h0 _) ?_
  refine R_c1 rfl (hp1) rfl rfl rfl sh_1 rfl rfl ?_
  refine R_la2 rfl ?_
  refine R_la0 rfl ?_
  refine R_ld3 rfl ?_
  refine R_n 1 rfl rfl ?_
  refine R_addN rfl ?_
  refine R_ald rfl sh_0 (by first | decide | omega) (by omega) (congrFun h1 _) ?_
  refine R_c1 rfl (hp2) rfl rfl rfl sh_146 rfl rfl ?_
  refine B2_eqT rfl (rfl) ?_
  exact hk _ _ hF2
set_option maxRecDepth 8000 in
theorem law_8 (hsl : sl ≤ 2048) (hi : i + 4 ≤ sl) (hF : FI s ρ rf) (hk : ∀ (ρ' : pR) (rf' : pF), FI s ρ' rf' → PW p_c_L_law 636 [some (.ref 0), some (.ref 1), some (.ref 146), some (.int (nI i))] [] (HP sl ρ' rf') Q) : PW p_c_L_law 208 [some (.ref 0), some (.ref 1), some (.ref 146), some (.int (nI i))] [] (HP sl ρ rf) Q := by
  have h0 := hF.2.1
  obtain ⟨v, ρ1, rf1, ρ2, hp1, hp2, hF2⟩ := o_bridge (sl := sl) hF (s (i + 1)) (s (i + 2))
  have h1 := (PC_0 hp1).trans h0
  refine R_la1 rfl ?_
  refine R_la0 rfl ?_
  refine R_ld3 rfl ?_
  refine R_n 1 rfl rfl ?_
  refine R_addN rfl ?_
  refine R_ald rfl sh_0 (by first | decide | omega) (by omega) (congrFun h0 _) ?_
  refine R_la0 rfl ?_
  refine R_ld3 rfl ?_
  refine R_n 2 rfl rfl ?_
  refine R_addN rfl ?_
  refine R_ald rfl sh_0 (by first | decide | omega) (by omega) (congrFun h0 _) ?_
  refine R_c1 rfl (hp1) rfl rfl rfl sh_1 rfl rfl ?_
  refine R_la2 rfl ?_
  refine R_la0 rfl ?_
  refine R_ld3 rfl ?_
  refine R_n 1 rfl rfl ?_
  refine R_addN rfl ?_
  refine R_ald rfl sh_0 (by first | decide | omega) (by omega) (congrFun h1 _) ?_
  refine R_la0 rfl ?_
  refine R_ld3 rfl ?_
  refine R_n 2 rfl rfl ?_
  refine R_addN rfl ?_
  refine R_ald rfl sh_0 (by first | decide | omega) (by omega) (congrFun h1 _) ?_
  refine R_c1 rfl (hp2) rfl rfl rfl sh_146 rfl rfl ?_
  refine B2_eqT rfl (rfl) ?_
  exact hk _ _ hF2
set_option maxRecDepth 8000 in
theorem law_9 (hsl : sl ≤ 2048) (hi : i + 4 ≤ sl) (hF : FI s ρ rf) (hk : ∀ (ρ' : pR) (rf' : pF), FI s ρ' rf' → PW p_c_L_law 636 [some (.ref 0), some (.ref 1), some (.ref 146), some (.int (nI i))] [] (HP sl ρ' rf') Q) : PW p_c_L_law 235 [some (.ref 0), some (.ref 1), some (.ref 146), some (.int (nI i))] [] (HP sl ρ rf) Q := by
  have h0 := hF.2.1
  obtain ⟨v, ρ1, rf1, ρ2, hp1, hp2, hF2⟩ := o_unbr (sl := sl) hF (s (i + 1))
  have h1 := (PC_0 hp1).trans h0
  refine R_la1 rfl ?_
  refine R_la0 rfl ?_
  refine R_ld3 rfl ?_
  refine R_n 1 rfl rfl ?_
  refine R_addN rfl ?_
  refine R_ald rfl sh_0 (by first | decide | omega) (by omega) (congrFun h0 _) ?_
  refine R_c1 rfl (hp1) rfl rfl rfl sh_1 rfl rfl ?_
  refine R_la2 rfl ?_
  refine R_la0 rfl ?_
  refine R_ld3 rfl ?_
  refine R_n 1 rfl rfl ?_
  refine R_addN rfl ?_
  refine R_ald rfl sh_0 (by first | decide | omega) (by omega) (congrFun h1 _) ?_
  refine R_c1 rfl (hp2) rfl rfl rfl sh_146 rfl rfl ?_
  refine B2_eqT rfl (rfl) ?_
  exact hk _ _ hF2
set_option maxRecDepth 8000 in
theorem law_10 (hsl : sl ≤ 2048) (hi : i + 4 ≤ sl) (hF : FI s ρ rf) (hk : ∀ (ρ' : pR) (rf' : pF), FI s ρ' rf' → PW p_c_L_law 636 [some (.ref 0), some (.ref 1), some (.ref 146), some (.int (nI i))] [] (HP sl ρ' rf') Q) : PW p_c_L_law 252 [some (.ref 0), some (.ref 1), some (.ref 146), some (.int (nI i))] [] (HP sl ρ rf) Q := by
  have h0 := hF.2.1
  obtain ⟨v, ρ1, rf1, ρ2, hp1, hp2, hF2⟩ := o_bridged (sl := sl) hF (s (i + 1))
  have h1 := (PC_0 hp1).trans h0
  refine R_la1 rfl ?_
  refine R_la0 rfl ?_
  refine R_ld3 rfl ?_
  refine R_n 1 rfl rfl ?_
  refine R_addN rfl ?_
  refine R_ald rfl sh_0 (by first | decide | omega) (by omega) (congrFun h0 _) ?_
  refine R_c1 rfl (hp1) rfl rfl rfl sh_1 rfl rfl ?_
  refine R_la2 rfl ?_
  refine R_la0 rfl ?_
  refine R_ld3 rfl ?_
  refine R_n 1 rfl rfl ?_
  refine R_addN rfl ?_
  refine R_ald rfl sh_0 (by first | decide | omega) (by omega) (congrFun h1 _) ?_
  refine R_c1 rfl (hp2) rfl rfl rfl sh_146 rfl rfl ?_
  refine B2_eqT rfl (rfl) ?_
  exact hk _ _ hF2
set_option maxRecDepth 8000 in
theorem law_11 (hsl : sl ≤ 2048) (hi : i + 4 ≤ sl) (hF : FI s ρ rf) (hk : ∀ (ρ' : pR) (rf' : pF), FI s ρ' rf' → PW p_c_L_law 636 [some (.ref 0), some (.ref 1), some (.ref 146), some (.int (nI i))] [] (HP sl ρ' rf') Q) : PW p_c_L_law 269 [some (.ref 0), some (.ref 1), some (.ref 146), some (.int (nI i))] [] (HP sl ρ rf) Q := by
  have h0 := hF.2.1
  obtain ⟨v, ρ1, rf1, ρ2, hp1, hp2, hF2⟩ := o_row (sl := sl) hF (s (i + 1)) (s (i + 2))
  have h1 := (PC_0 hp1).trans h0
  refine R_la1 rfl ?_
  refine R_la0 rfl ?_
  refine R_ld3 rfl ?_
  refine R_n 1 rfl rfl ?_
  refine R_addN rfl ?_
  refine R_ald rfl sh_0 (by first | decide | omega) (by omega) (congrFun h0 _) ?_
  refine R_la0 rfl ?_
  refine R_ld3 rfl ?_
  refine R_n 2 rfl rfl ?_
  refine R_addN rfl ?_
  refine R_ald rfl sh_0 (by first | decide | omega) (by omega) (congrFun h0 _) ?_
  refine R_c1 rfl (hp1) rfl rfl rfl sh_1 rfl rfl ?_
  refine R_la2 rfl ?_
  refine R_la0 rfl ?_
  refine R_ld3 rfl ?_
  refine R_n 1 rfl rfl ?_
  refine R_addN rfl ?_
  refine R_ald rfl sh_0 (by first | decide | omega) (by omega) (congrFun h1 _) ?_
  refine R_la0 rfl ?_
  refine R_ld3 rfl ?_
  refine R_n 2 rfl rfl ?_
  refine R_addN rfl ?_
  refine R_ald rfl sh_0 (by first | decide | omega) (by omega) (congrFun h1 _) ?_
  refine R_c1 rfl (hp2) rfl rfl rfl sh_146 rfl rfl ?_
  refine B2_eqT rfl (rfl) ?_
  exact hk _ _ hF2
set_option maxRecDepth 8000 in
theorem law_12 (hsl : sl ≤ 2048) (hi : i + 4 ≤ sl) (hF : FI s ρ rf) (hk : ∀ (ρ' : pR) (rf' : pF), FI s ρ' rf' → PW p_c_L_law 636 [some (.ref 0), some (.ref 1), some (.ref 146), some (.int (nI i))] [] (HP sl ρ' rf') Q) : PW p_c_L_law 296 [some (.ref 0), some (.ref 1), some (.ref 146), some (.int (nI i))] [] (HP sl ρ rf) Q := by
  have h0 := hF.2.1
  obtain ⟨v, ρ1, rf1, ρ2, hp1, hp2, hF2⟩ := o_drop (sl := sl) hF (s (i + 1))
  have h1 := (PC_0 hp1).trans h0
  refine R_la1 rfl ?_
  refine R_la0 rfl ?_
  refine R_ld3 rfl ?_
  refine R_n 1 rfl rfl ?_
  refine R_addN rfl ?_
  refine R_ald rfl sh_0 (by first | decide | omega) (by omega) (congrFun h0 _) ?_
  refine R_c1 rfl (hp1) rfl rfl rfl sh_1 rfl rfl ?_
  refine R_la2 rfl ?_
  refine R_la0 rfl ?_
  refine R_ld3 rfl ?_
  refine R_n 1 rfl rfl ?_
  refine R_addN rfl ?_
  refine R_ald rfl sh_0 (by first | decide | omega) (by omega) (congrFun h1 _) ?_
  refine R_c1 rfl (hp2) rfl rfl rfl sh_146 rfl rfl ?_
  refine B2_eqT rfl (rfl) ?_
  exact hk _ _ hF2
set_option maxRecDepth 8000 in
theorem law_13 (hsl : sl ≤ 2048) (hi : i + 4 ≤ sl) (hF : FI s ρ rf) (hk : ∀ (ρ' : pR) (rf' : pF), FI s ρ' rf' → PW p_c_L_law 636 [some (.ref 0), some (.ref 1), some (.ref 146), some (.int (nI i))] [] (HP sl ρ' rf') Q) : PW p_c_L_law 313 [some (.ref 0), some (.ref 1), some (.ref 146), some (.int (nI i))] [] (HP sl ρ rf) Q := by
  have h0 := hF.2.1
  obtain ⟨v, ρ1, rf1, ρ2, hp1, hp2, hF2⟩ := o_excl (sl := sl) hF (s (i + 1)) (s (i + 2)) (s (i + 3))
  have h1 := (PC_0 hp1).trans h0
  refine R_la1 rfl ?_
  refine R_la0 rfl ?_
  refine R_ld3 rfl ?_
  refine R_n 1 rfl rfl ?_
  refine R_addN rfl ?_
  refine R_ald rfl sh_0 (by first | decide | omega) (by omega) (congrFun h0 _) ?_
  refine R_la0 rfl ?_
  refine R_ld3 rfl ?_
  refine R_n 2 rfl rfl ?_
  refine R_addN rfl ?_
  refine R_ald rfl sh_0 (by first | decide | omega) (by omega) (congrFun h0 _) ?_
  refine R_la0 rfl ?_
  refine R_ld3 rfl ?_
  refine R_n 3 rfl rfl ?_
  refine R_addN rfl ?_
  refine R_ald rfl sh_0 (by first | decide | omega) (by omega) (congrFun h0 _) ?_
  refine R_c1 rfl (hp1) rfl rfl rfl sh_1 rfl rfl ?_
  refine R_la2 rfl ?_
  refine R_la0 rfl ?_
  refine R_ld3 rfl ?_
  refine R_n 1 rfl rfl ?_
  refine R_addN rfl ?_
  refine R_ald rfl sh_0 (by first | decide | omega) (by omega) (congrFun h1 _) ?_
  refine R_la0 rfl ?_
  refine R_ld3 rfl ?_
  refine R_n 2 rfl rfl ?_
  refine R_addN rfl ?_
  refine R_ald rfl sh_0 (by first | decide | omega) (by omega) (congrFun h1 _) ?_
  refine R_la0 rfl ?_
  refine R_ld3 rfl ?_
  refine R_n 3 rfl rfl ?_
  refine R_addN rfl ?_
  refine R_ald rfl sh_0 (by first | decide | omega) (by omega) (congrFun h1 _) ?_
  refine R_c1 rfl (hp2) rfl rfl rfl sh_146 rfl rfl ?_
  refine B2_eqT rfl (rfl) ?_
  exact hk _ _ hF2
set_option maxRecDepth 8000 in
theorem law_14 (hsl : sl ≤ 2048) (hi : i + 4 ≤ sl) (hF : FI s ρ rf) (hk : ∀ (ρ' : pR) (rf' : pF), FI s ρ' rf' → PW p_c_L_law 636 [some (.ref 0), some (.ref 1), some (.ref 146), some (.int (nI i))] [] (HP sl ρ' rf') Q) : PW p_c_L_law 350 [some (.ref 0), some (.ref 1), some (.ref 146), some (.int (nI i))] [] (HP sl ρ rf) Q := by
  have h0 := hF.2.1
  obtain ⟨v, ρ1, rf1, ρ2, hp1, hp2, hF2⟩ := o_start (sl := sl) hF (s (i + 1))
  have h1 := (PC_0 hp1).trans h0
  refine R_la1 rfl ?_
  refine R_la0 rfl ?_
  refine R_ld3 rfl ?_
  refine R_n 1 rfl rfl ?_
  refine R_addN rfl ?_
  refine R_ald rfl sh_0 (by first | decide | omega) (by omega) (congrFun h0 _) ?_
  refine R_c1 rfl (hp1) rfl rfl rfl sh_1 rfl rfl ?_
  refine R_la2 rfl ?_
  refine R_la0 rfl ?_
  refine R_ld3 rfl ?_
  refine R_n 1 rfl rfl ?_
  refine R_addN rfl ?_
  refine R_ald rfl sh_0 (by first | decide | omega) (by omega) (congrFun h1 _) ?_
  refine R_c1 rfl (hp2) rfl rfl rfl sh_146 rfl rfl ?_
  refine B2_eqT rfl (rfl) ?_
  exact hk _ _ hF2
set_option maxRecDepth 8000 in
theorem law_15 (hsl : sl ≤ 2048) (hi : i + 4 ≤ sl) (hF : FI s ρ rf) (hk : ∀ (ρ' : pR) (rf' : pF), FI s ρ' rf' → PW p_c_L_law 636 [some (.ref 0), some (.ref 1), some (.ref 146), some (.int (nI i))] [] (HP sl ρ' rf') Q) : PW p_c_L_law 367 [some (.ref 0), some (.ref 1), some (.ref 146), some (.int (nI i))] [] (HP sl ρ rf) Q := by
  have h0 := hF.2.1
  obtain ⟨v, ρ1, rf1, ρ2, hp1, hp2, hF2⟩ := o_why (sl := sl) hF (s (i + 1))
  have h1 := (PC_0 hp1).trans h0
  refine R_la1 rfl ?_
  refine R_la0 rfl ?_
  refine R_ld3 rfl ?_
  refine R_n 1 rfl rfl ?_
  refine R_addN rfl ?_
  refine R_ald rfl sh_0 (by first | decide | omega) (by omega) (congrFun h0 _) ?_
  refine R_c1 rfl (hp1) rfl rfl rfl sh_1 rfl rfl ?_
  refine R_la2 rfl ?_
  refine R_la0 rfl ?_
  refine R_ld3 rfl ?_
  refine R_n 1 rfl rfl ?_
  refine R_addN rfl ?_
  refine R_ald rfl sh_0 (by first | decide | omega) (by omega) (congrFun h1 _) ?_
  refine R_c1 rfl (hp2) rfl rfl rfl sh_146 rfl rfl ?_
  refine B2_eqT rfl (rfl) ?_
  exact hk _ _ hF2
set_option maxRecDepth 8000 in
theorem law_16 (hsl : sl ≤ 2048) (hi : i + 4 ≤ sl) (hF : FI s ρ rf) (hk : ∀ (ρ' : pR) (rf' : pF), FI s ρ' rf' → PW p_c_L_law 636 [some (.ref 0), some (.ref 1), some (.ref 146), some (.int (nI i))] [] (HP sl ρ' rf') Q) : PW p_c_L_law 384 [some (.ref 0), some (.ref 1), some (.ref 146), some (.int (nI i))] [] (HP sl ρ rf) Q := by
  have h0 := hF.2.1
  obtain ⟨v, ρ1, rf1, ρ2, hp1, hp2, hF2⟩ := o_stop (sl := sl) hF (s (i + 1))
  have h1 := (PC_0 hp1).trans h0
  refine R_la1 rfl ?_
  refine R_la0 rfl ?_
  refine R_ld3 rfl ?_
  refine R_n 1 rfl rfl ?_
  refine R_addN rfl ?_
  refine R_ald rfl sh_0 (by first | decide | omega) (by omega) (congrFun h0 _) ?_
  refine R_c1 rfl (hp1) rfl rfl rfl sh_1 rfl rfl ?_
  refine R_la2 rfl ?_
  refine R_la0 rfl ?_
  refine R_ld3 rfl ?_
  refine R_n 1 rfl rfl ?_
  refine R_addN rfl ?_
  refine R_ald rfl sh_0 (by first | decide | omega) (by omega) (congrFun h1 _) ?_
  refine R_c1 rfl (hp2) rfl rfl rfl sh_146 rfl rfl ?_
  refine B2_eqT rfl (rfl) ?_
  exact hk _ _ hF2
set_option maxRecDepth 8000 in
theorem law_17 (hsl : sl ≤ 2048) (hi : i + 4 ≤ sl) (hF : FI s ρ rf) (hk : ∀ (ρ' : pR) (rf' : pF), FI s ρ' rf' → PW p_c_L_law 636 [some (.ref 0), some (.ref 1), some (.ref 146), some (.int (nI i))] [] (HP sl ρ' rf') Q) : PW p_c_L_law 401 [some (.ref 0), some (.ref 1), some (.ref 146), some (.int (nI i))] [] (HP sl ρ rf) Q := by
  have h0 := hF.2.1
  obtain ⟨v, ρ1, rf1, ρ2, hp1, hp2, hF2⟩ := o_reset (sl := sl) hF (s (i + 1))
  have h1 := (PC_0 hp1).trans h0
  refine R_la1 rfl ?_
  refine R_la0 rfl ?_
  refine R_ld3 rfl ?_
  refine R_n 1 rfl rfl ?_
  refine R_addN rfl ?_
  refine R_ald rfl sh_0 (by first | decide | omega) (by omega) (congrFun h0 _) ?_
  refine R_c1 rfl (hp1) rfl rfl rfl sh_1 rfl rfl ?_
  refine R_la2 rfl ?_
  refine R_la0 rfl ?_
  refine R_ld3 rfl ?_
  refine R_n 1 rfl rfl ?_
  refine R_addN rfl ?_
  refine R_ald rfl sh_0 (by first | decide | omega) (by omega) (congrFun h1 _) ?_
  refine R_c1 rfl (hp2) rfl rfl rfl sh_146 rfl rfl ?_
  refine B2_eqT rfl (rfl) ?_
  exact hk _ _ hF2
set_option maxRecDepth 8000 in
theorem law_18 (hsl : sl ≤ 2048) (hi : i + 4 ≤ sl) (hF : FI s ρ rf) (hk : ∀ (ρ' : pR) (rf' : pF), FI s ρ' rf' → PW p_c_L_law 636 [some (.ref 0), some (.ref 1), some (.ref 146), some (.int (nI i))] [] (HP sl ρ' rf') Q) : PW p_c_L_law 418 [some (.ref 0), some (.ref 1), some (.ref 146), some (.int (nI i))] [] (HP sl ρ rf) Q := by
  have h0 := hF.2.1
  obtain ⟨v, ρ1, rf1, ρ2, hp1, hp2, hF2⟩ := o_motion (sl := sl) hF (s (i + 1)) (s (i + 2))
  have h1 := (PC_0 hp1).trans h0
  refine R_la1 rfl ?_
  refine R_la0 rfl ?_
  refine R_ld3 rfl ?_
  refine R_n 1 rfl rfl ?_
  refine R_addN rfl ?_
  refine R_ald rfl sh_0 (by first | decide | omega) (by omega) (congrFun h0 _) ?_
  refine R_la0 rfl ?_
  refine R_ld3 rfl ?_
  refine R_n 2 rfl rfl ?_
  refine R_addN rfl ?_
  refine R_ald rfl sh_0 (by first | decide | omega) (by omega) (congrFun h0 _) ?_
  refine R_c1 rfl (hp1) rfl rfl rfl sh_1 rfl rfl ?_
  refine R_la2 rfl ?_
  refine R_la0 rfl ?_
  refine R_ld3 rfl ?_
  refine R_n 1 rfl rfl ?_
  refine R_addN rfl ?_
  refine R_ald rfl sh_0 (by first | decide | omega) (by omega) (congrFun h1 _) ?_
  refine R_la0 rfl ?_
  refine R_ld3 rfl ?_
  refine R_n 2 rfl rfl ?_
  refine R_addN rfl ?_
  refine R_ald rfl sh_0 (by first | decide | omega) (by omega) (congrFun h1 _) ?_
  refine R_c1 rfl (hp2) rfl rfl rfl sh_146 rfl rfl ?_
  refine B2_eqT rfl (rfl) ?_
  exact hk _ _ hF2
set_option maxRecDepth 8000 in
theorem law_19 (hsl : sl ≤ 2048) (hi : i + 4 ≤ sl) (hF : FI s ρ rf) (hk : ∀ (ρ' : pR) (rf' : pF), FI s ρ' rf' → PW p_c_L_law 636 [some (.ref 0), some (.ref 1), some (.ref 146), some (.int (nI i))] [] (HP sl ρ' rf') Q) : PW p_c_L_law 445 [some (.ref 0), some (.ref 1), some (.ref 146), some (.int (nI i))] [] (HP sl ρ rf) Q := by
  have h0 := hF.2.1
  obtain ⟨v, ρ1, rf1, ρ2, hp1, hp2, hF2⟩ := o_ways (sl := sl) hF (s (i + 1))
  have h1 := (PC_0 hp1).trans h0
  refine R_la1 rfl ?_
  refine R_la0 rfl ?_
  refine R_ld3 rfl ?_
  refine R_n 1 rfl rfl ?_
  refine R_addN rfl ?_
  refine R_ald rfl sh_0 (by first | decide | omega) (by omega) (congrFun h0 _) ?_
  refine R_c1 rfl (hp1) rfl rfl rfl sh_1 rfl rfl ?_
  refine R_la2 rfl ?_
  refine R_la0 rfl ?_
  refine R_ld3 rfl ?_
  refine R_n 1 rfl rfl ?_
  refine R_addN rfl ?_
  refine R_ald rfl sh_0 (by first | decide | omega) (by omega) (congrFun h1 _) ?_
  refine R_c1 rfl (hp2) rfl rfl rfl sh_146 rfl rfl ?_
  refine B2_eqT rfl (rfl) ?_
  exact hk _ _ hF2
set_option maxRecDepth 8000 in
theorem law_20 (hsl : sl ≤ 2048) (hi : i + 4 ≤ sl) (hF : FI s ρ rf) (hk : ∀ (ρ' : pR) (rf' : pF), FI s ρ' rf' → PW p_c_L_law 636 [some (.ref 0), some (.ref 1), some (.ref 146), some (.int (nI i))] [] (HP sl ρ' rf') Q) : PW p_c_L_law 462 [some (.ref 0), some (.ref 1), some (.ref 146), some (.int (nI i))] [] (HP sl ρ rf) Q := by
  have h0 := hF.2.1
  obtain ⟨v, ρ1, rf1, ρ2, hp1, hp2, hF2⟩ := o_wag (sl := sl) hF (s (i + 1))
  have h1 := (PC_0 hp1).trans h0
  refine R_la1 rfl ?_
  refine R_la0 rfl ?_
  refine R_ld3 rfl ?_
  refine R_n 1 rfl rfl ?_
  refine R_addN rfl ?_
  refine R_ald rfl sh_0 (by first | decide | omega) (by omega) (congrFun h0 _) ?_
  refine R_c1 rfl (hp1) rfl rfl rfl sh_1 rfl rfl ?_
  refine R_la2 rfl ?_
  refine R_la0 rfl ?_
  refine R_ld3 rfl ?_
  refine R_n 1 rfl rfl ?_
  refine R_addN rfl ?_
  refine R_ald rfl sh_0 (by first | decide | omega) (by omega) (congrFun h1 _) ?_
  refine R_c1 rfl (hp2) rfl rfl rfl sh_146 rfl rfl ?_
  refine B2_eqT rfl (rfl) ?_
  exact hk _ _ hF2
set_option maxRecDepth 8000 in
theorem law_21 (hsl : sl ≤ 2048) (hi : i + 4 ≤ sl) (hF : FI s ρ rf) (hk : ∀ (ρ' : pR) (rf' : pF), FI s ρ' rf' → PW p_c_L_law 636 [some (.ref 0), some (.ref 1), some (.ref 146), some (.int (nI i))] [] (HP sl ρ' rf') Q) : PW p_c_L_law 479 [some (.ref 0), some (.ref 1), some (.ref 146), some (.int (nI i))] [] (HP sl ρ rf) Q := by
  have h0 := hF.2.1
  obtain ⟨v, ρ1, rf1, ρ2, hp1, hp2, hF2⟩ := o_needed (sl := sl) hF (s (i + 1))
  have h1 := (PC_0 hp1).trans h0
  refine R_la1 rfl ?_
  refine R_la0 rfl ?_
  refine R_ld3 rfl ?_
  refine R_n 1 rfl rfl ?_
  refine R_addN rfl ?_
  refine R_ald rfl sh_0 (by first | decide | omega) (by omega) (congrFun h0 _) ?_
  refine R_c1 rfl (hp1) rfl rfl rfl sh_1 rfl rfl ?_
  refine R_la2 rfl ?_
  refine R_la0 rfl ?_
  refine R_ld3 rfl ?_
  refine R_n 1 rfl rfl ?_
  refine R_addN rfl ?_
  refine R_ald rfl sh_0 (by first | decide | omega) (by omega) (congrFun h1 _) ?_
  refine R_c1 rfl (hp2) rfl rfl rfl sh_146 rfl rfl ?_
  refine B2_eqT rfl (rfl) ?_
  exact hk _ _ hF2
set_option maxRecDepth 8000 in
theorem law_22 (hsl : sl ≤ 2048) (hi : i + 4 ≤ sl) (hF : FI s ρ rf) (hk : ∀ (ρ' : pR) (rf' : pF), FI s ρ' rf' → PW p_c_L_law 636 [some (.ref 0), some (.ref 1), some (.ref 146), some (.int (nI i))] [] (HP sl ρ' rf') Q) : PW p_c_L_law 496 [some (.ref 0), some (.ref 1), some (.ref 146), some (.int (nI i))] [] (HP sl ρ rf) Q := by
  have h0 := hF.2.1
  obtain ⟨v, ρ1, rf1, ρ2, hp1, hp2, hF2⟩ := o_test (sl := sl) hF (s (i + 1))
  have h1 := (PC_0 hp1).trans h0
  refine R_la1 rfl ?_
  refine R_la0 rfl ?_
  refine R_ld3 rfl ?_
  refine R_n 1 rfl rfl ?_
  refine R_addN rfl ?_
  refine R_ald rfl sh_0 (by first | decide | omega) (by omega) (congrFun h0 _) ?_
  refine R_c1 rfl (hp1) rfl rfl rfl sh_1 rfl rfl ?_
  refine R_la2 rfl ?_
  refine R_la0 rfl ?_
  refine R_ld3 rfl ?_
  refine R_n 1 rfl rfl ?_
  refine R_addN rfl ?_
  refine R_ald rfl sh_0 (by first | decide | omega) (by omega) (congrFun h1 _) ?_
  refine R_c1 rfl (hp2) rfl rfl rfl sh_146 rfl rfl ?_
  refine B2_eqT rfl (rfl) ?_
  exact hk _ _ hF2
set_option maxRecDepth 8000 in
theorem law_23 (hsl : sl ≤ 2048) (hi : i + 4 ≤ sl) (hF : FI s ρ rf) (hk : ∀ (ρ' : pR) (rf' : pF), FI s ρ' rf' → PW p_c_L_law 636 [some (.ref 0), some (.ref 1), some (.ref 146), some (.int (nI i))] [] (HP sl ρ' rf') Q) : PW p_c_L_law 513 [some (.ref 0), some (.ref 1), some (.ref 146), some (.int (nI i))] [] (HP sl ρ rf) Q := by
  have h0 := hF.2.1
  obtain ⟨v, ρ1, rf1, ρ2, hp1, hp2, hF2⟩ := o_run (sl := sl) hF (s (i + 1))
  have h1 := (PC_0 hp1).trans h0
  refine R_la1 rfl ?_
  refine R_la0 rfl ?_
  refine R_ld3 rfl ?_
  refine R_n 1 rfl rfl ?_
  refine R_addN rfl ?_
  refine R_ald rfl sh_0 (by first | decide | omega) (by omega) (congrFun h0 _) ?_
  refine R_c1 rfl (hp1) rfl rfl rfl sh_1 rfl rfl ?_
  refine R_la2 rfl ?_
  refine R_la0 rfl ?_
  refine R_ld3 rfl ?_
  refine R_n 1 rfl rfl ?_
  refine R_addN rfl ?_
  refine R_ald rfl sh_0 (by first | decide | omega) (by omega) (congrFun h1 _) ?_
  refine R_c1 rfl (hp2) rfl rfl rfl sh_146 rfl rfl ?_
  refine B2_eqT rfl (rfl) ?_
  exact hk _ _ hF2
set_option maxRecDepth 8000 in
theorem law_24 (hsl : sl ≤ 2048) (hi : i + 4 ≤ sl) (hF : FI s ρ rf) (hk : ∀ (ρ' : pR) (rf' : pF), FI s ρ' rf' → PW p_c_L_law 636 [some (.ref 0), some (.ref 1), some (.ref 146), some (.int (nI i))] [] (HP sl ρ' rf') Q) : PW p_c_L_law 530 [some (.ref 0), some (.ref 1), some (.ref 146), some (.int (nI i))] [] (HP sl ρ rf) Q := by
  have h0 := hF.2.1
  obtain ⟨v, ρ1, rf1, ρ2, hp1, hp2, hF2⟩ := o_count (sl := sl) hF (s (i + 1))
  have h1 := (PC_0 hp1).trans h0
  refine R_la1 rfl ?_
  refine R_la0 rfl ?_
  refine R_ld3 rfl ?_
  refine R_n 1 rfl rfl ?_
  refine R_addN rfl ?_
  refine R_ald rfl sh_0 (by first | decide | omega) (by omega) (congrFun h0 _) ?_
  refine R_c1 rfl (hp1) rfl rfl rfl sh_1 rfl rfl ?_
  refine R_la2 rfl ?_
  refine R_la0 rfl ?_
  refine R_ld3 rfl ?_
  refine R_n 1 rfl rfl ?_
  refine R_addN rfl ?_
  refine R_ald rfl sh_0 (by first | decide | omega) (by omega) (congrFun h1 _) ?_
  refine R_c1 rfl (hp2) rfl rfl rfl sh_146 rfl rfl ?_
  refine B2_eqT rfl (rfl) ?_
  exact hk _ _ hF2
set_option maxRecDepth 8000 in
theorem law_25 (hsl : sl ≤ 2048) (hi : i + 4 ≤ sl) (hF : FI s ρ rf) (hk : ∀ (ρ' : pR) (rf' : pF), FI s ρ' rf' → PW p_c_L_law 636 [some (.ref 0), some (.ref 1), some (.ref 146), some (.int (nI i))] [] (HP sl ρ' rf') Q) : PW p_c_L_law 547 [some (.ref 0), some (.ref 1), some (.ref 146), some (.int (nI i))] [] (HP sl ρ rf) Q := by
  have h0 := hF.2.1
  obtain ⟨v, ρ1, rf1, ρ2, hp1, hp2, hF2⟩ := o_snap (sl := sl) hF (s (i + 1))
  have h1 := (PC_0 hp1).trans h0
  refine R_la1 rfl ?_
  refine R_la0 rfl ?_
  refine R_ld3 rfl ?_
  refine R_n 1 rfl rfl ?_
  refine R_addN rfl ?_
  refine R_ald rfl sh_0 (by first | decide | omega) (by omega) (congrFun h0 _) ?_
  refine R_c1 rfl (hp1) rfl rfl rfl sh_1 rfl rfl ?_
  refine R_la2 rfl ?_
  refine R_la0 rfl ?_
  refine R_ld3 rfl ?_
  refine R_n 1 rfl rfl ?_
  refine R_addN rfl ?_
  refine R_ald rfl sh_0 (by first | decide | omega) (by omega) (congrFun h1 _) ?_
  refine R_c1 rfl (hp2) rfl rfl rfl sh_146 rfl rfl ?_
  refine B2_eqT rfl (rfl) ?_
  exact hk _ _ hF2
set_option maxRecDepth 8000 in
theorem law_26 (hsl : sl ≤ 2048) (hi : i + 4 ≤ sl) (hF : FI s ρ rf) (hk : ∀ (ρ' : pR) (rf' : pF), FI s ρ' rf' → PW p_c_L_law 636 [some (.ref 0), some (.ref 1), some (.ref 146), some (.int (nI i))] [] (HP sl ρ' rf') Q) : PW p_c_L_law 564 [some (.ref 0), some (.ref 1), some (.ref 146), some (.int (nI i))] [] (HP sl ρ rf) Q := by
  have h0 := hF.2.1
  obtain ⟨v, ρ1, rf1, ρ2, hp1, hp2, hF2⟩ := o_rest (sl := sl) hF (s (i + 1))
  have h1 := (PC_0 hp1).trans h0
  refine R_la1 rfl ?_
  refine R_la0 rfl ?_
  refine R_ld3 rfl ?_
  refine R_n 1 rfl rfl ?_
  refine R_addN rfl ?_
  refine R_ald rfl sh_0 (by first | decide | omega) (by omega) (congrFun h0 _) ?_
  refine R_c1 rfl (hp1) rfl rfl rfl sh_1 rfl rfl ?_
  refine R_la2 rfl ?_
  refine R_la0 rfl ?_
  refine R_ld3 rfl ?_
  refine R_n 1 rfl rfl ?_
  refine R_addN rfl ?_
  refine R_ald rfl sh_0 (by first | decide | omega) (by omega) (congrFun h1 _) ?_
  refine R_c1 rfl (hp2) rfl rfl rfl sh_146 rfl rfl ?_
  refine B2_eqT rfl (rfl) ?_
  exact hk _ _ hF2
set_option maxRecDepth 8000 in
theorem law_27 (hsl : sl ≤ 2048) (hi : i + 4 ≤ sl) (hF : FI s ρ rf) (hk : ∀ (ρ' : pR) (rf' : pF), FI s ρ' rf' → PW p_c_L_law 636 [some (.ref 0), some (.ref 1), some (.ref 146), some (.int (nI i))] [] (HP sl ρ' rf') Q) : PW p_c_L_law 581 [some (.ref 0), some (.ref 1), some (.ref 146), some (.int (nI i))] [] (HP sl ρ rf) Q := by
  have h0 := hF.2.1
  obtain ⟨v, ρ1, rf1, ρ2, hp1, hp2, hF2⟩ := o_undo (sl := sl) hF
  have h1 := (PC_0 hp1).trans h0
  refine R_la1 rfl ?_
  refine R_c1 rfl (hp1) rfl rfl rfl sh_1 rfl rfl ?_
  refine R_la2 rfl ?_
  refine R_c1 rfl (hp2) rfl rfl rfl sh_146 rfl rfl ?_
  refine B2_eqT rfl (rfl) ?_
  exact hk _ _ hF2
set_option maxRecDepth 8000 in
theorem law_28 (hsl : sl ≤ 2048) (hi : i + 4 ≤ sl) (hF : FI s ρ rf) (hk : ∀ (ρ' : pR) (rf' : pF), FI s ρ' rf' → PW p_c_L_law 636 [some (.ref 0), some (.ref 1), some (.ref 146), some (.int (nI i))] [] (HP sl ρ' rf') Q) : PW p_c_L_law 588 [some (.ref 0), some (.ref 1), some (.ref 146), some (.int (nI i))] [] (HP sl ρ rf) Q := by
  have h0 := hF.2.1
  obtain ⟨v, ρ1, rf1, ρ2, hp1, hp2, hF2⟩ := o_type (sl := sl) hF (s (i + 1))
  have h1 := (PC_0 hp1).trans h0
  refine R_la1 rfl ?_
  refine R_la0 rfl ?_
  refine R_ld3 rfl ?_
  refine R_n 1 rfl rfl ?_
  refine R_addN rfl ?_
  refine R_ald rfl sh_0 (by first | decide | omega) (by omega) (congrFun h0 _) ?_
  refine R_c1 rfl (hp1) rfl rfl rfl sh_1 rfl rfl ?_
  refine R_la2 rfl ?_
  refine R_la0 rfl ?_
  refine R_ld3 rfl ?_
  refine R_n 1 rfl rfl ?_
  refine R_addN rfl ?_
  refine R_ald rfl sh_0 (by first | decide | omega) (by omega) (congrFun h1 _) ?_
  refine R_c1 rfl (hp2) rfl rfl rfl sh_146 rfl rfl ?_
  refine B2_eqT rfl (rfl) ?_
  exact hk _ _ hF2
set_option maxRecDepth 8000 in
theorem law_29 (hsl : sl ≤ 2048) (hi : i + 4 ≤ sl) (hF : FI s ρ rf) (hk : ∀ (ρ' : pR) (rf' : pF), FI s ρ' rf' → PW p_c_L_law 636 [some (.ref 0), some (.ref 1), some (.ref 146), some (.int (nI i))] [] (HP sl ρ' rf') Q) : PW p_c_L_law 605 [some (.ref 0), some (.ref 1), some (.ref 146), some (.int (nI i))] [] (HP sl ρ rf) Q := by
  have h0 := hF.2.1
  obtain ⟨v, ρ1, rf1, ρ2, hp1, hp2, hF2⟩ := o_clear (sl := sl) hF
  have h1 := (PC_0 hp1).trans h0
  refine R_la1 rfl ?_
  refine R_c1 rfl (hp1) rfl rfl rfl sh_1 rfl rfl ?_
  refine R_la2 rfl ?_
  refine R_c1 rfl (hp2) rfl rfl rfl sh_146 rfl rfl ?_
  refine B2_eqT rfl (rfl) ?_
  exact hk _ _ hF2
set_option maxRecDepth 8000 in
theorem law_30 (hsl : sl ≤ 2048) (hi : i + 4 ≤ sl) (hF : FI s ρ rf) (hk : ∀ (ρ' : pR) (rf' : pF), FI s ρ' rf' → PW p_c_L_law 636 [some (.ref 0), some (.ref 1), some (.ref 146), some (.int (nI i))] [] (HP sl ρ' rf') Q) : PW p_c_L_law 612 [some (.ref 0), some (.ref 1), some (.ref 146), some (.int (nI i))] [] (HP sl ρ rf) Q := by
  have h0 := hF.2.1
  obtain ⟨v, ρ1, rf1, ρ2, hp1, hp2, hF2⟩ := o_fault (sl := sl) hF (s (i + 1))
  have h1 := (PC_0 hp1).trans h0
  refine R_la1 rfl ?_
  refine R_la0 rfl ?_
  refine R_ld3 rfl ?_
  refine R_n 1 rfl rfl ?_
  refine R_addN rfl ?_
  refine R_ald rfl sh_0 (by first | decide | omega) (by omega) (congrFun h0 _) ?_
  refine R_c1 rfl (hp1) rfl rfl rfl sh_1 rfl rfl ?_
  refine R_la2 rfl ?_
  refine R_la0 rfl ?_
  refine R_ld3 rfl ?_
  refine R_n 1 rfl rfl ?_
  refine R_addN rfl ?_
  refine R_ald rfl sh_0 (by first | decide | omega) (by omega) (congrFun h1 _) ?_
  refine R_c1 rfl (hp2) rfl rfl rfl sh_146 rfl rfl ?_
  refine B2_eqT rfl (rfl) ?_
  exact hk _ _ hF2
set_option maxRecDepth 8000 in
theorem law_31 (hsl : sl ≤ 2048) (hi : i + 4 ≤ sl) (hF : FI s ρ rf) (hk : ∀ (ρ' : pR) (rf' : pF), FI s ρ' rf' → PW p_c_L_law 636 [some (.ref 0), some (.ref 1), some (.ref 146), some (.int (nI i))] [] (HP sl ρ' rf') Q) : PW p_c_L_law 629 [some (.ref 0), some (.ref 1), some (.ref 146), some (.int (nI i))] [] (HP sl ρ rf) Q := by
  have h0 := hF.2.1
  obtain ⟨v, ρ1, rf1, ρ2, hp1, hp2, hF2⟩ := o_read (sl := sl) hF
  have h1 := (PC_0 hp1).trans h0
  refine R_la1 rfl ?_
  refine R_c1 rfl (hp1) rfl rfl rfl sh_1 rfl rfl ?_
  refine R_la2 rfl ?_
  refine R_c1 rfl (hp2) rfl rfl rfl sh_146 rfl rfl ?_
  refine B2_eqT rfl (rfl) ?_
  exact hk _ _ hF2
set_option maxRecDepth 8000 in
theorem law_loop (hsl : sl ≤ 2048) : ∀ (f i : Nat) (ρ : pR) (rf : pF), sl - i ≤ f → i < 5000 → FI s ρ rf → PW p_c_L_law 10 [some (.ref 0), some (.ref 1), some (.ref 146), some (.int (nI i))] [] (HP sl ρ rf) (fun zz => zz.1 = some (.int 1) ∧ zz.2.1 = SH sl) := by
  intro f
  induction f with
  | zero =>
    intro i ρ rf hf hi5 hF
    refine R_ld3 rfl ?_
    refine R_la0 rfl ?_
    refine R_alen rfl sh_0 (by decide) ?_
    refine R_n 4 rfl rfl ?_
    refine R_sub rfl ?_
    refine B2_gtT rfl (law_gt hsl (by omega) (by omega)) ?_
    refine R_n 1 rfl rfl ?_
    exact R_zret1 rfl (⟨rfl, rfl⟩)
  | succ f ih =>
    intro i ρ rf hf hi5 hF
    by_cases hi : i + 4 ≤ sl
    · have h0 := hF.2.1
      have hk : ∀ (ρ' : pR) (rf' : pF), FI s ρ' rf' → PW p_c_L_law 636 [some (.ref 0), some (.ref 1), some (.ref 146), some (.int (nI i))] [] (HP sl ρ' rf') (fun zz => zz.1 = some (.int 1) ∧ zz.2.1 = SH sl) := fun ρ' rf' hF' => by
        refine R_ii3 rfl ?_
        refine R_goto rfl ?_
        rw [show nI i + 4 = nI (i + 4) from nI_add i 4]
        exact ih (i + 4) ρ' rf' (by omega) (by omega) hF'
      obtain ⟨c, hc, hcx⟩ := and31 (s i)
      refine R_ld3 rfl ?_
      refine R_la0 rfl ?_
      refine R_alen rfl sh_0 (by decide) ?_
      refine R_n 4 rfl rfl ?_
      refine R_sub rfl ?_
      refine B2_gtF rfl (law_le hsl hi) ?_
      refine R_la0 rfl ?_
      refine R_ld3 rfl ?_
      refine R_ald rfl sh_0 (by first | decide | omega) (by omega) (congrFun h0 _) ?_
      refine R_n 31 rfl rfl ?_
      refine R_and rfl ?_
      refine PW_top hcx ?_
      rcases (show c = 0 ∨ c = 1 ∨ c = 2 ∨ c = 3 ∨ c = 4 ∨ c = 5 ∨ c = 6 ∨ c = 7 ∨ c = 8 ∨ c = 9 ∨ c = 10 ∨ c = 11 ∨ c = 12 ∨ c = 13 ∨ c = 14 ∨ c = 15 ∨ c = 16 ∨ c = 17 ∨ c = 18 ∨ c = 19 ∨ c = 20 ∨ c = 21 ∨ c = 22 ∨ c = 23 ∨ c = 24 ∨ c = 25 ∨ c = 26 ∨ c = 27 ∨ c = 28 ∨ c = 29 ∨ c = 30 ∨ c = 31 by omega) with q | q | q | q | q | q | q | q | q | q | q | q | q | q | q | q | q | q | q | q | q | q | q | q | q | q | q | q | q | q | q | q
      · subst q; exact R_swN rfl (by decide) rfl (law_0 hsl hi hF hk)
      · subst q; exact R_swN rfl (by decide) rfl (law_1 hsl hi hF hk)
      · subst q; exact R_swN rfl (by decide) rfl (law_2 hsl hi hF hk)
      · subst q; exact R_swN rfl (by decide) rfl (law_3 hsl hi hF hk)
      · subst q; exact R_swN rfl (by decide) rfl (law_4 hsl hi hF hk)
      · subst q; exact R_swN rfl (by decide) rfl (law_5 hsl hi hF hk)
      · subst q; exact R_swN rfl (by decide) rfl (law_6 hsl hi hF hk)
      · subst q; exact R_swN rfl (by decide) rfl (law_7 hsl hi hF hk)
      · subst q; exact R_swN rfl (by decide) rfl (law_8 hsl hi hF hk)
      · subst q; exact R_swN rfl (by decide) rfl (law_9 hsl hi hF hk)
      · subst q; exact R_swN rfl (by decide) rfl (law_10 hsl hi hF hk)
      · subst q; exact R_swN rfl (by decide) rfl (law_11 hsl hi hF hk)
      · subst q; exact R_swN rfl (by decide) rfl (law_12 hsl hi hF hk)
      · subst q; exact R_swN rfl (by decide) rfl (law_13 hsl hi hF hk)
      · subst q; exact R_swN rfl (by decide) rfl (law_14 hsl hi hF hk)
      · subst q; exact R_swN rfl (by decide) rfl (law_15 hsl hi hF hk)
      · subst q; exact R_swN rfl (by decide) rfl (law_16 hsl hi hF hk)
      · subst q; exact R_swN rfl (by decide) rfl (law_17 hsl hi hF hk)
      · subst q; exact R_swN rfl (by decide) rfl (law_18 hsl hi hF hk)
      · subst q; exact R_swN rfl (by decide) rfl (law_19 hsl hi hF hk)
      · subst q; exact R_swN rfl (by decide) rfl (law_20 hsl hi hF hk)
      · subst q; exact R_swN rfl (by decide) rfl (law_21 hsl hi hF hk)
      · subst q; exact R_swN rfl (by decide) rfl (law_22 hsl hi hF hk)
      · subst q; exact R_swN rfl (by decide) rfl (law_23 hsl hi hF hk)
      · subst q; exact R_swN rfl (by decide) rfl (law_24 hsl hi hF hk)
      · subst q; exact R_swN rfl (by decide) rfl (law_25 hsl hi hF hk)
      · subst q; exact R_swN rfl (by decide) rfl (law_26 hsl hi hF hk)
      · subst q; exact R_swN rfl (by decide) rfl (law_27 hsl hi hF hk)
      · subst q; exact R_swN rfl (by decide) rfl (law_28 hsl hi hF hk)
      · subst q; exact R_swN rfl (by decide) rfl (law_29 hsl hi hF hk)
      · subst q; exact R_swN rfl (by decide) rfl (law_30 hsl hi hF hk)
      · subst q; exact R_swN rfl (by decide) rfl (law_31 hsl hi hF hk)
    · refine R_ld3 rfl ?_
      refine R_la0 rfl ?_
      refine R_alen rfl sh_0 (by decide) ?_
      refine R_n 4 rfl rfl ?_
      refine R_sub rfl ?_
      refine B2_gtT rfl (law_gt hsl (by omega) (by omega)) ?_
      refine R_n 1 rfl rfl ?_
      exact R_zret1 rfl (⟨rfl, rfl⟩)
end
