/-! one call in both, on: run -/
section
variable {sl : Nat} {s : Nat → Int32} {ρ ρr ρn ρt σ : pR} {rf : pF} {n : Nat} {rc : Nat → Nat}
theorem x_run_bad (x : Int32) (h : rgI x (nI 1) (nI 500) = false) : PC 153 [.ref 146, .int x] (HP sl ρ rf) (some (.int (-1))) (HP sl ρ rf) := by
  refine PC_of (cd := p_c_X5_run) (L0 := [some (.ref 146), some (.int x), none, none]) rfl rfl ?_
  refine R_ld1 rfl ?_
  refine R_n 1 rfl rfl ?_
  refine R_n 500 rfl rfl ?_
  refine R_c0 rfl (x_in _ _ _) rfl rfl rfl ?_
  refine BB_ne rfl (fun g4 => ?_) (fun g4 => ?_)
  · revert h; simp_all
  · refine R_i rfl ?_
    exact R_iret rfl (rfl)

theorem x_run_full (hrf : RFok rf) (hR : Rel σ (ρ 147) n rc) {k t : Nat} (h1 : 1 ≤ k) (h5 : k ≤ 500) (ht : σ 3 1 = nI t) (ht1 : t ≤ 100000) (h : 100000 < t + k) : PC 153 [.ref 146, .int (nI k)] (HP sl ρ rf) (some (.int (-3))) (HP sl ρ rf) := by
  refine PC_of (cd := p_c_X5_run) (L0 := [some (.ref 146), some (.int (nI k)), none, none]) rfl rfl ?_
  refine R_ld1 rfl ?_
  refine R_n 1 rfl rfl ?_
  refine R_n 500 rfl rfl ?_
  refine R_c0 rfl (x_in _ _ _) rfl rfl rfl ?_
  refine BB_neT rfl ((by unfold rgI; rw [decide_eq_true (show nI 1 ≤ nI k from nI_le h1 (by omega)), decide_eq_true (show nI k ≤ nI 500 from nI_le h5 (by decide))]; rfl)) ?_
  refine R_la0 rfl ?_
  refine R_getR rfl sh_146 rfl (rf_146_0 hrf) ?_
  refine R_n 0 rfl rfl ?_
  refine R_ald rfl sh_147 (by first | decide | omega) (by omega) (hR.b.2.2.2.1.trans ht) ?_
  refine R_ld1 rfl ?_
  refine R_addN rfl ?_
  refine R_n 100000 rfl rfl ?_
  refine N2_leF rfl (by omega) (by omega) (by omega) ?_
  refine R_i rfl ?_
  exact R_iret rfl (rfl)

theorem x_run_ok (hrf : RFok rf) (hR : Rel σ (ρ 147) n rc) {k t : Nat} (h1 : 1 ≤ k) (h5 : k ≤ 500) (ht : σ 3 1 = nI t) (ht1 : t ≤ 100000) (h : t + k ≤ 100000) (hrec : PC 105 [.ref 146] (HP sl ρ rf) none (HP sl ρr rf)) (hR2 : Rel σ (ρr 147) n rc) : ∃ μ', Rel (rnA σ n (bt (σ 3 3)) rc (k)) μ' n rc ∧ PC 153 [.ref 146, .int (nI k)] (HP sl ρ rf) (some (.int (nI (rnN σ n (bt (σ 3 3)) rc (k))))) (HP sl (u1 ρr 147 μ') rf) := by
  have hl := down (n := k) (P := fun j => ∀ μ : Nat → Int32, Rel (rnA σ n (bt (σ 3 3)) rc (j)) μ n rc → PW p_c_X5_run 23 [some (.ref 146), some (.int (nI k)), some (.int (nI (rnN σ n (bt (σ 3 3)) rc (j)))), some (.int (nI j))] [] (HP sl (u1 ρr 147 μ) rf) (fun zz => ∃ μ', Rel (rnA σ n (bt (σ 3 3)) rc (k)) μ' n rc ∧ zz = (some (.int (nI (rnN σ n (bt (σ 3 3)) rc (k)))), HP sl (u1 ρr 147 μ') rf))) ?_ ?_
  · refine PC_ex (cd := p_c_X5_run) (L0 := [some (.ref 146), some (.int (nI k)), none, none]) rfl rfl ?_
    refine R_ld1 rfl ?_
    refine R_n 1 rfl rfl ?_
    refine R_n 500 rfl rfl ?_
    refine R_c0 rfl (x_in _ _ _) rfl rfl rfl ?_
    refine BB_neT rfl ((by unfold rgI; rw [decide_eq_true (show nI 1 ≤ nI k from nI_le h1 (by omega)), decide_eq_true (show nI k ≤ nI 500 from nI_le h5 (by decide))]; rfl)) ?_
    refine R_la0 rfl ?_
    refine R_getR rfl sh_146 rfl (rf_146_0 hrf) ?_
    refine R_n 0 rfl rfl ?_
    refine R_ald rfl sh_147 (by first | decide | omega) (by omega) (hR.b.2.2.2.1.trans ht) ?_
    refine R_ld1 rfl ?_
    refine R_addN rfl ?_
    refine R_n 100000 rfl rfl ?_
    refine N2_leT rfl (by omega) (by omega) (by omega) ?_
    refine R_la0 rfl ?_
    refine R_c1 rfl (hrec) rfl rfl rfl sh_146 rfl rfl ?_
    refine R_n 0 rfl rfl ?_
    refine R_st2 rfl ?_
    refine R_n 0 rfl rfl ?_
    refine R_st3 rfl ?_
    exact PW_eq (u1_id ρr 147) (hl 0 (Nat.zero_le _) (ρr 147) hR2)
  · intro μ hμ
    refine R_ld3 rfl ?_
    refine R_ld1 rfl ?_
    refine N2_geT rfl (by omega) (by omega) (by omega) ?_
    refine R_ld2 rfl ?_
    exact R_iret rfl (⟨μ, hμ, rfl⟩)
  · intro j hj hnext μ hμ
    have hμ2 : Rel (rnA σ n (bt (σ 3 3)) rc (j)) ((u1 ρr 147 μ) 147) n rc := by rw [u1_at]; exact hμ
    obtain ⟨μ3, hμ3, hpl⟩ := e_tick (sl := sl) hrf hμ2 (by rw [rnA_t ht, nI_add]; exact nI_pos' (by omega))
    rw [rnA_3 σ n (bt (σ 3 3)) rc (by decide) j] at hμ3 hpl
    refine R_ld3 rfl ?_
    refine R_ld1 rfl ?_
    refine N2_geF rfl (by omega) (by omega) (hj) ?_
    refine R_ld2 rfl ?_
    refine R_la0 rfl ?_
    refine R_c1 rfl (hpl) rfl rfl rfl sh_146 rfl rfl ?_
    refine R_addN rfl ?_
    refine R_st2 rfl ?_
    refine R_in3 rfl rfl ?_
    refine R_goto rfl ?_
    exact PW_eq (u1_u1 _ _ _ _).symm (hnext μ3 hμ3)

theorem tkS_br {r : pR} {j i : Nat} (h : ¬ nI 0 < r 8 i) : tkS r j 8 i = r 8 i := by
  by_cases e : i = j
  · subst e
    by_cases b : r 11 i < r 3 1
    · rw [tk2 h b, u2_ne (by decide)]
    · rw [tk1 h b]
  · exact tkS_o r j 8 i e
theorem tkA_br {r : pR} {i : Nat} (h : ¬ nI 0 < r 8 i) : ∀ j, tkA r j 8 i = r 8 i
  | 0 => by show u2 r 3 1 _ 8 i = _; rw [u2_ne (by decide)]
  | j + 1 => by
    have ih := tkA_br h j
    show tkS (tkA r j) j 8 i = _
    rw [tkS_br (by rw [ih]; exact h), ih]
theorem rnA_br {σ : pR} {c : Nat → Bool} {i : Nat} (h : ¬ nI 0 < σ 8 i) : ∀ j, rnA σ n c rc j 8 i = σ 8 i
  | 0 => rfl
  | j + 1 => by
    have ih := rnA_br (c := c) h j
    show rnS _ _ _ _ 8 i = _
    unfold rnS
    rw [ctA_f _ (by decide), suA_f _ _ _ _ _ (by decide), tkA_br (by rw [ih]; exact h), ih]
theorem o_run (hF : FI s ρ rf) (x : Int32) : Ag sl s 65 153 [.int x] ρ rf := by
  obtain ⟨n, rc, t, hR, ht, ht1, hB⟩ := hF.2.2.1
  have hrf := hF.1
  have hn16 := hR.b.1
  cases hx : rgI x (nI 1) (nI 500) with
  | false =>
    refine Ag_p hF (c_run_bad x ?_) (x_run_bad x hx)
    unfold rgI at hx
    by_cases h0 : nI 1 ≤ x
    · rw [decide_eq_true h0, Bool.true_and] at hx
      exact Or.inr (Int32.not_le.mp (of_decide_eq_false hx))
    · exact Or.inl (Int32.not_le.mp h0)
  | true =>
    have hx1 := rg_t hx
    obtain ⟨k, hk, rfl⟩ := nI_of (x := x) (fun q => absurd q (Int32.not_lt.mpr (Int32.le_trans (show (0 : Int32) ≤ nI 1 by decide) hx1.1)))
    have k1 : 1 ≤ k := (nI_leI (by decide) hk).mp hx1.1
    have k5 : k ≤ 500 := (nI_leI hk (by decide)).mp hx1.2
    by_cases hful : 100000 < t + k
    · exact Ag_p hF (c_run_full hrf k1 k5 ht ht1 hful) (x_run_full hrf hR k1 k5 ht ht1 hful)
    · obtain ⟨ρa, rfa, h1, h2, h3, h4, h5⟩ := FI_step (sl := sl) hF
      have hRa : Rel ρa (ρ 147) n rc := Rel_k h3 hR
      have hta : ρa 3 1 = nI t := by rw [h3 3 (by decide) (by decide)]; exact ht
      have h8a : ρa 8 = ρ 8 := h3 8 (by decide) (by decide)
      obtain ⟨ρr, r1, r2, r3, r4, r5, r6⟩ := h5 (rnA ρa n (bt (ρa 3 3)) rc k) (fun k hk => rnA_f _ _ _ _ (by omega) _)
      have hRr : Rel ρa (ρr 147) n rc := by rw [r3]; exact hRa
      obtain ⟨μ', m1, m2⟩ := x_run_ok (sl := sl) h2 (by rw [r2]; exact hRa) k1 k5 hta ht1 (by omega) r1 hRr
      have hB3 : fb_ct (br (rnA ρa n (bt (ρa 3 3)) rc k)) n ≤ 3 := by
        refine Nat.le_trans (ct_le (p := br ρ) fun i hi q => ?_) hB
        by_cases e : nI 0 < ρ 8 i
        · exact decide_eq_true e
        · exfalso
          have q1 : nI 0 < rnA ρa n (bt (ρa 3 3)) rc k 8 i := of_decide_eq_true q
          rw [rnA_br (by rw [h8a]; exact e), h8a] at q1
          exact e q1
      exact ⟨_, _, _, _, c_run_ok hrf k1 k5 ht ht1 (by omega) h1 h2 hRa.b.2.1 hn16 hRa.hc (fun m hm => ⟨(hRa.m hm).2.1, (hRa.m hm).1⟩), m2, r6 μ' ⟨n, rc, t + k, m1, rnA_t hta _ _ _ _, by omega, hB3⟩⟩
end
