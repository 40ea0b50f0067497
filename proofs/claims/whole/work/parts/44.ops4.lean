/-! one call in both, on: unbridge, the motions' calls -/
section
variable {sl : Nat} {s : Nat → Int32} {ρ ρr ρn ρt σ : pR} {rf : pF} {n : Nat} {rc : Nat → Nat}
theorem ct_le {p q : Nat → Bool} : ∀ {n : Nat}, (∀ i, i < n → q i = true → p i = true) → fb_ct q n ≤ fb_ct p n
  | 0, _ => Nat.le_refl _
  | n + 1, h => by
    have ih := ct_le fun i hi => h i (Nat.lt_succ_of_lt hi)
    rw [fb_ct_succ, fb_ct_succ]
    cases hq : q n with
    | false => rw [if_neg (by decide)]; omega
    | true => rw [h n (Nat.lt_succ_self n) hq]; omega
theorem x_unbr_bad (hrf : RFok rf) (hR : Rel σ (ρ 147) n rc) (x : Int32) (h : inR n x = false) : PC 132 [.ref 146, .int x] (HP sl ρ rf) (some (.int (-1))) (HP sl ρ rf) := by
  refine PC_of (cd := p_c_X5_unbridge) (L0 := [some (.ref 146), some (.int x), none]) rfl rfl ?_
  refine R_la0 rfl ?_
  refine R_ld1 rfl ?_
  refine R_c1 rfl (x_isInput hrf hR.b.1 hR.b.2.2.1 _) rfl rfl rfl sh_146 rfl rfl ?_
  refine BB_ne rfl (fun g3 => ?_) (fun g3 => ?_)
  · revert h; simp_all
  · refine R_i rfl ?_
    exact R_iret rfl (rfl)

theorem x_unbr_np (hrf : RFok rf) (hR : Rel σ (ρ 147) n rc) {i : Nat} (hi : i < n) (h : σ 8 i = 0) : PC 132 [.ref 146, .int (nI i)] (HP sl ρ rf) (some (.int (-2))) (HP sl ρ rf) := by
  have h16 := hR.b.1
  refine PC_of (cd := p_c_X5_unbridge) (L0 := [some (.ref 146), some (.int (nI i)), none]) rfl rfl ?_
  refine R_la0 rfl ?_
  refine R_ld1 rfl ?_
  refine R_c1 rfl (x_isInput hrf hR.b.1 hR.b.2.2.1 _) rfl rfl rfl sh_146 rfl rfl ?_
  refine BB_neT rfl (inR_N hi (by omega)) ?_
  refine R_la0 rfl ?_
  refine R_ld1 rfl ?_
  refine R_n 5 rfl rfl ?_
  refine R_c1 rfl (xn_left hrf hR hi) rfl rfl rfl sh_146 rfl rfl ?_
  refine B1_neF rfl (h) ?_
  refine R_i rfl ?_
  exact R_iret rfl (rfl)

theorem x_unbr_ok (hrf : RFok rf) (hR : Rel σ (ρ 147) n rc) {i : Nat} (hi : i < n) (h : ¬ σ 8 i = 0) (hrec : PC 105 [.ref 146] (HP sl ρ rf) none (HP sl ρr rf)) (hR2 : Rel σ (ρr 147) n rc) {q : Nat} (hlk : PC 116 [.ref 146, .int (M (cS σ n))] (HP sl (u2 ρr 147 (87 + 11 * i + 5) (nI 0)) rf) (some (.int (nI q))) (HP sl ρn rf)) : PC 132 [.ref 146, .int (nI i)] (HP sl ρ rf) (some (.int (nI q))) (HP sl ρn rf) := by
  have h16 := hR.b.1
  refine PC_of (cd := p_c_X5_unbridge) (L0 := [some (.ref 146), some (.int (nI i)), none]) rfl rfl ?_
  refine R_la0 rfl ?_
  refine R_ld1 rfl ?_
  refine R_c1 rfl (x_isInput hrf hR.b.1 hR.b.2.2.1 _) rfl rfl rfl sh_146 rfl rfl ?_
  refine BB_neT rfl (inR_N hi (by omega)) ?_
  refine R_la0 rfl ?_
  refine R_ld1 rfl ?_
  refine R_n 5 rfl rfl ?_
  refine R_c1 rfl (xn_left hrf hR hi) rfl rfl rfl sh_146 rfl rfl ?_
  refine B1_neT rfl (h) ?_
  refine R_la0 rfl ?_
  refine R_c1 rfl (hrec) rfl rfl rfl sh_146 rfl rfl ?_
  refine R_la0 rfl ?_
  refine R_c1 rfl (x_closedOnes hrf hR2) rfl rfl rfl sh_146 rfl rfl ?_
  refine R_st2 rfl ?_
  refine R_la0 rfl ?_
  refine R_ld1 rfl ?_
  refine R_n 5 rfl rfl ?_
  refine R_n 0 rfl rfl ?_
  refine R_c1 rfl (x_lay hrf (by omega) (by decide) _) rfl rfl rfl sh_146 rfl rfl ?_
  refine R_la0 rfl ?_
  refine R_ld2 rfl ?_
  refine R_c1 rfl (hlk) rfl rfl rfl sh_146 rfl rfl ?_
  exact R_iret rfl (rfl)

theorem o_unbr (hF : FI s ρ rf) (x : Int32) : Ag sl s 51 132 [.int x] ρ rf := by
  obtain ⟨n, rc, t, hR, ht, ht1, hB⟩ := hF.2.2.1
  have hrf := hF.1
  have hn16 := hR.b.1
  cases hx : inR n x with
  | false => exact Ag_p hF (c_unbr_bad hrf hR.b.2.1 hn16 x hx) (x_unbr_bad hrf hR x hx)
  | true =>
  obtain ⟨i, hi, rfl⟩ := inR_c (by omega) hx
  by_cases hz : ρ 8 i = 0
  · exact Ag_p hF (c_unbr_np hrf hR.b.2.1 hn16 hi (br_if.mpr (by rw [hz]; decide))) (x_unbr_np hrf hR hi hz)
  · have hbr : br ρ i = true := br_i.mpr (by
      obtain ⟨l, hl, e⟩ := (hR.i hi).2.2.2.2.2.2.2.2.1
      rw [e] at hz ⊢
      cases l with
      | zero => exact absurd rfl hz
      | succ l => exact nI_lt (a := 0) (by omega) (by omega))
    obtain ⟨ρa, rfa, h1, h2, h3, h4, h5⟩ := FI_step (sl := sl) hF
    have hRa : Rel ρa (ρ 147) n rc := Rel_k h3 hR
    have hta : ρa 3 1 = nI t := by rw [h3 3 (by decide) (by decide)]; exact ht
    have h8a : ρa 8 = ρ 8 := h3 8 (by decide) (by decide)
    obtain ⟨ρr, r1, r2, r3, r4, r5, r6⟩ := h5 (suA (u2 ρa 8 i (nI 0)) rc (M (cS ρa n)) (M (cS (u2 ρa 8 i (nI 0)) n)) ((u2 ρa 8 i (nI 0)) 3 1) 6) (fun k hk => by rw [suA_f _ _ _ _ _ (by omega)]; (try simp (disch := omega) only [u2_at, u2_ne, up_eq, up_ne, u1_at, u1_ne]))
    have hRr : Rel ρa (ρr 147) n rc := by rw [r3]; exact hRa
    have m1 := Rel_left hRr hi (l := 0) (by decide)
    obtain ⟨μ', m3, m4⟩ := x_looks (sl := sl) (ρ := u2 ρr 147 (87 + 11 * i + 5) (nI 0)) (σ := u2 ρa 8 i (nI 0)) h2 (by rw [u2_at]; exact m1) (by (try simp (disch := omega) only [u2_at, u2_ne, up_eq, up_ne, u1_at, u1_ne]); rw [hta]; exact nI_pos' (by omega)) (M (cS ρa n))
    rw [show u1 (u2 ρr 147 (87 + 11 * i + 5) (nI 0)) 147 μ' = u1 ρr 147 μ' by rw [u2_e1, u1_u1]] at m4
    have hB3 : fb_ct (br (suA (u2 ρa 8 i (nI 0)) rc (M (cS ρa n)) (M (cS (u2 ρa 8 i (nI 0)) n)) ((u2 ρa 8 i (nI 0)) 3 1) 6)) n ≤ 3 := by
      refine Nat.le_trans (ct_le (p := br ρ) fun j hj q => ?_) hB
      unfold br at q ⊢
      rw [suA_f _ _ _ _ _ (by decide), u2_at, h8a] at q
      by_cases e : j = i
      · subst e; exact hbr
      · rw [up_ne e] at q; exact q
    exact ⟨_, _, _, _, c_unbr_ok hrf hR.b.2.1 hn16 hi hbr h1 h2 hRa.b.2.1 hRa.hc m1.b.2.1 m1.hc (fun m hm => ⟨(m1.m hm).2.1, (m1.m hm).1⟩), x_unbr_ok h2 (by rw [r2]; exact hRa) hi (by rw [h8a]; exact hz) r1 hRr m4, r6 μ' ⟨n, rc, t, m3, by rw [suA_f _ _ _ _ _ (by decide)]; (try simp (disch := omega) only [u2_at, u2_ne, up_eq, up_ne, u1_at, u1_ne]); exact hta, ht1, hB3⟩⟩
theorem low_N : ∀ n, n < 17 → M (fun i => decide (i < n)) = nI (2 ^ n - 1) := by decide +kernel
theorem mk_lo (n : Nat) (p : Nat → Bool) : ∀ k, (∀ i, n ≤ i → p i = false) → n ≤ k → mkN k p < 2 ^ n := fun k hp hk => by
  refine Nat.lt_of_lt_of_le (m := 2 ^ n) ?_ (Nat.le_refl _)
  apply Nat.lt_pow_two_of_testBit
  intro i hi
  rw [mkN_tb, hp i hi, Bool.and_false]
theorem row_rg {y : Int32} (hn : n ≤ 16) : rgI y (nI 1) (M (fun i => decide (i < n))) = (decide (¬ y = 0) && decide (y &&& (M (fun i => decide (i < n)) ^^^ (-1)) = 0)) := by
  have hp2 : 2 ^ n ≤ 2 ^ 16 := Nat.pow_le_pow_right (by decide) hn
  rw [show (2 : Nat) ^ 16 = 65536 by decide] at hp2
  have hp0 : 1 ≤ 2 ^ n := Nat.one_le_two_pow
  rw [low_N n (by omega)]
  by_cases h : y &&& (nI (2 ^ n - 1) ^^^ (-1)) = 0
  · rw [decide_eq_true h, Bool.and_true]
    have hy : y = M (fun i => decide (i < n) && bt y i) := M_eq fun i hi => by
      have q := congrArg (fun z => bt z i) h
      simp only [b_0, b_and, b_xor] at q
      rw [b_m1 i hi, ← low_N n (by omega), M_bt _ hi] at q
      by_cases e : i < n
      · simp [e, show i < 16 by omega]
      · simp [e] at q ⊢
        exact q
    obtain ⟨w, hw, hyw⟩ : ∃ w, w < 2 ^ n ∧ y = nI w := ⟨_, mk_lo n _ 16 (fun i hi => by rw [decide_eq_false (by omega)]; rfl) hn, hy⟩
    rw [hyw]
    unfold rgI
    by_cases w0 : w = 0
    · subst w0
      rw [decide_eq_false (show ¬ nI 1 ≤ nI 0 by decide), decide_eq_false (show ¬ ¬ nI 0 = 0 from fun q => q rfl), Bool.false_and]
    · rw [decide_eq_true (show nI 1 ≤ nI w from nI_le (by omega) (by omega)), decide_eq_true (show nI w ≤ nI (2 ^ n - 1) from nI_le (by omega) (by omega)), decide_eq_true (show ¬ nI w = 0 from nI_ne0 (by omega) (by omega))]
      rfl
  · rw [decide_eq_false h, Bool.and_false]
    unfold rgI
    by_cases h1 : nI 1 ≤ y
    · by_cases h2 : y ≤ nI (2 ^ n - 1)
      · exfalso
        apply h
        obtain ⟨w, hw, hyw⟩ := nI_of (x := y) (fun q => absurd q (Int32.not_lt.mpr (Int32.le_trans (show (0 : Int32) ≤ nI 1 by decide) h1)))
        rw [hyw] at h2 ⊢
        have hw2 := (nI_leI hw (by omega)).mp h2
        refine b_ext fun i hi => ?_
        rw [b_0, b_and, b_xor, b_m1 i hi, b_nI _ hi, ← low_N n (by omega), M_bt _ hi]
        by_cases e : i < n
        · simp [e, show i < 16 by omega]
        · rw [Nat.testBit_lt_two_pow (Nat.lt_of_lt_of_le (show w < 2 ^ n by omega) (Nat.pow_le_pow_right (by decide) (by omega)))]
          rfl
      · rw [decide_eq_false h2, Bool.and_false]
    · rw [decide_eq_false h1, Bool.false_and]
theorem x_row_bad (hrf : RFok rf) (hR : Rel σ (ρ 147) n rc) (x y : Int32) (h : inR 6 x = false ∨ rgI y (nI 1) (M (fun i => decide (i < n))) = false) : PC 136 [.ref 146, .int x, .int y] (HP sl ρ rf) (some (.int (-1))) (HP sl ρ rf) := by
  refine PC_of (cd := p_c_X5_row) (L0 := [some (.ref 146), some (.int x), some (.int y)]) rfl rfl ?_
  refine R_ld1 rfl ?_
  refine R_c0 rfl (x_isMotion _) rfl rfl rfl ?_
  refine BB_eq rfl (fun g2 => ?_) (fun g2 => ?_)
  · refine R_i rfl ?_
    exact R_iret rfl (rfl)
  · refine R_ld2 rfl ?_
    refine R_n 1 rfl rfl ?_
    refine R_n 1 rfl rfl ?_
    refine R_la0 rfl ?_
    refine R_getR rfl sh_146 rfl (rf_146_0 hrf) ?_
    refine R_n 1 rfl rfl ?_
    refine R_ald rfl sh_147 (by first | decide | omega) (by omega) hR.b.2.2.1 ?_
    refine R_shl rfl ?_
    refine R_n 1 rfl rfl ?_
    refine R_sub rfl ?_
    refine PW_top (show _ = M (fun i => decide (i < n)) from M_low n (by have := hR.b.1; omega)) ?_
    refine R_c0 rfl (x_in _ _ _) rfl rfl rfl ?_
    refine BB_ne rfl (fun g14 => ?_) (fun g14 => ?_)
    · revert h; simp_all
    · refine R_i rfl ?_
      exact R_iret rfl (rfl)

theorem x_row_np (hrf : RFok rf) (hR : Rel σ (ρ 147) n rc) {m : Nat} (hm : m < 6) (y : Int32) (hy : rgI y (nI 1) (M (fun i => decide (i < n))) = true) (h : bt (σ 12 0) m = true) : PC 136 [.ref 146, .int (nI m), .int y] (HP sl ρ rf) (some (.int (-2))) (HP sl ρ rf) := by
  have h16 := hR.b.1
  refine PC_of (cd := p_c_X5_row) (L0 := [some (.ref 146), some (.int (nI m)), some (.int y)]) rfl rfl ?_
  refine R_ld1 rfl ?_
  refine R_c0 rfl (x_isMotion _) rfl rfl rfl ?_
  refine BB_eqF rfl (inR_N hm (by omega)) ?_
  refine R_ld2 rfl ?_
  refine R_n 1 rfl rfl ?_
  refine R_n 1 rfl rfl ?_
  refine R_la0 rfl ?_
  refine R_getR rfl sh_146 rfl (rf_146_0 hrf) ?_
  refine R_n 1 rfl rfl ?_
  refine R_ald rfl sh_147 (by first | decide | omega) (by omega) hR.b.2.2.1 ?_
  refine R_shl rfl ?_
  refine R_n 1 rfl rfl ?_
  refine R_sub rfl ?_
  refine PW_top (show _ = M (fun i => decide (i < n)) from M_low n (by have := hR.b.1; omega)) ?_
  refine R_c0 rfl (x_in _ _ _) rfl rfl rfl ?_
  refine BB_neT rfl (hy) ?_
  refine R_la0 rfl ?_
  refine R_ld1 rfl ?_
  refine R_n 5 rfl rfl ?_
  refine R_c1 rfl (xo_runs hrf hR hm) rfl rfl rfl sh_146 rfl rfl ?_
  refine R_n 1 rfl rfl ?_
  refine B2_neF rfl (bIt.mpr h) ?_
  refine R_i rfl ?_
  exact R_iret rfl (rfl)

theorem x_row_full (hrf : RFok rf) (hR : Rel σ (ρ 147) n rc) {m : Nat} (hm : m < 6) (y : Int32) (hy : rgI y (nI 1) (M (fun i => decide (i < n))) = true) (h : bt (σ 12 0) m = false) (hr : rc m = 4) : PC 136 [.ref 146, .int (nI m), .int y] (HP sl ρ rf) (some (.int (-3))) (HP sl ρ rf) := by
  have h16 := hR.b.1
  refine PC_of (cd := p_c_X5_row) (L0 := [some (.ref 146), some (.int (nI m)), some (.int y)]) rfl rfl ?_
  refine R_ld1 rfl ?_
  refine R_c0 rfl (x_isMotion _) rfl rfl rfl ?_
  refine BB_eqF rfl (inR_N hm (by omega)) ?_
  refine R_ld2 rfl ?_
  refine R_n 1 rfl rfl ?_
  refine R_n 1 rfl rfl ?_
  refine R_la0 rfl ?_
  refine R_getR rfl sh_146 rfl (rf_146_0 hrf) ?_
  refine R_n 1 rfl rfl ?_
  refine R_ald rfl sh_147 (by first | decide | omega) (by omega) hR.b.2.2.1 ?_
  refine R_shl rfl ?_
  refine R_n 1 rfl rfl ?_
  refine R_sub rfl ?_
  refine PW_top (show _ = M (fun i => decide (i < n)) from M_low n (by have := hR.b.1; omega)) ?_
  refine R_c0 rfl (x_in _ _ _) rfl rfl rfl ?_
  refine BB_neT rfl (hy) ?_
  refine R_la0 rfl ?_
  refine R_ld1 rfl ?_
  refine R_n 5 rfl rfl ?_
  refine R_c1 rfl (xo_runs hrf hR hm) rfl rfl rfl sh_146 rfl rfl ?_
  refine R_n 1 rfl rfl ?_
  refine B2_neT rfl (bIf.mpr h) ?_
  refine R_la0 rfl ?_
  refine R_ld1 rfl ?_
  refine R_n 0 rfl rfl ?_
  refine R_c1 rfl (xo_rows hrf hR hm) rfl rfl rfl sh_146 rfl rfl ?_
  refine R_n 4 rfl rfl ?_
  refine N2_neF rfl (by omega) (by omega) (by omega) ?_
  refine R_i rfl ?_
  exact R_iret rfl (rfl)

theorem x_row_ok (hrf : RFok rf) (hR : Rel σ (ρ 147) n rc) {m : Nat} (hm : m < 6) (y : Int32) (hy : rgI y (nI 1) (M (fun i => decide (i < n))) = true) (h : bt (σ 12 0) m = false) (hr : rc m < 4) (hrec : PC 105 [.ref 146] (HP sl ρ rf) none (HP sl ρr rf)) (hR2 : Rel σ (ρr 147) n rc) (hnr : PC 135 [.ref 146, .int (nI m), .int y] (HP sl ρr rf) (some (.int (nI (rc m + 1)))) (HP sl ρn rf)) : PC 136 [.ref 146, .int (nI m), .int y] (HP sl ρ rf) (some (.int (nI (rc m + 1)))) (HP sl ρn rf) := by
  have h16 := hR.b.1
  refine PC_of (cd := p_c_X5_row) (L0 := [some (.ref 146), some (.int (nI m)), some (.int y)]) rfl rfl ?_
  refine R_ld1 rfl ?_
  refine R_c0 rfl (x_isMotion _) rfl rfl rfl ?_
  refine BB_eqF rfl (inR_N hm (by omega)) ?_
  refine R_ld2 rfl ?_
  refine R_n 1 rfl rfl ?_
  refine R_n 1 rfl rfl ?_
  refine R_la0 rfl ?_
  refine R_getR rfl sh_146 rfl (rf_146_0 hrf) ?_
  refine R_n 1 rfl rfl ?_
  refine R_ald rfl sh_147 (by first | decide | omega) (by omega) hR.b.2.2.1 ?_
  refine R_shl rfl ?_
  refine R_n 1 rfl rfl ?_
  refine R_sub rfl ?_
  refine PW_top (show _ = M (fun i => decide (i < n)) from M_low n (by have := hR.b.1; omega)) ?_
  refine R_c0 rfl (x_in _ _ _) rfl rfl rfl ?_
  refine BB_neT rfl (hy) ?_
  refine R_la0 rfl ?_
  refine R_ld1 rfl ?_
  refine R_n 5 rfl rfl ?_
  refine R_c1 rfl (xo_runs hrf hR hm) rfl rfl rfl sh_146 rfl rfl ?_
  refine R_n 1 rfl rfl ?_
  refine B2_neT rfl (bIf.mpr h) ?_
  refine R_la0 rfl ?_
  refine R_ld1 rfl ?_
  refine R_n 0 rfl rfl ?_
  refine R_c1 rfl (xo_rows hrf hR hm) rfl rfl rfl sh_146 rfl rfl ?_
  refine R_n 4 rfl rfl ?_
  refine N2_neT rfl (by omega) (by omega) (by omega) ?_
  refine R_la0 rfl ?_
  refine R_c1 rfl (hrec) rfl rfl rfl sh_146 rfl rfl ?_
  refine R_la0 rfl ?_
  refine R_ld1 rfl ?_
  refine R_ld2 rfl ?_
  refine R_c1 rfl (hnr) rfl rfl rfl sh_146 rfl rfl ?_
  exact R_iret rfl (rfl)

theorem o_row (hF : FI s ρ rf) (x y : Int32) : Ag sl s 53 136 [.int x, .int y] ρ rf := by
  obtain ⟨n, rc, t, hR, ht, ht1, hB⟩ := hF.2.2.1
  have hrf := hF.1
  have hn16 := hR.b.1
  have hrg := row_rg (y := y) hn16
  by_cases hb : inR 6 x = false ∨ rgI y (nI 1) (M (fun i => decide (i < n))) = false
  · refine Ag_p hF (c_row_bad hrf hR.b.2.1 hn16 x y ?_) (x_row_bad hrf hR x y hb)
    rcases hb with hb | hb
    · exact Or.inl hb
    · right
      rw [hrg, Bool.and_eq_false_iff] at hb
      rcases hb with hb | hb
      · exact Or.inl (Decidable.byContradiction fun q => of_decide_eq_false hb q)
      · exact Or.inr (of_decide_eq_false hb)
  · have hx : inR 6 x = true := by
      cases h : inR 6 x with
      | true => rfl
      | false => exact absurd (Or.inl h) hb
    have hy : rgI y (nI 1) (M (fun i => decide (i < n))) = true := by
      cases h : rgI y (nI 1) (M (fun i => decide (i < n))) with
      | true => rfl
      | false => exact absurd (Or.inr h) hb
    have hy2 := hy
    rw [hrg, Bool.and_eq_true] at hy2
    have y1 := of_decide_eq_true hy2.1
    have y2 := of_decide_eq_true hy2.2
    obtain ⟨m, hm, rfl⟩ := inR_c (by decide) hx
    cases hru : bt (ρ 12 0) m with
    | true => exact Ag_p hF (c_row_np hrf hR.b.2.1 hn16 hm y y1 y2 hru) (x_row_np hrf hR hm y hy hru)
    | false =>
    have hr4 := (hR.m hm).1
    by_cases h4 : rc m = 4
    · exact Ag_p hF (c_row_full hrf hR.b.2.1 hn16 hm y y1 y2 hru (by rw [← h4]; exact (hR.m hm).2.1)) (x_row_full hrf hR hm y hy hru h4)
    · have hr3 : rc m < 4 := by omega
      have h16y : is16 y := by
        have hy1 := rg_t hy
        rw [low_N n (by omega)] at hy1
        have hp2 : 2 ^ n ≤ 2 ^ 16 := Nat.pow_le_pow_right (by decide) hn16
        rw [show (2 : Nat) ^ 16 = 65536 by decide] at hp2
        have hp0 : 1 ≤ 2 ^ n := Nat.one_le_two_pow
        obtain ⟨w, hw, hyw⟩ := nI_of (x := y) (fun q => absurd q (Int32.not_lt.mpr (Int32.le_trans (show (0 : Int32) ≤ nI 1 by decide) hy1.1)))
        rw [hyw] at hy1
        have := (nI_leI hw (by omega)).mp hy1.2
        exact ⟨w, by omega, hyw⟩
      obtain ⟨ρa, rfa, h1, h2, h3, h4, h5⟩ := FI_step (sl := sl) hF
      have hRa : Rel ρa (ρ 147) n rc := Rel_k h3 hR
      have hta : ρa 3 1 = nI t := by rw [h3 3 (by decide) (by decide)]; exact ht
      have h8a : ρa 8 = ρ 8 := h3 8 (by decide) (by decide)
      obtain ⟨ρr, r1, r2, r3, r4, r5, r6⟩ := h5 (arS ρa m (rc m) y) (fun k hk => by unfold arS; (try simp (disch := omega) only [u2_at, u2_ne, up_eq, up_ne, u1_at, u1_ne]))
      have hRr : Rel ρa (ρr 147) n rc := by rw [r3]; exact hRa
      obtain ⟨μ', m1, m2⟩ := e_newRow (sl := sl) (ρ := ρr) h2 hRr hm hr3 h16y
      exact ⟨_, _, _, _, c_row_ok hrf hR.b.2.1 hn16 hm y y1 y2 hru (hR.m hm).2.1 hr3 h1 h2 (hRa.m hm).2.1, x_row_ok h2 (by rw [r2]; exact hRa) hm y hy (by rw [h3 12 (by decide) (by decide)]; exact hru) hr3 r1 hRr m2, r6 μ' ⟨n, _, t, m1, by unfold arS; (try simp (disch := omega) only [u2_at, u2_ne, up_eq, up_ne, u1_at, u1_ne]); exact hta, ht1, brc_e (by unfold arS; (try simp (disch := omega) only [u2_at, u2_ne, up_eq, up_ne, u1_at, u1_ne]); exact h8a) hB⟩⟩
theorem x_drop_bad (x : Int32) (h : inR 6 x = false) : PC 137 [.ref 146, .int x] (HP sl ρ rf) (some (.int (-1))) (HP sl ρ rf) := by
  refine PC_of (cd := p_c_X5_dropRows) (L0 := [some (.ref 146), some (.int x), none]) rfl rfl ?_
  refine R_ld1 rfl ?_
  refine R_c0 rfl (x_isMotion _) rfl rfl rfl ?_
  refine BB_ne rfl (fun g2 => ?_) (fun g2 => ?_)
  · revert h; simp_all
  · refine R_i rfl ?_
    exact R_iret rfl (rfl)

theorem x_drop_np (hrf : RFok rf) (hR : Rel σ (ρ 147) n rc) {m : Nat} (hm : m < 6) (h : bt (σ 12 0) m = true) : PC 137 [.ref 146, .int (nI m)] (HP sl ρ rf) (some (.int (-2))) (HP sl ρ rf) := by
  have h16 := hR.b.1
  refine PC_of (cd := p_c_X5_dropRows) (L0 := [some (.ref 146), some (.int (nI m)), none]) rfl rfl ?_
  refine R_ld1 rfl ?_
  refine R_c0 rfl (x_isMotion _) rfl rfl rfl ?_
  refine BB_neT rfl (inR_N hm (by omega)) ?_
  refine R_la0 rfl ?_
  refine R_ld1 rfl ?_
  refine R_n 5 rfl rfl ?_
  refine R_c1 rfl (xo_runs hrf hR hm) rfl rfl rfl sh_146 rfl rfl ?_
  refine R_n 1 rfl rfl ?_
  refine B2_neF rfl (bIt.mpr h) ?_
  refine R_i rfl ?_
  exact R_iret rfl (rfl)

theorem x_drop_ok (hrf : RFok rf) (hR : Rel σ (ρ 147) n rc) {m : Nat} (hm : m < 6) (h : bt (σ 12 0) m = false) (hrec : PC 105 [.ref 146] (HP sl ρ rf) none (HP sl ρr rf)) (hR2 : Rel σ (ρr 147) n rc) : PC 137 [.ref 146, .int (nI m)] (HP sl ρ rf) (some (.int (nI (rc m)))) (HP sl (u2 ρr 147 (9 + 13 * m + 0) (nI 0)) rf) := by
  have h16 := hR.b.1
  refine PC_of (cd := p_c_X5_dropRows) (L0 := [some (.ref 146), some (.int (nI m)), none]) rfl rfl ?_
  refine R_ld1 rfl ?_
  refine R_c0 rfl (x_isMotion _) rfl rfl rfl ?_
  refine BB_neT rfl (inR_N hm (by omega)) ?_
  refine R_la0 rfl ?_
  refine R_ld1 rfl ?_
  refine R_n 5 rfl rfl ?_
  refine R_c1 rfl (xo_runs hrf hR hm) rfl rfl rfl sh_146 rfl rfl ?_
  refine R_n 1 rfl rfl ?_
  refine B2_neT rfl (bIf.mpr h) ?_
  refine R_la0 rfl ?_
  refine R_c1 rfl (hrec) rfl rfl rfl sh_146 rfl rfl ?_
  refine R_la0 rfl ?_
  refine R_ld1 rfl ?_
  refine R_n 0 rfl rfl ?_
  refine R_c1 rfl (xo_rows hrf hR2 hm) rfl rfl rfl sh_146 rfl rfl ?_
  refine R_st2 rfl ?_
  refine R_la0 rfl ?_
  refine R_ld1 rfl ?_
  refine R_n 0 rfl rfl ?_
  refine R_n 0 rfl rfl ?_
  refine R_c1 rfl (x_put hrf hm (by decide) _) rfl rfl rfl sh_146 rfl rfl ?_
  refine R_ld2 rfl ?_
  exact R_iret rfl (rfl)

theorem o_drop (hF : FI s ρ rf) (x : Int32) : Ag sl s 54 137 [.int x] ρ rf := by
  obtain ⟨n, rc, t, hR, ht, ht1, hB⟩ := hF.2.2.1
  have hrf := hF.1
  have hn16 := hR.b.1
  cases hx : inR 6 x with
  | false => exact Ag_p hF (c_drop_bad x hx) (x_drop_bad x hx)
  | true =>
  obtain ⟨m, hm, rfl⟩ := inR_c (by decide) hx
  cases hru : bt (ρ 12 0) m with
  | true => exact Ag_p hF (c_drop_np hrf hm hru) (x_drop_np hrf hR hm hru)
  | false =>
  obtain ⟨ρa, rfa, h1, h2, h3, h4, h5⟩ := FI_step (sl := sl) hF
  have hRa : Rel ρa (ρ 147) n rc := Rel_k h3 hR
  have hta : ρa 3 1 = nI t := by rw [h3 3 (by decide) (by decide)]; exact ht
  have h8a : ρa 8 = ρ 8 := h3 8 (by decide) (by decide)
  obtain ⟨ρr, r1, r2, r3, r4, r5, r6⟩ := h5 (u2 ρa 14 m (nI 0)) (fun k hk => by (try simp (disch := omega) only [u2_at, u2_ne, up_eq, up_ne, u1_at, u1_ne]))
  have hRr : Rel ρa (ρr 147) n rc := by rw [r3]; exact hRa
  have hrua : bt (ρa 12 0) m = false := by rw [h3 12 (by decide) (by decide)]; exact hru
  have hc0 := c_drop_ok (sl := sl) hrf hm hru h1 h2
  rw [(hRa.m hm).2.1] at hc0
  exact ⟨_, _, _, _, hc0, x_drop_ok h2 (by rw [r2]; exact hRa) hm hrua r1 hRr, by rw [u2_e1]; exact r6 _ ⟨n, _, t, Rel_drop hRr hm hrua, by (try simp (disch := omega) only [u2_at, u2_ne, up_eq, up_ne, u1_at, u1_ne]); exact hta, ht1, brc_e (by (try simp (disch := omega) only [u2_at, u2_ne, up_eq, up_ne, u1_at, u1_ne]); exact h8a) hB⟩⟩
theorem x_excl_bad (x y z : Int32) (h : inR 6 x = false ∨ inR 6 y = false ∨ x = y ∨ inR 2 z = false) : PC 139 [.ref 146, .int x, .int y, .int z] (HP sl ρ rf) (some (.int (-1))) (HP sl ρ rf) := by
  refine PC_of (cd := p_c_X5_exclude) (L0 := [some (.ref 146), some (.int x), some (.int y), some (.int z), none]) rfl rfl ?_
  refine R_ld1 rfl ?_
  refine R_c0 rfl (x_isMotion _) rfl rfl rfl ?_
  refine BB_eq rfl (fun g2 => ?_) (fun g2 => ?_)
  · refine R_i rfl ?_
    exact R_iret rfl (rfl)
  · refine R_ld2 rfl ?_
    refine R_c0 rfl (x_isMotion _) rfl rfl rfl ?_
    refine BB_eq rfl (fun g5 => ?_) (fun g5 => ?_)
    · refine R_i rfl ?_
      exact R_iret rfl (rfl)
    · refine R_ld1 rfl ?_
      refine R_ld2 rfl ?_
      refine B2_eq rfl (fun g8 => ?_) (fun g8 => ?_)
      · refine R_i rfl ?_
        exact R_iret rfl (rfl)
      · refine R_ld3 rfl ?_
        refine R_c0 rfl (x_isTwo _) rfl rfl rfl ?_
        refine BB_ne rfl (fun g11 => ?_) (fun g11 => ?_)
        · revert h; simp_all
        · refine R_i rfl ?_
          exact R_iret rfl (rfl)

theorem x_excl_np (hrf : RFok rf) (hR : Rel σ (ρ 147) n rc) {a b : Nat} (ha : a < 6) (hb : b < 6) (hab : ¬ a = b) (h1 : bt (σ 12 0) a = true) (h2 : bt (σ 12 0) b = true) : PC 139 [.ref 146, .int (nI a), .int (nI b), .int (nI 1)] (HP sl ρ rf) (some (.int (-2))) (HP sl ρ rf) := by
  have h16 := hR.b.1
  refine PC_of (cd := p_c_X5_exclude) (L0 := [some (.ref 146), some (.int (nI a)), some (.int (nI b)), some (.int (nI 1)), none]) rfl rfl ?_
  refine R_ld1 rfl ?_
  refine R_c0 rfl (x_isMotion _) rfl rfl rfl ?_
  refine BB_eqF rfl (inR_N ha (by omega)) ?_
  refine R_ld2 rfl ?_
  refine R_c0 rfl (x_isMotion _) rfl rfl rfl ?_
  refine BB_eqF rfl (inR_N hb (by omega)) ?_
  refine R_ld1 rfl ?_
  refine R_ld2 rfl ?_
  refine N2_eqF rfl (by omega) (by omega) (hab) ?_
  refine R_ld3 rfl ?_
  refine R_c0 rfl (x_isTwo _) rfl rfl rfl ?_
  refine BB_neT rfl (rfl) ?_
  refine R_ld3 rfl ?_
  refine R_n 1 rfl rfl ?_
  refine N2_neF rfl (by omega) (by omega) (by omega) ?_
  refine R_la0 rfl ?_
  refine R_ld1 rfl ?_
  refine R_n 5 rfl rfl ?_
  refine R_c1 rfl (xo_runs hrf hR ha) rfl rfl rfl sh_146 rfl rfl ?_
  refine R_n 1 rfl rfl ?_
  refine B2_neF rfl (bIt.mpr h1) ?_
  refine R_la0 rfl ?_
  refine R_ld2 rfl ?_
  refine R_n 5 rfl rfl ?_
  refine R_c1 rfl (xo_runs hrf hR hb) rfl rfl rfl sh_146 rfl rfl ?_
  refine R_n 1 rfl rfl ?_
  refine B2_neF rfl (bIt.mpr h2) ?_
  refine R_i rfl ?_
  exact R_iret rfl (rfl)

theorem x_excl_ok1a (hrf : RFok rf) (hR : Rel σ (ρ 147) n rc) {a b : Nat} (ha : a < 6) (hb : b < 6) (hab : ¬ a = b) (h1 : bt (σ 12 0) a = false) (hrec : PC 105 [.ref 146] (HP sl ρ rf) none (HP sl ρr rf)) (hR2 : Rel σ (ρr 147) n rc) (he1 : PC 138 [.ref 146, .int (nI a), .int (nI b), .int (nI 1)] (HP sl ρr rf) none (HP sl ρt rf)) (he2 : PC 138 [.ref 146, .int (nI b), .int (nI a), .int (nI 1)] (HP sl ρt rf) none (HP sl ρn rf)) : PC 139 [.ref 146, .int (nI a), .int (nI b), .int (nI 1)] (HP sl ρ rf) (some (.int (bI (bt (σ 15 a) b)))) (HP sl ρn rf) := by
  have h16 := hR.b.1
  refine PC_of (cd := p_c_X5_exclude) (L0 := [some (.ref 146), some (.int (nI a)), some (.int (nI b)), some (.int (nI 1)), none]) rfl rfl ?_
  refine R_ld1 rfl ?_
  refine R_c0 rfl (x_isMotion _) rfl rfl rfl ?_
  refine BB_eqF rfl (inR_N ha (by omega)) ?_
  refine R_ld2 rfl ?_
  refine R_c0 rfl (x_isMotion _) rfl rfl rfl ?_
  refine BB_eqF rfl (inR_N hb (by omega)) ?_
  refine R_ld1 rfl ?_
  refine R_ld2 rfl ?_
  refine N2_eqF rfl (by omega) (by omega) (hab) ?_
  refine R_ld3 rfl ?_
  refine R_c0 rfl (x_isTwo _) rfl rfl rfl ?_
  refine BB_neT rfl (rfl) ?_
  refine R_ld3 rfl ?_
  refine R_n 1 rfl rfl ?_
  refine N2_neF rfl (by omega) (by omega) (by omega) ?_
  refine R_la0 rfl ?_
  refine R_ld1 rfl ?_
  refine R_n 5 rfl rfl ?_
  refine R_c1 rfl (xo_runs hrf hR ha) rfl rfl rfl sh_146 rfl rfl ?_
  refine R_n 1 rfl rfl ?_
  refine B2_neT rfl (bIf.mpr h1) ?_
  refine R_la0 rfl ?_
  refine R_c1 rfl (hrec) rfl rfl rfl sh_146 rfl rfl ?_
  refine R_la0 rfl ?_
  refine R_ld1 rfl ?_
  refine R_n 12 rfl rfl ?_
  refine R_c1 rfl (xo_excl hrf hR2 ha) rfl rfl rfl sh_146 rfl rfl ?_
  refine R_ld2 rfl ?_
  refine R_shr rfl ?_
  refine R_n 1 rfl rfl ?_
  refine R_and rfl ?_
  refine PW_top (show _ = bI (bt (σ 15 a) b) from bit_of _ (by omega)) ?_
  refine R_st4 rfl ?_
  refine R_la0 rfl ?_
  refine R_ld1 rfl ?_
  refine R_ld2 rfl ?_
  refine R_ld3 rfl ?_
  refine R_c1 rfl (he1) rfl rfl rfl sh_146 rfl rfl ?_
  refine R_la0 rfl ?_
  refine R_ld2 rfl ?_
  refine R_ld1 rfl ?_
  refine R_ld3 rfl ?_
  refine R_c1 rfl (he2) rfl rfl rfl sh_146 rfl rfl ?_
  refine R_ld4 rfl ?_
  exact R_iret rfl (rfl)

theorem x_excl_ok1b (hrf : RFok rf) (hR : Rel σ (ρ 147) n rc) {a b : Nat} (ha : a < 6) (hb : b < 6) (hab : ¬ a = b) (h1 : bt (σ 12 0) a = true) (h2 : bt (σ 12 0) b = false) (hrec : PC 105 [.ref 146] (HP sl ρ rf) none (HP sl ρr rf)) (hR2 : Rel σ (ρr 147) n rc) (he1 : PC 138 [.ref 146, .int (nI a), .int (nI b), .int (nI 1)] (HP sl ρr rf) none (HP sl ρt rf)) (he2 : PC 138 [.ref 146, .int (nI b), .int (nI a), .int (nI 1)] (HP sl ρt rf) none (HP sl ρn rf)) : PC 139 [.ref 146, .int (nI a), .int (nI b), .int (nI 1)] (HP sl ρ rf) (some (.int (bI (bt (σ 15 a) b)))) (HP sl ρn rf) := by
  have h16 := hR.b.1
  refine PC_of (cd := p_c_X5_exclude) (L0 := [some (.ref 146), some (.int (nI a)), some (.int (nI b)), some (.int (nI 1)), none]) rfl rfl ?_
  refine R_ld1 rfl ?_
  refine R_c0 rfl (x_isMotion _) rfl rfl rfl ?_
  refine BB_eqF rfl (inR_N ha (by omega)) ?_
  refine R_ld2 rfl ?_
  refine R_c0 rfl (x_isMotion _) rfl rfl rfl ?_
  refine BB_eqF rfl (inR_N hb (by omega)) ?_
  refine R_ld1 rfl ?_
  refine R_ld2 rfl ?_
  refine N2_eqF rfl (by omega) (by omega) (hab) ?_
  refine R_ld3 rfl ?_
  refine R_c0 rfl (x_isTwo _) rfl rfl rfl ?_
  refine BB_neT rfl (rfl) ?_
  refine R_ld3 rfl ?_
  refine R_n 1 rfl rfl ?_
  refine N2_neF rfl (by omega) (by omega) (by omega) ?_
  refine R_la0 rfl ?_
  refine R_ld1 rfl ?_
  refine R_n 5 rfl rfl ?_
  refine R_c1 rfl (xo_runs hrf hR ha) rfl rfl rfl sh_146 rfl rfl ?_
  refine R_n 1 rfl rfl ?_
  refine B2_neF rfl (bIt.mpr h1) ?_
  refine R_la0 rfl ?_
  refine R_ld2 rfl ?_
  refine R_n 5 rfl rfl ?_
  refine R_c1 rfl (xo_runs hrf hR hb) rfl rfl rfl sh_146 rfl rfl ?_
  refine R_n 1 rfl rfl ?_
  refine B2_neT rfl (bIf.mpr h2) ?_
  refine R_la0 rfl ?_
  refine R_c1 rfl (hrec) rfl rfl rfl sh_146 rfl rfl ?_
  refine R_la0 rfl ?_
  refine R_ld1 rfl ?_
  refine R_n 12 rfl rfl ?_
  refine R_c1 rfl (xo_excl hrf hR2 ha) rfl rfl rfl sh_146 rfl rfl ?_
  refine R_ld2 rfl ?_
  refine R_shr rfl ?_
  refine R_n 1 rfl rfl ?_
  refine R_and rfl ?_
  refine PW_top (show _ = bI (bt (σ 15 a) b) from bit_of _ (by omega)) ?_
  refine R_st4 rfl ?_
  refine R_la0 rfl ?_
  refine R_ld1 rfl ?_
  refine R_ld2 rfl ?_
  refine R_ld3 rfl ?_
  refine R_c1 rfl (he1) rfl rfl rfl sh_146 rfl rfl ?_
  refine R_la0 rfl ?_
  refine R_ld2 rfl ?_
  refine R_ld1 rfl ?_
  refine R_ld3 rfl ?_
  refine R_c1 rfl (he2) rfl rfl rfl sh_146 rfl rfl ?_
  refine R_ld4 rfl ?_
  exact R_iret rfl (rfl)

theorem x_excl_ok0 (hrf : RFok rf) (hR : Rel σ (ρ 147) n rc) {a b : Nat} (ha : a < 6) (hb : b < 6) (hab : ¬ a = b) (hrec : PC 105 [.ref 146] (HP sl ρ rf) none (HP sl ρr rf)) (hR2 : Rel σ (ρr 147) n rc) (he1 : PC 138 [.ref 146, .int (nI a), .int (nI b), .int (nI 0)] (HP sl ρr rf) none (HP sl ρt rf)) (he2 : PC 138 [.ref 146, .int (nI b), .int (nI a), .int (nI 0)] (HP sl ρt rf) none (HP sl ρn rf)) : PC 139 [.ref 146, .int (nI a), .int (nI b), .int (nI 0)] (HP sl ρ rf) (some (.int (bI (bt (σ 15 a) b)))) (HP sl ρn rf) := by
  have h16 := hR.b.1
  refine PC_of (cd := p_c_X5_exclude) (L0 := [some (.ref 146), some (.int (nI a)), some (.int (nI b)), some (.int (nI 0)), none]) rfl rfl ?_
  refine R_ld1 rfl ?_
  refine R_c0 rfl (x_isMotion _) rfl rfl rfl ?_
  refine BB_eqF rfl (inR_N ha (by omega)) ?_
  refine R_ld2 rfl ?_
  refine R_c0 rfl (x_isMotion _) rfl rfl rfl ?_
  refine BB_eqF rfl (inR_N hb (by omega)) ?_
  refine R_ld1 rfl ?_
  refine R_ld2 rfl ?_
  refine N2_eqF rfl (by omega) (by omega) (hab) ?_
  refine R_ld3 rfl ?_
  refine R_c0 rfl (x_isTwo _) rfl rfl rfl ?_
  refine BB_neT rfl (rfl) ?_
  refine R_ld3 rfl ?_
  refine R_n 1 rfl rfl ?_
  refine N2_neT rfl (by omega) (by omega) (by omega) ?_
  refine R_la0 rfl ?_
  refine R_c1 rfl (hrec) rfl rfl rfl sh_146 rfl rfl ?_
  refine R_la0 rfl ?_
  refine R_ld1 rfl ?_
  refine R_n 12 rfl rfl ?_
  refine R_c1 rfl (xo_excl hrf hR2 ha) rfl rfl rfl sh_146 rfl rfl ?_
  refine R_ld2 rfl ?_
  refine R_shr rfl ?_
  refine R_n 1 rfl rfl ?_
  refine R_and rfl ?_
  refine PW_top (show _ = bI (bt (σ 15 a) b) from bit_of _ (by omega)) ?_
  refine R_st4 rfl ?_
  refine R_la0 rfl ?_
  refine R_ld1 rfl ?_
  refine R_ld2 rfl ?_
  refine R_ld3 rfl ?_
  refine R_c1 rfl (he1) rfl rfl rfl sh_146 rfl rfl ?_
  refine R_la0 rfl ?_
  refine R_ld2 rfl ?_
  refine R_ld1 rfl ?_
  refine R_ld3 rfl ?_
  refine R_c1 rfl (he2) rfl rfl rfl sh_146 rfl rfl ?_
  refine R_ld4 rfl ?_
  exact R_iret rfl (rfl)

theorem o_excl (hF : FI s ρ rf) (x y z : Int32) : Ag sl s 55 139 [.int x, .int y, .int z] ρ rf := by
  obtain ⟨n, rc, t, hR, ht, ht1, hB⟩ := hF.2.2.1
  have hrf := hF.1
  have hn16 := hR.b.1
  by_cases hbad : inR 6 x = false ∨ inR 6 y = false ∨ x = y ∨ inR 2 z = false
  · exact Ag_p hF (c_excl_bad hrf x y z hbad) (x_excl_bad x y z hbad)
  · have hx : inR 6 x = true := by
      cases h : inR 6 x with
      | true => rfl
      | false => exact absurd (Or.inl h) hbad
    have hy : inR 6 y = true := by
      cases h : inR 6 y with
      | true => rfl
      | false => exact absurd (Or.inr (Or.inl h)) hbad
    have hz : inR 2 z = true := by
      cases h : inR 2 z with
      | true => rfl
      | false => exact absurd (Or.inr (Or.inr (Or.inr h))) hbad
    have hxy : ¬ x = y := fun q => hbad (Or.inr (Or.inr (Or.inl q)))
    obtain ⟨a, ha, rfl⟩ := inR_c (by decide) hx
    obtain ⟨b, hb, rfl⟩ := inR_c (by decide) hy
    have hab : ¬ a = b := fun q => hxy (by rw [q])
    obtain ⟨ρa, rfa, h1, h2, h3, h4, h5⟩ := FI_step (sl := sl) hF
    have hRa : Rel ρa (ρ 147) n rc := Rel_k h3 hR
    have hta : ρa 3 1 = nI t := by rw [h3 3 (by decide) (by decide)]; exact ht
    have h8a : ρa 8 = ρ 8 := h3 8 (by decide) (by decide)
    have h12 : ρa 12 0 = ρ 12 0 := by rw [h3 12 (by decide) (by decide)]
    rcases inR_2.mp hz with rfl | rfl
    · obtain ⟨ρr, r1, r2, r3, r4, r5, r6⟩ := h5 (u2 (u2 ρa 15 a (wI (ρa 15 a) b false)) 15 b (wI ((u2 ρa 15 a (wI (ρa 15 a) b false)) 15 b) a false)) (fun k hk => by (try simp (disch := omega) only [u2_at, u2_ne, up_eq, up_ne, u1_at, u1_ne]))
      have hRr : Rel ρa (ρr 147) n rc := by rw [r3]; exact hRa
      obtain ⟨μ1, m1, m2⟩ := e_excludes (sl := sl) (ρ := ρr) (b := b) h2 hRr ha (by omega) false
      obtain ⟨μ2, m3, m4⟩ := e_excludes (sl := sl) (ρ := u1 ρr 147 μ1) (b := a) h2 (by rw [u1_at]; exact m1) hb (by omega) false
      rw [u1_u1] at m4
      exact ⟨_, _, _, _, c_excl_ok0 hrf ha hb hab  h1 h2, x_excl_ok0 h2 (by rw [r2]; exact hRa) ha hb hab  r1 hRr m2 m4, r6 μ2 ⟨n, rc, t, m3, by (try simp (disch := omega) only [u2_at, u2_ne, up_eq, up_ne, u1_at, u1_ne]); exact hta, ht1, brc_e (by (try simp (disch := omega) only [u2_at, u2_ne, up_eq, up_ne, u1_at, u1_ne]); exact h8a) hB⟩⟩
    · cases ha1 : bt (ρ 12 0) a with
      | false =>
        obtain ⟨ρr, r1, r2, r3, r4, r5, r6⟩ := h5 (u2 (u2 ρa 15 a (wI (ρa 15 a) b true)) 15 b (wI ((u2 ρa 15 a (wI (ρa 15 a) b true)) 15 b) a true)) (fun k hk => by (try simp (disch := omega) only [u2_at, u2_ne, up_eq, up_ne, u1_at, u1_ne]))
        have hRr : Rel ρa (ρr 147) n rc := by rw [r3]; exact hRa
        obtain ⟨μ1, m1, m2⟩ := e_excludes (sl := sl) (ρ := ρr) (b := b) h2 hRr ha (by omega) true
        obtain ⟨μ2, m3, m4⟩ := e_excludes (sl := sl) (ρ := u1 ρr 147 μ1) (b := a) h2 (by rw [u1_at]; exact m1) hb (by omega) true
        rw [u1_u1] at m4
        exact ⟨_, _, _, _, c_excl_ok1a hrf ha hb hab ha1 h1 h2, x_excl_ok1a h2 (by rw [r2]; exact hRa) ha hb hab (by rw [h12]; exact ha1) r1 hRr m2 m4, r6 μ2 ⟨n, rc, t, m3, by (try simp (disch := omega) only [u2_at, u2_ne, up_eq, up_ne, u1_at, u1_ne]); exact hta, ht1, brc_e (by (try simp (disch := omega) only [u2_at, u2_ne, up_eq, up_ne, u1_at, u1_ne]); exact h8a) hB⟩⟩
      | true =>
        cases hb1 : bt (ρ 12 0) b with
        | true => exact Ag_p hF (c_excl_np hrf ha hb hab ha1 hb1) (x_excl_np hrf hR ha hb hab ha1 hb1)
        | false =>
          obtain ⟨ρr, r1, r2, r3, r4, r5, r6⟩ := h5 (u2 (u2 ρa 15 a (wI (ρa 15 a) b true)) 15 b (wI ((u2 ρa 15 a (wI (ρa 15 a) b true)) 15 b) a true)) (fun k hk => by (try simp (disch := omega) only [u2_at, u2_ne, up_eq, up_ne, u1_at, u1_ne]))
          have hRr : Rel ρa (ρr 147) n rc := by rw [r3]; exact hRa
          obtain ⟨μ1, m1, m2⟩ := e_excludes (sl := sl) (ρ := ρr) (b := b) h2 hRr ha (by omega) true
          obtain ⟨μ2, m3, m4⟩ := e_excludes (sl := sl) (ρ := u1 ρr 147 μ1) (b := a) h2 (by rw [u1_at]; exact m1) hb (by omega) true
          rw [u1_u1] at m4
          exact ⟨_, _, _, _, c_excl_ok1b hrf ha hb hab ha1 hb1 h1 h2, x_excl_ok1b h2 (by rw [r2]; exact hRa) ha hb hab (by rw [h12]; exact ha1) (by rw [h12]; exact hb1) r1 hRr m2 m4, r6 μ2 ⟨n, rc, t, m3, by (try simp (disch := omega) only [u2_at, u2_ne, up_eq, up_ne, u1_at, u1_ne]); exact hta, ht1, brc_e (by (try simp (disch := omega) only [u2_at, u2_ne, up_eq, up_ne, u1_at, u1_ne]); exact h8a) hB⟩⟩
theorem x_start_bad (x : Int32) (h : inR 6 x = false) : PC 141 [.ref 146, .int x] (HP sl ρ rf) (some (.int (-1))) (HP sl ρ rf) := by
  refine PC_of (cd := p_c_X5_start) (L0 := [some (.ref 146), some (.int x)]) rfl rfl ?_
  refine R_ld1 rfl ?_
  refine R_c0 rfl (x_isMotion _) rfl rfl rfl ?_
  refine BB_ne rfl (fun g2 => ?_) (fun g2 => ?_)
  · revert h; simp_all
  · refine R_i rfl ?_
    exact R_iret rfl (rfl)

theorem x_stop_bad (x : Int32) (h : inR 6 x = false) : PC 143 [.ref 146, .int x] (HP sl ρ rf) (some (.int (-1))) (HP sl ρ rf) := by
  refine PC_of (cd := p_c_X5_stop) (L0 := [some (.ref 146), some (.int x)]) rfl rfl ?_
  refine R_ld1 rfl ?_
  refine R_c0 rfl (x_isMotion _) rfl rfl rfl ?_
  refine BB_ne rfl (fun g2 => ?_) (fun g2 => ?_)
  · revert h; simp_all
  · refine R_i rfl ?_
    exact R_iret rfl (rfl)

theorem x_reset_bad (x : Int32) (h : inR 6 x = false) : PC 144 [.ref 146, .int x] (HP sl ρ rf) (some (.int (-1))) (HP sl ρ rf) := by
  refine PC_of (cd := p_c_X5_reset) (L0 := [some (.ref 146), some (.int x), none]) rfl rfl ?_
  refine R_ld1 rfl ?_
  refine R_c0 rfl (x_isMotion _) rfl rfl rfl ?_
  refine BB_ne rfl (fun g2 => ?_) (fun g2 => ?_)
  · revert h; simp_all
  · refine R_i rfl ?_
    exact R_iret rfl (rfl)

theorem x_why_bad (x : Int32) (h : inR 6 x = false) : PC 142 [.ref 146, .int x] (HP sl ρ rf) (some (.int (-1))) (HP sl ρ rf) := by
  refine PC_of (cd := p_c_X5_why) (L0 := [some (.ref 146), some (.int x)]) rfl rfl ?_
  refine R_ld1 rfl ?_
  refine R_c0 rfl (x_isMotion _) rfl rfl rfl ?_
  refine BB_eqT rfl (h) ?_
  refine R_i rfl ?_
  exact R_iret rfl (rfl)

theorem x_why_ok (hrf : RFok rf) (hR : Rel σ (ρ 147) n rc) {m : Nat} (hm : m < 6) : PC 142 [.ref 146, .int (nI m)] (HP sl ρ rf) (some (.int (nI (rsn (bt (σ 12 0) m) (σ 16 m) (pmI (rw0 σ m) (rc m) (M (cS σ n))) (σ 12 0 &&& σ 15 m))))) (HP sl ρ rf) := by
  refine PC_of (cd := p_c_X5_why) (L0 := [some (.ref 146), some (.int (nI m))]) rfl rfl ?_
  refine R_ld1 rfl ?_
  refine R_c0 rfl (x_isMotion _) rfl rfl rfl ?_
  refine BB_eqF rfl (inR_N hm (by omega)) ?_
  refine R_la0 rfl ?_
  refine R_ld1 rfl ?_
  refine R_c1 rfl (x_reasonOf hrf hR hm) rfl rfl rfl sh_146 rfl rfl ?_
  refine R_goto rfl ?_
  exact R_iret rfl (rfl)

theorem o_why (hF : FI s ρ rf) (x : Int32) : Ag sl s 57 142 [.int x] ρ rf := by
  obtain ⟨n, rc, t, hR, ht, ht1, hB⟩ := hF.2.2.1
  have hrf := hF.1
  have hn16 := hR.b.1
  cases hx : inR 6 x with
  | false => exact Ag_p hF (c_why_bad x hx) (x_why_bad x hx)
  | true =>
  obtain ⟨m, hm, rfl⟩ := inR_c (by decide) hx
  exact Ag_p hF (c_why_ok hrf hR.b.2.1 hn16 hR.hc hm (hR.m hm).2.1 (hR.m hm).1) (x_why_ok hrf hR hm)
theorem x_start_np (hrf : RFok rf) (hR : Rel σ (ρ 147) n rc) {m : Nat} (hm : m < 6) (h : ¬ rsn (bt (σ 12 0) m) (σ 16 m) (pmI (rw0 σ m) (rc m) (M (cS σ n))) (σ 12 0 &&& σ 15 m) = 0) : PC 141 [.ref 146, .int (nI m)] (HP sl ρ rf) (some (.int (-2))) (HP sl ρ rf) := by
  refine PC_of (cd := p_c_X5_start) (L0 := [some (.ref 146), some (.int (nI m))]) rfl rfl ?_
  refine R_ld1 rfl ?_
  refine R_c0 rfl (x_isMotion _) rfl rfl rfl ?_
  refine BB_neT rfl (inR_N hm (by omega)) ?_
  refine R_la0 rfl ?_
  refine R_ld1 rfl ?_
  refine R_c1 rfl (x_reasonOf hrf hR hm) rfl rfl rfl sh_146 rfl rfl ?_
  refine B1_eqF rfl (nI_ne0 (by omega) (by have := rsn_le (bt (σ 12 0) m) (σ 16 m) (pmI (rw0 σ m) (rc m) (M (cS σ n))) (σ 12 0 &&& σ 15 m); omega)) ?_
  refine R_i rfl ?_
  exact R_iret rfl (rfl)

theorem x_start_ok (hrf : RFok rf) (hR : Rel σ (ρ 147) n rc) {m : Nat} (hm : m < 6) (h : rsn (bt (σ 12 0) m) (σ 16 m) (pmI (rw0 σ m) (rc m) (M (cS σ n))) (σ 12 0 &&& σ 15 m) = 0) (hrec : PC 105 [.ref 146] (HP sl ρ rf) none (HP sl ρr rf)) (hR2 : Rel σ (ρr 147) n rc) {y : Int32} (h16 : is16 y) (hru : PC 117 [.ref 146] (HP sl (u2 (u2 (u2 ρr 147 (9 + 13 * m + 5) (nI 1)) 147 (9 + 13 * m + 9) (nI 0)) 147 (9 + 13 * m + 10) ((u2 (u2 ρr 147 (9 + 13 * m + 5) (nI 1)) 147 (9 + 13 * m + 9) (nI 0)) 147 (9 + 13 * m + 10) + nI 1)) rf) (some (.int y)) (HP sl (u2 (u2 (u2 ρr 147 (9 + 13 * m + 5) (nI 1)) 147 (9 + 13 * m + 9) (nI 0)) 147 (9 + 13 * m + 10) ((u2 (u2 ρr 147 (9 + 13 * m + 5) (nI 1)) 147 (9 + 13 * m + 9) (nI 0)) 147 (9 + 13 * m + 10) + nI 1)) rf)) : PC 141 [.ref 146, .int (nI m)] (HP sl ρ rf) (some (.int (bcI y))) (HP sl (u2 (u2 (u2 ρr 147 (9 + 13 * m + 5) (nI 1)) 147 (9 + 13 * m + 9) (nI 0)) 147 (9 + 13 * m + 10) ((u2 (u2 ρr 147 (9 + 13 * m + 5) (nI 1)) 147 (9 + 13 * m + 9) (nI 0)) 147 (9 + 13 * m + 10) + nI 1)) rf) := by
  refine PC_of (cd := p_c_X5_start) (L0 := [some (.ref 146), some (.int (nI m))]) rfl rfl ?_
  refine R_ld1 rfl ?_
  refine R_c0 rfl (x_isMotion _) rfl rfl rfl ?_
  refine BB_neT rfl (inR_N hm (by omega)) ?_
  refine R_la0 rfl ?_
  refine R_ld1 rfl ?_
  refine R_c1 rfl (x_reasonOf hrf hR hm) rfl rfl rfl sh_146 rfl rfl ?_
  refine B1_eqT rfl (by rw [h]; rfl) ?_
  refine R_la0 rfl ?_
  refine R_c1 rfl (hrec) rfl rfl rfl sh_146 rfl rfl ?_
  refine R_la0 rfl ?_
  refine R_ld1 rfl ?_
  refine R_n 5 rfl rfl ?_
  refine R_n 1 rfl rfl ?_
  refine R_c1 rfl (x_put hrf hm (by decide) _) rfl rfl rfl sh_146 rfl rfl ?_
  refine R_la0 rfl ?_
  refine R_ld1 rfl ?_
  refine R_n 9 rfl rfl ?_
  refine R_n 0 rfl rfl ?_
  refine R_c1 rfl (x_put hrf hm (by decide) _) rfl rfl rfl sh_146 rfl rfl ?_
  refine R_la0 rfl ?_
  refine R_ld1 rfl ?_
  refine R_n 10 rfl rfl ?_
  refine R_n 1 rfl rfl ?_
  refine R_c1 rfl (x_adds hrf hm (by decide) _) rfl rfl rfl sh_146 rfl rfl ?_
  refine R_la0 rfl ?_
  refine R_c1 rfl (hru) rfl rfl rfl sh_146 rfl rfl ?_
  refine R_c0 rfl (x_bits h16) rfl rfl rfl ?_
  exact R_iret rfl (rfl)

theorem o_start (hF : FI s ρ rf) (x : Int32) : Ag sl s 56 141 [.int x] ρ rf := by
  obtain ⟨n, rc, t, hR, ht, ht1, hB⟩ := hF.2.2.1
  have hrf := hF.1
  have hn16 := hR.b.1
  cases hx : inR 6 x with
  | false => exact Ag_p hF (c_start_bad x hx) (x_start_bad x hx)
  | true =>
  obtain ⟨m, hm, rfl⟩ := inR_c (by decide) hx
  by_cases h0 : rsn (bt (ρ 12 0) m) (ρ 16 m) (pmI (rw0 ρ m) (rc m) (M (cS ρ n))) (ρ 12 0 &&& ρ 15 m) = 0
  · have hr1 : 1 ≤ rc m := by
      cases hp : pmI (rw0 ρ m) (rc m) (M (cS ρ n)) with
      | true =>
        obtain ⟨i, hi, _⟩ := an_ex hp
        omega
      | false =>
        exfalso
        rw [hp] at h0
        unfold rsn at h0
        revert h0
        (repeat' split) <;> simp_all
    obtain ⟨ρa, rfa, h1, h2, h3, h4, h5⟩ := FI_step (sl := sl) hF
    have hRa : Rel ρa (ρ 147) n rc := Rel_k h3 hR
    have hta : ρa 3 1 = nI t := by rw [h3 3 (by decide) (by decide)]; exact ht
    have h8a : ρa 8 = ρ 8 := h3 8 (by decide) (by decide)
    have hcs : cS ρa n = cS ρ n := by
      show cM ρa n (bt (ρa 3 3)) = cM ρ n (bt (ρ 3 3))
      rw [h3 3 (by decide) (by decide)]
      exact cM_c (fun k hk => h3 k (by omega) (by omega))
    have h0a : rsn (bt (ρa 12 0) m) (ρa 16 m) (pmI (rw0 ρa m) (rc m) (M (cS ρa n))) (ρa 12 0 &&& ρa 15 m) = 0 := by
      rw [hcs, h3 12 (by decide) (by decide), h3 16 (by decide) (by decide), h3 15 (by decide) (by decide), show rw0 ρa m = rw0 ρ m from by funext j; show ρa 13 _ = ρ 13 _; rw [h3 13 (by decide) (by decide)]]
      exact h0
    obtain ⟨ρr, r1, r2, r3, r4, r5, r6⟩ := h5 (begS ρa m) (fun k hk => by unfold begS; (try simp (disch := omega) only [u2_at, u2_ne, up_eq, up_ne, u1_at, u1_ne]))
    have hRr : Rel ρa (ρr 147) n rc := by rw [r3]; exact hRa
    have m1 := Rel_start hRr hm hr1
    have e : (u2 (u2 (u2 ρr 147 (9 + 13 * m + 5) (nI 1)) 147 (9 + 13 * m + 9) (nI 0)) 147 (9 + 13 * m + 10) ((u2 (u2 ρr 147 (9 + 13 * m + 5) (nI 1)) 147 (9 + 13 * m + 9) (nI 0)) 147 (9 + 13 * m + 10) + nI 1)) = u1 ρr 147 (upd (upd (upd (ρr 147) (9 + 13 * m + 5) (nI 1)) (9 + 13 * m + 9) (nI 0)) (9 + 13 * m + 10) (ρr 147 (9 + 13 * m + 10) + nI 1)) := by simp (disch := omega) only [u2_u1, u2_e1, u1_u1, u1_at, up_eq, up_ne]
    have m2 := x_running (sl := sl) (ρ := (u2 (u2 (u2 ρr 147 (9 + 13 * m + 5) (nI 1)) 147 (9 + 13 * m + 9) (nI 0)) 147 (9 + 13 * m + 10) ((u2 (u2 ρr 147 (9 + 13 * m + 5) (nI 1)) 147 (9 + 13 * m + 9) (nI 0)) 147 (9 + 13 * m + 10) + nI 1))) (σ := begS ρa m) (n := n) (rc := rc) h2 (by rw [e, u1_at]; exact m1)
    have m0 : Rel (begS ρa m) _ n rc := m1
    have hx0 := x_start_ok (sl := sl) h2 (by rw [r2]; exact hRa) hm h0a r1 hRr (by rw [m0.hr]; exact is16_M _) m2
    rw [e] at hx0
    exact ⟨_, _, _, _, c_start_ok hrf hR.b.2.1 hn16 hR.hc hm (hR.m hm).2.1 (hR.m hm).1 h0 h1 h2, hx0, r6 _ ⟨n, rc, t, m1, by (try simp (disch := omega) only [u2_at, u2_ne, up_eq, up_ne, u1_at, u1_ne]); exact hta, ht1, brc_e (by (try simp (disch := omega) only [u2_at, u2_ne, up_eq, up_ne, u1_at, u1_ne]); exact h8a) hB⟩⟩
  · exact Ag_p hF (c_start_np hrf hR.b.2.1 hn16 hR.hc hm (hR.m hm).2.1 (hR.m hm).1 h0) (x_start_np hrf hR hm h0)
theorem x_stop_np (hrf : RFok rf) (hR : Rel σ (ρ 147) n rc) {m : Nat} (hm : m < 6) (h : bt (σ 12 0) m = false) : PC 143 [.ref 146, .int (nI m)] (HP sl ρ rf) (some (.int (-2))) (HP sl ρ rf) := by
  have h16 := hR.b.1
  refine PC_of (cd := p_c_X5_stop) (L0 := [some (.ref 146), some (.int (nI m))]) rfl rfl ?_
  refine R_ld1 rfl ?_
  refine R_c0 rfl (x_isMotion _) rfl rfl rfl ?_
  refine BB_neT rfl (inR_N hm (by omega)) ?_
  refine R_la0 rfl ?_
  refine R_ld1 rfl ?_
  refine R_n 5 rfl rfl ?_
  refine R_c1 rfl (xo_runs hrf hR hm) rfl rfl rfl sh_146 rfl rfl ?_
  refine BB_neF rfl (h) ?_
  refine R_i rfl ?_
  exact R_iret rfl (rfl)

theorem x_stop_ok (hrf : RFok rf) (hR : Rel σ (ρ 147) n rc) {m : Nat} (hm : m < 6) (h : bt (σ 12 0) m = true) (hrec : PC 105 [.ref 146] (HP sl ρ rf) none (HP sl ρr rf)) (hR2 : Rel σ (ρr 147) n rc) : PC 143 [.ref 146, .int (nI m)] (HP sl ρ rf) (some (.int (σ 20 m))) (HP sl (u2 ρr 147 (9 + 13 * m + 5) (nI 0)) rf) := by
  have h16 := hR.b.1
  refine PC_of (cd := p_c_X5_stop) (L0 := [some (.ref 146), some (.int (nI m))]) rfl rfl ?_
  refine R_ld1 rfl ?_
  refine R_c0 rfl (x_isMotion _) rfl rfl rfl ?_
  refine BB_neT rfl (inR_N hm (by omega)) ?_
  refine R_la0 rfl ?_
  refine R_ld1 rfl ?_
  refine R_n 5 rfl rfl ?_
  refine R_c1 rfl (xo_runs hrf hR hm) rfl rfl rfl sh_146 rfl rfl ?_
  refine BB_neT rfl (h) ?_
  refine R_la0 rfl ?_
  refine R_c1 rfl (hrec) rfl rfl rfl sh_146 rfl rfl ?_
  refine R_la0 rfl ?_
  refine R_ld1 rfl ?_
  refine R_n 5 rfl rfl ?_
  refine R_n 0 rfl rfl ?_
  refine R_c1 rfl (x_put hrf hm (by decide) _) rfl rfl rfl sh_146 rfl rfl ?_
  refine R_la0 rfl ?_
  refine R_ld1 rfl ?_
  refine R_n 9 rfl rfl ?_
  refine R_c1 rfl (x_of hrf hm (by decide)) rfl rfl rfl sh_146 rfl rfl ?_
  refine PW_top (show _ = σ 20 m by (try simp (disch := omega) only [u2_at, u2_ne, up_eq, up_ne, u1_at, u1_ne]); exact (hR2.m hm).2.2.2.2.2.2.2.2.2.2.1) ?_
  exact R_iret rfl (rfl)

theorem o_stop (hF : FI s ρ rf) (x : Int32) : Ag sl s 58 143 [.int x] ρ rf := by
  obtain ⟨n, rc, t, hR, ht, ht1, hB⟩ := hF.2.2.1
  have hrf := hF.1
  have hn16 := hR.b.1
  cases hx : inR 6 x with
  | false => exact Ag_p hF (c_stop_bad x hx) (x_stop_bad x hx)
  | true =>
  obtain ⟨m, hm, rfl⟩ := inR_c (by decide) hx
  cases hru : bt (ρ 12 0) m with
  | false => exact Ag_p hF (c_stop_np hrf hm hru) (x_stop_np hrf hR hm hru)
  | true =>
  obtain ⟨ρa, rfa, h1, h2, h3, h4, h5⟩ := FI_step (sl := sl) hF
  have hRa : Rel ρa (ρ 147) n rc := Rel_k h3 hR
  have hta : ρa 3 1 = nI t := by rw [h3 3 (by decide) (by decide)]; exact ht
  have h8a : ρa 8 = ρ 8 := h3 8 (by decide) (by decide)
  obtain ⟨ρr, r1, r2, r3, r4, r5, r6⟩ := h5 (u2 ρa 12 0 (wI (ρa 12 0) m false)) (fun k hk => by (try simp (disch := omega) only [u2_at, u2_ne, up_eq, up_ne, u1_at, u1_ne]))
  have hRr : Rel ρa (ρr 147) n rc := by rw [r3]; exact hRa
  exact ⟨_, _, _, _, c_stop_ok hrf hm hru h1 h2, x_stop_ok h2 (by rw [r2]; exact hRa) hm (by rw [h3 12 (by decide) (by decide)]; exact hru) r1 hRr, by rw [u2_e1]; exact r6 _ ⟨n, _, t, Rel_halt hRr hm, by (try simp (disch := omega) only [u2_at, u2_ne, up_eq, up_ne, u1_at, u1_ne]); exact hta, ht1, brc_e (by (try simp (disch := omega) only [u2_at, u2_ne, up_eq, up_ne, u1_at, u1_ne]); exact h8a) hB⟩⟩
theorem x_reset_np (hrf : RFok rf) (hR : Rel σ (ρ 147) n rc) {m : Nat} (hm : m < 6) (h : σ 16 m = -1) : PC 144 [.ref 146, .int (nI m)] (HP sl ρ rf) (some (.int (-2))) (HP sl ρ rf) := by
  have h16 := hR.b.1
  refine PC_of (cd := p_c_X5_reset) (L0 := [some (.ref 146), some (.int (nI m)), none]) rfl rfl ?_
  refine R_ld1 rfl ?_
  refine R_c0 rfl (x_isMotion _) rfl rfl rfl ?_
  refine BB_neT rfl (inR_N hm (by omega)) ?_
  refine R_la0 rfl ?_
  refine R_ld1 rfl ?_
  refine R_n 6 rfl rfl ?_
  refine R_c1 rfl (xo_first hrf hR hm) rfl rfl rfl sh_146 rfl rfl ?_
  refine R_st2 rfl ?_
  refine R_ld2 rfl ?_
  refine B1_geF rfl (by rw [h]; decide) ?_
  refine R_i rfl ?_
  exact R_iret rfl (rfl)

theorem x_reset_ok (hrf : RFok rf) (hR : Rel σ (ρ 147) n rc) {m : Nat} (hm : m < 6) (h : ¬ σ 16 m = -1) (hrec : PC 105 [.ref 146] (HP sl ρ rf) none (HP sl ρr rf)) (hR2 : Rel σ (ρr 147) n rc) : PC 144 [.ref 146, .int (nI m)] (HP sl ρ rf) (some (.int (σ 16 m))) (HP sl (u2 ρr 147 (9 + 13 * m + 6) (-1)) rf) := by
  have h16 := hR.b.1
  refine PC_of (cd := p_c_X5_reset) (L0 := [some (.ref 146), some (.int (nI m)), none]) rfl rfl ?_
  refine R_ld1 rfl ?_
  refine R_c0 rfl (x_isMotion _) rfl rfl rfl ?_
  refine BB_neT rfl (inR_N hm (by omega)) ?_
  refine R_la0 rfl ?_
  refine R_ld1 rfl ?_
  refine R_n 6 rfl rfl ?_
  refine R_c1 rfl (xo_first hrf hR hm) rfl rfl rfl sh_146 rfl rfl ?_
  refine R_st2 rfl ?_
  refine R_ld2 rfl ?_
  refine B1_geT rfl (by rcases (hR.m hm).2.2.2.2.2.2.1 with e | e; exact absurd e h; exact e) ?_
  refine R_la0 rfl ?_
  refine R_c1 rfl (hrec) rfl rfl rfl sh_146 rfl rfl ?_
  refine R_la0 rfl ?_
  refine R_ld1 rfl ?_
  refine R_n 6 rfl rfl ?_
  refine R_i rfl ?_
  refine R_c1 rfl (x_put hrf hm (by decide) _) rfl rfl rfl sh_146 rfl rfl ?_
  refine R_ld2 rfl ?_
  exact R_iret rfl (rfl)

theorem o_reset (hF : FI s ρ rf) (x : Int32) : Ag sl s 59 144 [.int x] ρ rf := by
  obtain ⟨n, rc, t, hR, ht, ht1, hB⟩ := hF.2.2.1
  have hrf := hF.1
  have hn16 := hR.b.1
  cases hx : inR 6 x with
  | false => exact Ag_p hF (c_reset_bad x hx) (x_reset_bad x hx)
  | true =>
  obtain ⟨m, hm, rfl⟩ := inR_c (by decide) hx
  by_cases hz : ρ 16 m = -1
  · exact Ag_p hF (c_reset_np hrf hm hz) (x_reset_np hrf hR hm hz)
  · skip
    obtain ⟨ρa, rfa, h1, h2, h3, h4, h5⟩ := FI_step (sl := sl) hF
    have hRa : Rel ρa (ρ 147) n rc := Rel_k h3 hR
    have hta : ρa 3 1 = nI t := by rw [h3 3 (by decide) (by decide)]; exact ht
    have h8a : ρa 8 = ρ 8 := h3 8 (by decide) (by decide)
    obtain ⟨ρr, r1, r2, r3, r4, r5, r6⟩ := h5 (u2 ρa 16 m (-1)) (fun k hk => by (try simp (disch := omega) only [u2_at, u2_ne, up_eq, up_ne, u1_at, u1_ne]))
    have hRr : Rel ρa (ρr 147) n rc := by rw [r3]; exact hRa
    have e16 : ρa 16 m = ρ 16 m := by rw [h3 16 (by decide) (by decide)]
    have hx0 := x_reset_ok (sl := sl) h2 (by rw [r2]; exact hRa) hm (by rw [e16]; exact hz) r1 hRr
    rw [e16] at hx0
    exact ⟨_, _, _, _, c_reset_ok hrf hm hz h1 h2, hx0, by rw [u2_e1]; exact r6 _ ⟨n, _, t, Rel_reset hRr hm, by (try simp (disch := omega) only [u2_at, u2_ne, up_eq, up_ne, u1_at, u1_ne]); exact hta, ht1, brc_e (by (try simp (disch := omega) only [u2_at, u2_ne, up_eq, up_ne, u1_at, u1_ne]); exact h8a) hB⟩⟩
end
