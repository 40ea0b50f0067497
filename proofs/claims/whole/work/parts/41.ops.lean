/-! one call in both -/
/-- the two answer alike, and what holds between two calls holds behind them -/
def Ag (sl : Nat) (s : Nat → Int32) (k k2 : Nat) (args : List Value) (ρ : pR) (rf : pF) : Prop := ∃ (v : Int32) (ρ1 : pR) (rf1 : pF) (ρ2 : pR), PC k (.ref 1 :: args) (HP sl ρ rf) (some (.int v)) (HP sl ρ1 rf1) ∧ PC k2 (.ref 146 :: args) (HP sl ρ1 rf1) (some (.int v)) (HP sl ρ2 rf1) ∧ FI s ρ2 rf1
section
variable {sl : Nat} {s : Nat → Int32} {ρ ρr ρn σ : pR} {rf : pF} {n : Nat} {rc : Nat → Nat}
theorem Ag_p {k k2 : Nat} {args : List Value} {v : Int32} (hF : FI s ρ rf) (h1 : PC k (.ref 1 :: args) (HP sl ρ rf) (some (.int v)) (HP sl ρ rf)) (h2 : PC k2 (.ref 146 :: args) (HP sl ρ rf) (some (.int v)) (HP sl ρ rf)) : Ag sl s k k2 args ρ rf := ⟨v, ρ, rf, ρ, h1, h2, hF⟩
theorem FI_step (hF : FI s ρ rf) : ∃ (ρa : pR) (rfa : pF), PC 89 [.ref 1] (HP sl ρ rf) none (HP sl ρa rfa) ∧ RFok rfa ∧ (∀ k, 3 ≤ k → k ≤ 21 → ρa k = ρ k) ∧ (∀ k, 103 ≤ k → ρa k = ρ k) ∧
    ∀ ρ1, (∀ k, ¬ (3 ≤ k ∧ k ≤ 21) → ρ1 k = ρa k) → ∃ ρr, PC 105 [.ref 146] (HP sl ρ1 rfa) none (HP sl ρr rfa) ∧ ρ1 147 = ρ 147 ∧ ρr 147 = ρ 147 ∧ (∀ k, k ≠ 146 → k ≠ 148 → ρr k = ρ1 k) ∧ (∀ j, j ≠ 2 → ρr 146 j = ρ 146 j) ∧ ∀ μ', StR ρ1 μ' → FI s (u1 ρr 147 μ') rfa := by
  obtain ⟨ρa, rfa, p, h1, h2, h3, h4, h5⟩ := FI_rem (sl := sl) hF
  refine ⟨ρa, rfa, h1, h2, fun k k1 k2 => h3 k (by omega) (by omega), fun k k1 => h3 k (by omega) (by omega), fun ρ1 e1 => ?_⟩
  obtain ⟨h6, h7⟩ := h5 ρ1 e1
  have e147 : ρ1 147 = ρ 147 := (e1 147 (by decide)).trans (h3 147 (by decide) (by decide))
  have e146 : ρ1 146 = ρ 146 := (e1 146 (by decide)).trans (h3 146 (by decide) (by decide))
  refine ⟨rcM ρ1 p, h6, e147, (rcM_f ρ1 p (by decide)).trans e147, fun k k1 k2 => rcM_f ρ1 p ⟨k1, k2⟩, fun j hj => ?_, fun μ' hS => ?_⟩
  · unfold rcM
    split <;> rw [u2_at, up_ne hj, u1_ne (by decide), e146]
  · refine h7 _ (fun k hk => u1_ne hk) ?_
    rw [u1_at]
    exact StR_V (VEq_k fun k k1 k2 => by rw [u1_ne (by omega), rcM_f ρ1 p (by omega)]) (fun _ _ => rfl) hS
theorem x_sensor_bad (x : Int32) (h : rgI x (nI 0) (nI 5000) = false) : PC 119 [.ref 146, .int x] (HP sl ρ rf) (some (.int (-1))) (HP sl ρ rf) := by
  refine PC_of (cd := p_c_X5_sensor) (L0 := [some (.ref 146), some (.int x)]) rfl rfl ?_
  refine R_ld1 rfl ?_
  refine R_n 0 rfl rfl ?_
  refine R_n 5000 rfl rfl ?_
  refine R_c0 rfl (x_in _ _ _) rfl rfl rfl ?_
  refine BB_ne rfl (fun g4 => ?_) (fun g4 => ?_)
  · revert h; simp_all
  · refine R_i rfl ?_
    exact R_iret rfl (rfl)

theorem x_sensor_full (hrf : RFok rf) (hR : Rel σ (ρ 147) n rc) (x : Int32) (h : rgI x (nI 0) (nI 5000) = true) (hn : n = 16) : PC 119 [.ref 146, .int x] (HP sl ρ rf) (some (.int (-3))) (HP sl ρ rf) := by
  refine PC_of (cd := p_c_X5_sensor) (L0 := [some (.ref 146), some (.int x)]) rfl rfl ?_
  refine R_ld1 rfl ?_
  refine R_n 0 rfl rfl ?_
  refine R_n 5000 rfl rfl ?_
  refine R_c0 rfl (x_in _ _ _) rfl rfl rfl ?_
  refine BB_neT rfl (h) ?_
  refine R_la0 rfl ?_
  refine R_getR rfl sh_146 rfl (rf_146_0 hrf) ?_
  refine R_n 1 rfl rfl ?_
  refine R_ald rfl sh_147 (by first | decide | omega) (by omega) hR.b.2.2.1 ?_
  refine R_n 16 rfl rfl ?_
  refine N2_neF rfl (by omega) (by omega) (by omega) ?_
  refine R_i rfl ?_
  exact R_iret rfl (rfl)

theorem x_sensor_ok (hrf : RFok rf) (hR : Rel σ (ρ 147) n rc) (x : Int32) (h : rgI x (nI 0) (nI 5000) = true) (hn : n < 16) (hrec : PC 105 [.ref 146] (HP sl ρ rf) none (HP sl ρr rf)) (hR2 : Rel σ (ρr 147) n rc) (hnew : PC 118 [.ref 146, .int (nI 0), .int x, .int (-1), .int (-1)] (HP sl ρr rf) (some (.int (nI n))) (HP sl ρn rf)) : PC 119 [.ref 146, .int x] (HP sl ρ rf) (some (.int (nI n))) (HP sl ρn rf) := by
  refine PC_of (cd := p_c_X5_sensor) (L0 := [some (.ref 146), some (.int x)]) rfl rfl ?_
  refine R_ld1 rfl ?_
  refine R_n 0 rfl rfl ?_
  refine R_n 5000 rfl rfl ?_
  refine R_c0 rfl (x_in _ _ _) rfl rfl rfl ?_
  refine BB_neT rfl (h) ?_
  refine R_la0 rfl ?_
  refine R_getR rfl sh_146 rfl (rf_146_0 hrf) ?_
  refine R_n 1 rfl rfl ?_
  refine R_ald rfl sh_147 (by first | decide | omega) (by omega) hR.b.2.2.1 ?_
  refine R_n 16 rfl rfl ?_
  refine N2_neT rfl (by omega) (by omega) (by omega) ?_
  refine R_la0 rfl ?_
  refine R_c1 rfl (hrec) rfl rfl rfl sh_146 rfl rfl ?_
  refine R_la0 rfl ?_
  refine R_n 0 rfl rfl ?_
  refine R_ld1 rfl ?_
  refine R_i rfl ?_
  refine R_i rfl ?_
  refine R_c1 rfl (hnew) rfl rfl rfl sh_146 rfl rfl ?_
  exact R_iret rfl (rfl)

theorem rg_f {x : Int32} {b : Nat} (h : rgI x (nI 0) (nI b) = false) : x < 0 ∨ nI b < x := by
  unfold rgI at h
  by_cases h0 : nI 0 ≤ x
  · right
    rw [decide_eq_true h0, Bool.true_and] at h
    exact Int32.not_le.mp (of_decide_eq_false h)
  · exact Or.inl (Int32.not_le.mp h0)
theorem rg_t {x a b : Int32} (h : rgI x a b = true) : a ≤ x ∧ x ≤ b := by
  unfold rgI at h
  rw [Bool.and_eq_true] at h
  exact ⟨of_decide_eq_true h.1, of_decide_eq_true h.2⟩
theorem o_sensor (hF : FI s ρ rf) (x : Int32) : Ag sl s 42 119 [.int x] ρ rf := by
  obtain ⟨n, rc, t, hR, ht, ht1, hB⟩ := hF.2.2.1
  have hrf := hF.1
  cases hx : rgI x (nI 0) (nI 5000) with
  | false => exact Ag_p hF (c_sensor_bad x (rg_f hx)) (x_sensor_bad x hx)
  | true =>
    have hx1 := rg_t hx
    by_cases hn : n < 16
    · obtain ⟨ρa, rfa, h1, h2, h3, h4, h5⟩ := FI_step (sl := sl) hF
      have hRa : Rel ρa (ρ 147) n rc := Rel_k h3 hR
      have hn0 : ρa 3 0 = nI n := hRa.b.2.1
      obtain ⟨ρr, r1, r2, r3, r4, r5, r6⟩ := h5 (adI ρa n (-1) (-1) x) (fun k hk => by unfold adI; (try simp (disch := omega) only [u2_at, u2_ne, up_eq, up_ne, u1_at, u1_ne]))
      obtain ⟨μ', m1, m2⟩ := e_newInput (sl := sl) (ρ := ρr) h2 (by rw [r3]; exact hRa) hn (x3 := x) (kd := nI 0) (x1 := -1) (x2 := -1) rfl (Or.inl rfl) (Or.inl rfl)
      exact ⟨_, _, _, _, c_sensor_ok hrf hR.b.2.1 hn x (Int32.not_lt.mpr hx1.1) hx1.2 h1 h2 hn0, x_sensor_ok h2 (by rw [r2]; exact hRa) x hx hn r1 (by rw [r3]; exact hRa) m2, r6 μ' ⟨n + 1, rc, t, m1, by unfold adI; (try simp (disch := omega) only [u2_at, u2_ne, up_eq, up_ne, u1_at, u1_ne]); rw [h3 3 (by decide) (by decide)]; exact ht, ht1, brc_n (hR.z (Nat.le_refl n) hn).1 (by unfold adI; (try simp (disch := omega) only [u2_at, u2_ne, up_eq, up_ne, u1_at, u1_ne]); exact h3 8 (by decide) (by decide)) hB⟩⟩
    · have := hR.b.1
      have h16 : n = 16 := by omega
      exact Ag_p hF (c_sensor_full hrf (by rw [← h16]; exact hR.b.2.1) x (Int32.not_lt.mpr hx1.1) hx1.2) (x_sensor_full hrf hR x hx h16)
theorem x_lock_bad (hrf : RFok rf) (hR : Rel σ (ρ 147) n rc) (x y : Int32) (h : inR 6 x = false ∨ (¬ y = -1 ∧ inR n y = false)) : PC 120 [.ref 146, .int x, .int y] (HP sl ρ rf) (some (.int (-1))) (HP sl ρ rf) := by
  refine PC_of (cd := p_c_X5_lock) (L0 := [some (.ref 146), some (.int x), some (.int y)]) rfl rfl ?_
  refine R_ld1 rfl ?_
  refine R_c0 rfl (x_isKey _) rfl rfl rfl ?_
  refine BB_eq rfl (fun g2 => ?_) (fun g2 => ?_)
  · refine R_i rfl ?_
    exact R_iret rfl (rfl)
  · refine R_ld2 rfl ?_
    refine R_i rfl ?_
    refine B2_eq rfl (fun g5 => ?_) (fun g5 => ?_)
    · revert h; simp_all
    · refine R_la0 rfl ?_
      refine R_ld2 rfl ?_
      refine R_c1 rfl (x_isInput hrf hR.b.1 hR.b.2.2.1 _) rfl rfl rfl sh_146 rfl rfl ?_
      refine BB_ne rfl (fun g9 => ?_) (fun g9 => ?_)
      · revert h; simp_all
      · refine R_i rfl ?_
        exact R_iret rfl (rfl)

theorem x_lock_full (hrf : RFok rf) (hR : Rel σ (ρ 147) n rc) {k : Nat} (hk : k < 6) (y : Int32) (hy : y = -1 ∨ inR n y = true) (hn : n = 16) : PC 120 [.ref 146, .int (nI k), .int y] (HP sl ρ rf) (some (.int (-3))) (HP sl ρ rf) := by
  rcases hy with hy | hy
  · refine PC_of (cd := p_c_X5_lock) (L0 := [some (.ref 146), some (.int (nI k)), some (.int y)]) rfl rfl ?_
    refine R_ld1 rfl ?_
    refine R_c0 rfl (x_isKey _) rfl rfl rfl ?_
    refine BB_eqF rfl (inR_N hk (by omega)) ?_
    refine R_ld2 rfl ?_
    refine R_i rfl ?_
    refine B2_eqT rfl (hy) ?_
    refine R_la0 rfl ?_
    refine R_getR rfl sh_146 rfl (rf_146_0 hrf) ?_
    refine R_n 1 rfl rfl ?_
    refine R_ald rfl sh_147 (by first | decide | omega) (by omega) hR.b.2.2.1 ?_
    refine R_n 16 rfl rfl ?_
    refine N2_neF rfl (by omega) (by omega) (by omega) ?_
    refine R_i rfl ?_
    exact R_iret rfl (rfl)
  · refine PC_of (cd := p_c_X5_lock) (L0 := [some (.ref 146), some (.int (nI k)), some (.int y)]) rfl rfl ?_
    have hy0 : ¬ y = -1 := fun q => by rw [q] at hy; revert hy; rw [show inR n (-1) = false from inR_f1 (by decide)]; simp
    refine R_ld1 rfl ?_
    refine R_c0 rfl (x_isKey _) rfl rfl rfl ?_
    refine BB_eqF rfl (inR_N hk (by omega)) ?_
    refine R_ld2 rfl ?_
    refine R_i rfl ?_
    refine B2_eqF rfl (hy0) ?_
    refine R_la0 rfl ?_
    refine R_ld2 rfl ?_
    refine R_c1 rfl (x_isInput hrf hR.b.1 hR.b.2.2.1 _) rfl rfl rfl sh_146 rfl rfl ?_
    refine BB_neT rfl (hy) ?_
    refine R_la0 rfl ?_
    refine R_getR rfl sh_146 rfl (rf_146_0 hrf) ?_
    refine R_n 1 rfl rfl ?_
    refine R_ald rfl sh_147 (by first | decide | omega) (by omega) hR.b.2.2.1 ?_
    refine R_n 16 rfl rfl ?_
    refine N2_neF rfl (by omega) (by omega) (by omega) ?_
    refine R_i rfl ?_
    exact R_iret rfl (rfl)
theorem x_lock_ok (hrf : RFok rf) (hR : Rel σ (ρ 147) n rc) {k : Nat} (hk : k < 6) (y : Int32) (hy : y = -1 ∨ inR n y = true) (hn : n < 16) (hrec : PC 105 [.ref 146] (HP sl ρ rf) none (HP sl ρr rf)) (hR2 : Rel σ (ρr 147) n rc) (hnew : PC 118 [.ref 146, .int (nI 1), .int (nI 0), .int (nI k), .int y] (HP sl ρr rf) (some (.int (nI n))) (HP sl ρn rf)) : PC 120 [.ref 146, .int (nI k), .int y] (HP sl ρ rf) (some (.int (nI n))) (HP sl ρn rf) := by
  rcases hy with hy | hy
  · refine PC_of (cd := p_c_X5_lock) (L0 := [some (.ref 146), some (.int (nI k)), some (.int y)]) rfl rfl ?_
    refine R_ld1 rfl ?_
    refine R_c0 rfl (x_isKey _) rfl rfl rfl ?_
    refine BB_eqF rfl (inR_N hk (by omega)) ?_
    refine R_ld2 rfl ?_
    refine R_i rfl ?_
    refine B2_eqT rfl (hy) ?_
    refine R_la0 rfl ?_
    refine R_getR rfl sh_146 rfl (rf_146_0 hrf) ?_
    refine R_n 1 rfl rfl ?_
    refine R_ald rfl sh_147 (by first | decide | omega) (by omega) hR.b.2.2.1 ?_
    refine R_n 16 rfl rfl ?_
    refine N2_neT rfl (by omega) (by omega) (by omega) ?_
    refine R_la0 rfl ?_
    refine R_c1 rfl (hrec) rfl rfl rfl sh_146 rfl rfl ?_
    refine R_la0 rfl ?_
    refine R_n 1 rfl rfl ?_
    refine R_n 0 rfl rfl ?_
    refine R_ld1 rfl ?_
    refine R_ld2 rfl ?_
    refine R_c1 rfl (hnew) rfl rfl rfl sh_146 rfl rfl ?_
    exact R_iret rfl (rfl)
  · refine PC_of (cd := p_c_X5_lock) (L0 := [some (.ref 146), some (.int (nI k)), some (.int y)]) rfl rfl ?_
    have hy0 : ¬ y = -1 := fun q => by rw [q] at hy; revert hy; rw [show inR n (-1) = false from inR_f1 (by decide)]; simp
    refine R_ld1 rfl ?_
    refine R_c0 rfl (x_isKey _) rfl rfl rfl ?_
    refine BB_eqF rfl (inR_N hk (by omega)) ?_
    refine R_ld2 rfl ?_
    refine R_i rfl ?_
    refine B2_eqF rfl (hy0) ?_
    refine R_la0 rfl ?_
    refine R_ld2 rfl ?_
    refine R_c1 rfl (x_isInput hrf hR.b.1 hR.b.2.2.1 _) rfl rfl rfl sh_146 rfl rfl ?_
    refine BB_neT rfl (hy) ?_
    refine R_la0 rfl ?_
    refine R_getR rfl sh_146 rfl (rf_146_0 hrf) ?_
    refine R_n 1 rfl rfl ?_
    refine R_ald rfl sh_147 (by first | decide | omega) (by omega) hR.b.2.2.1 ?_
    refine R_n 16 rfl rfl ?_
    refine N2_neT rfl (by omega) (by omega) (by omega) ?_
    refine R_la0 rfl ?_
    refine R_c1 rfl (hrec) rfl rfl rfl sh_146 rfl rfl ?_
    refine R_la0 rfl ?_
    refine R_n 1 rfl rfl ?_
    refine R_n 0 rfl rfl ?_
    refine R_ld1 rfl ?_
    refine R_ld2 rfl ?_
    refine R_c1 rfl (hnew) rfl rfl rfl sh_146 rfl rfl ?_
    exact R_iret rfl (rfl)
theorem o_lock (hF : FI s ρ rf) (x y : Int32) : Ag sl s 43 120 [.int x, .int y] ρ rf := by
  obtain ⟨n, rc, t, hR, ht, ht1, hB⟩ := hF.2.2.1
  have hrf := hF.1
  have hn16 := hR.b.1
  by_cases hb : inR 6 x = false ∨ (¬ y = -1 ∧ inR n y = false)
  · exact Ag_p hF (c_lock_bad hrf hR.b.2.1 hn16 x y hb) (x_lock_bad hrf hR x y hb)
  · have hx : inR 6 x = true := by
      cases h : inR 6 x with
      | true => rfl
      | false => exact absurd (Or.inl h) hb
    have hy : y = -1 ∨ inR n y = true := by
      by_cases h : y = -1
      · exact Or.inl h
      · right
        cases h2 : inR n y with
        | true => rfl
        | false => exact absurd (Or.inr ⟨h, h2⟩) hb
    obtain ⟨k, hk, rfl⟩ := inR_c (by decide) hx
    by_cases hn : n < 16
    · obtain ⟨ρa, rfa, h1, h2, h3, h4, h5⟩ := FI_step (sl := sl) hF
      have hRa : Rel ρa (ρ 147) n rc := Rel_k h3 hR
      have hn0 : ρa 3 0 = nI n := hRa.b.2.1
      obtain ⟨ρr, r1, r2, r3, r4, r5, r6⟩ := h5 (adI ρa n (nI k) y (nI 0)) (fun k hk => by unfold adI; (try simp (disch := omega) only [u2_at, u2_ne, up_eq, up_ne, u1_at, u1_ne]))
      obtain ⟨μ', m1, m2⟩ := e_newInput (sl := sl) (ρ := ρr) h2 (by rw [r3]; exact hRa) hn (x3 := nI 0) (kd := nI 1) (x1 := nI k) (x2 := y) (by rw [decide_eq_true (show ¬ nI k = -1 from fun q => nIm1 (by omega) q.symm)]; rfl) (Or.inr ⟨k, hk, rfl⟩) (by
        rcases hy with hy | hy
        · exact Or.inl hy
        · obtain ⟨g, hg, e⟩ := inR_c (by omega) hy
          exact Or.inr ⟨g, hg, e⟩)
      exact ⟨_, _, _, _, c_lock_ok hrf hR.b.2.1 hn hk y hy h1 h2 hn0, x_lock_ok h2 (by rw [r2]; exact hRa) hk y hy hn r1 (by rw [r3]; exact hRa) m2, r6 μ' ⟨n + 1, rc, t, m1, by unfold adI; (try simp (disch := omega) only [u2_at, u2_ne, up_eq, up_ne, u1_at, u1_ne]); rw [h3 3 (by decide) (by decide)]; exact ht, ht1, brc_n (hR.z (Nat.le_refl n) hn).1 (by unfold adI; (try simp (disch := omega) only [u2_at, u2_ne, up_eq, up_ne, u1_at, u1_ne]); exact h3 8 (by decide) (by decide)) hB⟩⟩
    · have h16 : n = 16 := by omega
      exact Ag_p hF (c_lock_full hrf hR.b.2.1 h16 hk y hy) (x_lock_full hrf hR hk y hy h16)
theorem x_ess_bad (hrf : RFok rf) (hR : Rel σ (ρ 147) n rc) (x y : Int32) (h : inR n x = false ∨ inR 2 y = false) : PC 121 [.ref 146, .int x, .int y] (HP sl ρ rf) (some (.int (-1))) (HP sl ρ rf) := by
  refine PC_of (cd := p_c_X5_essential) (L0 := [some (.ref 146), some (.int x), some (.int y), none]) rfl rfl ?_
  refine R_la0 rfl ?_
  refine R_ld1 rfl ?_
  refine R_c1 rfl (x_isInput hrf hR.b.1 hR.b.2.2.1 _) rfl rfl rfl sh_146 rfl rfl ?_
  refine BB_eq rfl (fun g3 => ?_) (fun g3 => ?_)
  · refine R_i rfl ?_
    exact R_iret rfl (rfl)
  · refine R_ld2 rfl ?_
    refine R_c0 rfl (x_isTwo _) rfl rfl rfl ?_
    refine BB_ne rfl (fun g6 => ?_) (fun g6 => ?_)
    · revert h; simp_all
    · refine R_i rfl ?_
      exact R_iret rfl (rfl)

theorem x_ess_np (hrf : RFok rf) (hR : Rel σ (ρ 147) n rc) {i : Nat} (hi : i < n) (h : 0 < σ 8 i) : PC 121 [.ref 146, .int (nI i), .int (nI 1)] (HP sl ρ rf) (some (.int (-2))) (HP sl ρ rf) := by
  have h16 := hR.b.1
  refine PC_of (cd := p_c_X5_essential) (L0 := [some (.ref 146), some (.int (nI i)), some (.int (nI 1)), none]) rfl rfl ?_
  refine R_la0 rfl ?_
  refine R_ld1 rfl ?_
  refine R_c1 rfl (x_isInput hrf hR.b.1 hR.b.2.2.1 _) rfl rfl rfl sh_146 rfl rfl ?_
  refine BB_eqF rfl (inR_N hi (by omega)) ?_
  refine R_ld2 rfl ?_
  refine R_c0 rfl (x_isTwo _) rfl rfl rfl ?_
  refine BB_neT rfl (rfl) ?_
  refine R_ld2 rfl ?_
  refine R_n 1 rfl rfl ?_
  refine N2_neF rfl (by omega) (by omega) (rfl) ?_
  refine R_la0 rfl ?_
  refine R_ld1 rfl ?_
  refine R_n 5 rfl rfl ?_
  refine R_c1 rfl (xn_left hrf hR hi) rfl rfl rfl sh_146 rfl rfl ?_
  refine B1_leF rfl (Int32.not_le.mpr h) ?_
  refine R_i rfl ?_
  exact R_iret rfl (rfl)

theorem x_ess_ok1 (hrf : RFok rf) (hR : Rel σ (ρ 147) n rc) {i : Nat} (hi : i < n) (h : ¬ 0 < σ 8 i) (hrec : PC 105 [.ref 146] (HP sl ρ rf) none (HP sl ρr rf)) (hR2 : Rel σ (ρr 147) n rc) : PC 121 [.ref 146, .int (nI i), .int (nI 1)] (HP sl ρ rf) (some (.int (bI (bt (σ 3 4) i)))) (HP sl (u2 ρr 147 (87 + 11 * i + 2) (bI true)) rf) := by
  have h16 := hR.b.1
  refine PC_of (cd := p_c_X5_essential) (L0 := [some (.ref 146), some (.int (nI i)), some (.int (nI 1)), none]) rfl rfl ?_
  refine R_la0 rfl ?_
  refine R_ld1 rfl ?_
  refine R_c1 rfl (x_isInput hrf hR.b.1 hR.b.2.2.1 _) rfl rfl rfl sh_146 rfl rfl ?_
  refine BB_eqF rfl (inR_N hi (by omega)) ?_
  refine R_ld2 rfl ?_
  refine R_c0 rfl (x_isTwo _) rfl rfl rfl ?_
  refine BB_neT rfl (rfl) ?_
  refine R_ld2 rfl ?_
  refine R_n 1 rfl rfl ?_
  refine N2_neF rfl (by omega) (by omega) (by decide) ?_
  refine R_la0 rfl ?_
  refine R_ld1 rfl ?_
  refine R_n 5 rfl rfl ?_
  refine R_c1 rfl (xn_left hrf hR hi) rfl rfl rfl sh_146 rfl rfl ?_
  refine B1_leT rfl (Int32.not_lt.mp h) ?_
  refine R_la0 rfl ?_
  refine R_c1 rfl (hrec) rfl rfl rfl sh_146 rfl rfl ?_
  refine R_la0 rfl ?_
  refine R_ld1 rfl ?_
  refine R_n 2 rfl rfl ?_
  refine R_c1 rfl (xn_ess hrf hR2 hi) rfl rfl rfl sh_146 rfl rfl ?_
  refine R_st3 rfl ?_
  refine R_la0 rfl ?_
  refine R_ld1 rfl ?_
  refine R_n 2 rfl rfl ?_
  refine R_ld2 rfl ?_
  refine R_c1 rfl (x_lay hrf (by omega) (by decide) _) rfl rfl rfl sh_146 rfl rfl ?_
  refine R_ld3 rfl ?_
  exact R_iret rfl (rfl)

theorem x_ess_ok0 (hrf : RFok rf) (hR : Rel σ (ρ 147) n rc) {i : Nat} (hi : i < n) (hrec : PC 105 [.ref 146] (HP sl ρ rf) none (HP sl ρr rf)) (hR2 : Rel σ (ρr 147) n rc) : PC 121 [.ref 146, .int (nI i), .int (nI 0)] (HP sl ρ rf) (some (.int (bI (bt (σ 3 4) i)))) (HP sl (u2 ρr 147 (87 + 11 * i + 2) (bI false)) rf) := by
  have h16 := hR.b.1
  refine PC_of (cd := p_c_X5_essential) (L0 := [some (.ref 146), some (.int (nI i)), some (.int (nI 0)), none]) rfl rfl ?_
  refine R_la0 rfl ?_
  refine R_ld1 rfl ?_
  refine R_c1 rfl (x_isInput hrf hR.b.1 hR.b.2.2.1 _) rfl rfl rfl sh_146 rfl rfl ?_
  refine BB_eqF rfl (inR_N hi (by omega)) ?_
  refine R_ld2 rfl ?_
  refine R_c0 rfl (x_isTwo _) rfl rfl rfl ?_
  refine BB_neT rfl (rfl) ?_
  refine R_ld2 rfl ?_
  refine R_n 1 rfl rfl ?_
  refine N2_neT rfl (by omega) (by omega) (by decide) ?_
  refine R_la0 rfl ?_
  refine R_c1 rfl (hrec) rfl rfl rfl sh_146 rfl rfl ?_
  refine R_la0 rfl ?_
  refine R_ld1 rfl ?_
  refine R_n 2 rfl rfl ?_
  refine R_c1 rfl (xn_ess hrf hR2 hi) rfl rfl rfl sh_146 rfl rfl ?_
  refine R_st3 rfl ?_
  refine R_la0 rfl ?_
  refine R_ld1 rfl ?_
  refine R_n 2 rfl rfl ?_
  refine R_ld2 rfl ?_
  refine R_c1 rfl (x_lay hrf (by omega) (by decide) _) rfl rfl rfl sh_146 rfl rfl ?_
  refine R_ld3 rfl ?_
  exact R_iret rfl (rfl)

theorem br_i {i : Nat} : br σ i = true ↔ 0 < σ 8 i := ⟨fun h => of_decide_eq_true h, fun h => decide_eq_true h⟩
theorem br_if {i : Nat} : br σ i = false ↔ ¬ 0 < σ 8 i := ⟨fun h => of_decide_eq_false h, fun h => decide_eq_false h⟩
theorem o_ess (hF : FI s ρ rf) (x y : Int32) : Ag sl s 44 121 [.int x, .int y] ρ rf := by
  obtain ⟨n, rc, t, hR, ht, ht1, hB⟩ := hF.2.2.1
  have hrf := hF.1
  have hn16 := hR.b.1
  by_cases hb : inR n x = false ∨ inR 2 y = false
  · exact Ag_p hF (c_ess_bad hrf hR.b.2.1 hn16 x y hb) (x_ess_bad hrf hR x y hb)
  · have hx : inR n x = true := by
      cases h : inR n x with
      | true => rfl
      | false => exact absurd (Or.inl h) hb
    have hy : inR 2 y = true := by
      cases h : inR 2 y with
      | true => rfl
      | false => exact absurd (Or.inr h) hb
    obtain ⟨i, hi, rfl⟩ := inR_c (by omega) hx
    obtain ⟨ρa, rfa, h1, h2, h3, h4, h5⟩ := FI_step (sl := sl) hF
    have hRa : Rel ρa (ρ 147) n rc := Rel_k h3 hR
    have fin : ∀ b : Bool, ∃ ρr, PC 105 [.ref 146] (HP sl (u2 ρa 3 4 (wI (ρa 3 4) i b)) rfa) none (HP sl ρr rfa) ∧ (u2 ρa 3 4 (wI (ρa 3 4) i b)) 147 = ρ 147 ∧ ρr 147 = ρ 147 ∧ FI s (u2 ρr 147 (87 + 11 * i + 2) (bI b)) rfa := fun b => by
      obtain ⟨ρr, r1, r2, r3, r4, r5, r6⟩ := h5 (u2 ρa 3 4 (wI (ρa 3 4) i b)) (fun k hk => by (try simp (disch := omega) only [u2_at, u2_ne, up_eq, up_ne, u1_at, u1_ne]))
      refine ⟨ρr, r1, r2, r3, ?_⟩
      rw [u2_e1, r3]
      exact r6 _ ⟨n, rc, t, Rel_ess hRa hi b, by (try simp (disch := omega) only [u2_at, u2_ne, up_eq, up_ne, u1_at, u1_ne]); rw [h3 3 (by decide) (by decide)]; exact ht, ht1, brc_e (by (try simp (disch := omega) only [u2_at, u2_ne, up_eq, up_ne, u1_at, u1_ne]); exact h3 8 (by decide) (by decide)) hB⟩
    rcases inR_2.mp hy with rfl | rfl
    · obtain ⟨ρr, r1, r2, r3, r6⟩ := fin false
      exact ⟨_, _, _, _, c_ess_ok0 hrf hR.b.2.1 hn16 hi h1 h2, x_ess_ok0 h2 (by rw [r2]; exact hRa) hi r1 (by rw [r3]; exact hRa), r6⟩
    · by_cases hbr : 0 < ρ 8 i
      · exact Ag_p hF (c_ess_np hrf hR.b.2.1 hn16 hi (br_i.mpr hbr)) (x_ess_np hrf hR hi hbr)
      · obtain ⟨ρr, r1, r2, r3, r6⟩ := fin true
        have hbr2 : ¬ 0 < ρa 8 i := by rw [h3 8 (by decide) (by decide)]; exact hbr
        exact ⟨_, _, _, _, c_ess_ok1 hrf hR.b.2.1 hn16 hi (br_if.mpr hbr) h1 h2, x_ess_ok1 h2 (by rw [r2]; exact hRa) hi hbr2 r1 (by rw [r3]; exact hRa), r6⟩
end
