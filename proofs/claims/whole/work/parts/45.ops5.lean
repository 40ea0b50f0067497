/-! one call in both, on: motion, needed, test, count -/
section
variable {sl : Nat} {s : Nat → Int32} {ρ ρr ρn ρt σ : pR} {rf : pF} {n : Nat} {rc : Nat → Nat}
theorem x_motion_bad1 (x y : Int32) (h : inR 6 x = false) : PC 146 [.ref 146, .int x, .int y] (HP sl ρ rf) (some (.int (-1))) (HP sl ρ rf) := by
  refine PC_of (cd := p_c_X5_motion) (L0 := [some (.ref 146), some (.int x), some (.int y)]) rfl rfl ?_
  refine R_ld1 rfl ?_
  refine R_c0 rfl (x_isMotion _) rfl rfl rfl ?_
  refine BB_eq rfl (fun g2 => ?_) (fun g2 => ?_)
  · refine R_i rfl ?_
    exact R_iret rfl (rfl)
  · rw [h] at g2; cases g2

theorem x_motion_bad2 (hrf : RFok rf) (hR : Rel σ (ρ 147) n rc) {m : Nat} (hm : m < 6) (y : Int32) (h : inR 13 y = false) : PC 146 [.ref 146, .int (nI m), .int y] (HP sl ρ rf) (some (.int (-1))) (HP sl ρ rf) := by
  refine PC_of (cd := p_c_X5_motion) (L0 := [some (.ref 146), some (.int (nI m)), some (.int y)]) rfl rfl ?_
  refine R_ld1 rfl ?_
  refine R_c0 rfl (x_isMotion _) rfl rfl rfl ?_
  refine BB_eqF rfl (inR_N hm (by omega)) ?_
  refine R_ld2 rfl ?_
  refine R_n 0 rfl rfl ?_
  refine R_n 12 rfl rfl ?_
  refine R_c0 rfl (x_in _ _ _) rfl rfl rfl ?_
  refine BB_ne rfl (fun g7 => ?_) (fun g7 => ?_)
  · rw [show rgI y (nI 0) (nI 12) = inR 13 y from rg_R (k := 12) (by decide), h] at g7; cases g7
  · refine R_i rfl ?_
    exact R_iret rfl (rfl)

theorem x_motion_0 (hrf : RFok rf) (hR : Rel σ (ρ 147) n rc) {m : Nat} (hm : m < 6) : PC 146 [.ref 146, .int (nI m), .int (nI 0)] (HP sl ρ rf) (some (.int (nI (rc m)))) (HP sl ρ rf) := by
  have h16 := hR.b.1
  refine PC_of (cd := p_c_X5_motion) (L0 := [some (.ref 146), some (.int (nI m)), some (.int (nI 0))]) rfl rfl ?_
  refine R_ld1 rfl ?_
  refine R_c0 rfl (x_isMotion _) rfl rfl rfl ?_
  refine BB_eqF rfl (inR_N hm (by omega)) ?_
  refine R_ld2 rfl ?_
  refine R_n 0 rfl rfl ?_
  refine R_n 12 rfl rfl ?_
  refine R_c0 rfl (x_in _ _ _) rfl rfl rfl ?_
  refine BB_neT rfl (by decide) ?_
  refine R_ld2 rfl ?_
  refine R_swN rfl (by omega) rfl ?_
  refine R_la0 rfl ?_
  refine R_ld1 rfl ?_
  refine R_n 0 rfl rfl ?_
  refine R_c1 rfl (xo_rows hrf hR hm) rfl rfl rfl sh_146 rfl rfl ?_
  exact R_iret rfl (rfl)

theorem x_motion_1 (hrf : RFok rf) (hR : Rel σ (ρ 147) n rc) {m : Nat} (hm : m < 6) : PC 146 [.ref 146, .int (nI m), .int (nI 1)] (HP sl ρ rf) (some (.int (bI (pmI (rw0 σ m) (rc m) (M (cS σ n)))))) (HP sl ρ rf) := by
  have h16 := hR.b.1
  refine PC_of (cd := p_c_X5_motion) (L0 := [some (.ref 146), some (.int (nI m)), some (.int (nI 1))]) rfl rfl ?_
  refine R_ld1 rfl ?_
  refine R_c0 rfl (x_isMotion _) rfl rfl rfl ?_
  refine BB_eqF rfl (inR_N hm (by omega)) ?_
  refine R_ld2 rfl ?_
  refine R_n 0 rfl rfl ?_
  refine R_n 12 rfl rfl ?_
  refine R_c0 rfl (x_in _ _ _) rfl rfl rfl ?_
  refine BB_neT rfl (by decide) ?_
  refine R_ld2 rfl ?_
  refine R_swN rfl (by omega) rfl ?_
  refine R_la0 rfl ?_
  refine R_ld1 rfl ?_
  refine R_la0 rfl ?_
  refine R_c1 rfl (x_closedOnes hrf hR) rfl rfl rfl sh_146 rfl rfl ?_
  refine R_c1 rfl (x_isPerm hrf hR hm _) rfl rfl rfl sh_146 rfl rfl ?_
  refine R_c0 rfl (x_one _) rfl rfl rfl ?_
  exact R_iret rfl (rfl)

theorem x_motion_2 (hrf : RFok rf) (hR : Rel σ (ρ 147) n rc) {m : Nat} (hm : m < 6) : PC 146 [.ref 146, .int (nI m), .int (nI 2)] (HP sl ρ rf) (some (.int (bI (bt (σ 12 0) m)))) (HP sl ρ rf) := by
  have h16 := hR.b.1
  refine PC_of (cd := p_c_X5_motion) (L0 := [some (.ref 146), some (.int (nI m)), some (.int (nI 2))]) rfl rfl ?_
  refine R_ld1 rfl ?_
  refine R_c0 rfl (x_isMotion _) rfl rfl rfl ?_
  refine BB_eqF rfl (inR_N hm (by omega)) ?_
  refine R_ld2 rfl ?_
  refine R_n 0 rfl rfl ?_
  refine R_n 12 rfl rfl ?_
  refine R_c0 rfl (x_in _ _ _) rfl rfl rfl ?_
  refine BB_neT rfl (by decide) ?_
  refine R_ld2 rfl ?_
  refine R_swN rfl (by omega) rfl ?_
  refine R_la0 rfl ?_
  refine R_ld1 rfl ?_
  refine R_n 5 rfl rfl ?_
  refine R_c1 rfl (xo_runs hrf hR hm) rfl rfl rfl sh_146 rfl rfl ?_
  exact R_iret rfl (rfl)

theorem x_motion_3 (hrf : RFok rf) (hR : Rel σ (ρ 147) n rc) {m : Nat} (hm : m < 6) : PC 146 [.ref 146, .int (nI m), .int (nI 3)] (HP sl ρ rf) (some (.int (onf (σ 16 m)))) (HP sl ρ rf) := by
  have h16 := hR.b.1
  refine PC_of (cd := p_c_X5_motion) (L0 := [some (.ref 146), some (.int (nI m)), some (.int (nI 3))]) rfl rfl ?_
  refine R_ld1 rfl ?_
  refine R_c0 rfl (x_isMotion _) rfl rfl rfl ?_
  refine BB_eqF rfl (inR_N hm (by omega)) ?_
  refine R_ld2 rfl ?_
  refine R_n 0 rfl rfl ?_
  refine R_n 12 rfl rfl ?_
  refine R_c0 rfl (x_in _ _ _) rfl rfl rfl ?_
  refine BB_neT rfl (by decide) ?_
  refine R_ld2 rfl ?_
  refine R_swN rfl (by omega) rfl ?_
  refine R_la0 rfl ?_
  refine R_ld1 rfl ?_
  refine R_n 6 rfl rfl ?_
  refine R_ld2 rfl ?_
  refine R_addN rfl ?_
  refine R_n 3 rfl rfl ?_
  refine R_subN rfl (by omega) ?_
  refine R_c1 rfl (xo_first hrf hR hm) rfl rfl rfl sh_146 rfl rfl ?_
  refine B1_ge rfl (fun g37 => ?_) (fun g37 => ?_)
  · refine R_la0 rfl ?_
    refine R_ld1 rfl ?_
    refine R_n 6 rfl rfl ?_
    refine R_ld2 rfl ?_
    refine R_addN rfl ?_
    refine R_n 3 rfl rfl ?_
    refine R_subN rfl (by omega) ?_
    refine R_c1 rfl (xo_first hrf hR hm) rfl rfl rfl sh_146 rfl rfl ?_
    exact R_iret rfl (by first | exact lf_i (onf_n g37).symm | exact lf_i (onf_m (by rcases (hR.m hm).2.2.2.2.2.2.1 with e | e; exact e; exact absurd e g37)).symm)
  · refine R_i rfl ?_
    refine R_goto rfl ?_
    exact R_iret rfl (by first | exact lf_i (onf_n g37).symm | exact lf_i (onf_m (by rcases (hR.m hm).2.2.2.2.2.2.1 with e | e; exact e; exact absurd e g37)).symm)

theorem x_motion_4 (hrf : RFok rf) (hR : Rel σ (ρ 147) n rc) {m : Nat} (hm : m < 6) : PC 146 [.ref 146, .int (nI m), .int (nI 4)] (HP sl ρ rf) (some (.int (onf (σ 17 m)))) (HP sl ρ rf) := by
  have h16 := hR.b.1
  refine PC_of (cd := p_c_X5_motion) (L0 := [some (.ref 146), some (.int (nI m)), some (.int (nI 4))]) rfl rfl ?_
  refine R_ld1 rfl ?_
  refine R_c0 rfl (x_isMotion _) rfl rfl rfl ?_
  refine BB_eqF rfl (inR_N hm (by omega)) ?_
  refine R_ld2 rfl ?_
  refine R_n 0 rfl rfl ?_
  refine R_n 12 rfl rfl ?_
  refine R_c0 rfl (x_in _ _ _) rfl rfl rfl ?_
  refine BB_neT rfl (by decide) ?_
  refine R_ld2 rfl ?_
  refine R_swN rfl (by omega) rfl ?_
  refine R_la0 rfl ?_
  refine R_ld1 rfl ?_
  refine R_n 6 rfl rfl ?_
  refine R_ld2 rfl ?_
  refine R_addN rfl ?_
  refine R_n 3 rfl rfl ?_
  refine R_subN rfl (by omega) ?_
  refine R_c1 rfl (xo_stopped hrf hR hm) rfl rfl rfl sh_146 rfl rfl ?_
  refine B1_ge rfl (fun g37 => ?_) (fun g37 => ?_)
  · refine R_la0 rfl ?_
    refine R_ld1 rfl ?_
    refine R_n 6 rfl rfl ?_
    refine R_ld2 rfl ?_
    refine R_addN rfl ?_
    refine R_n 3 rfl rfl ?_
    refine R_subN rfl (by omega) ?_
    refine R_c1 rfl (xo_stopped hrf hR hm) rfl rfl rfl sh_146 rfl rfl ?_
    exact R_iret rfl (by first | exact lf_i (onf_n g37).symm | exact lf_i (onf_m (by rcases (hR.m hm).2.2.2.2.2.2.2.2.1 with e | e; exact e; exact absurd e g37)).symm)
  · refine R_i rfl ?_
    refine R_goto rfl ?_
    exact R_iret rfl (by first | exact lf_i (onf_n g37).symm | exact lf_i (onf_m (by rcases (hR.m hm).2.2.2.2.2.2.2.2.1 with e | e; exact e; exact absurd e g37)).symm)

theorem x_motion_5 (hrf : RFok rf) (hR : Rel σ (ρ 147) n rc) {m : Nat} (hm : m < 6) : PC 146 [.ref 146, .int (nI m), .int (nI 5)] (HP sl ρ rf) (some (.int (σ 21 m))) (HP sl ρ rf) := by
  have h16 := hR.b.1
  refine PC_of (cd := p_c_X5_motion) (L0 := [some (.ref 146), some (.int (nI m)), some (.int (nI 5))]) rfl rfl ?_
  refine R_ld1 rfl ?_
  refine R_c0 rfl (x_isMotion _) rfl rfl rfl ?_
  refine BB_eqF rfl (inR_N hm (by omega)) ?_
  refine R_ld2 rfl ?_
  refine R_n 0 rfl rfl ?_
  refine R_n 12 rfl rfl ?_
  refine R_c0 rfl (x_in _ _ _) rfl rfl rfl ?_
  refine BB_neT rfl (by decide) ?_
  refine R_ld2 rfl ?_
  refine R_swN rfl (by omega) rfl ?_
  refine R_la0 rfl ?_
  refine R_ld1 rfl ?_
  refine R_n 8 rfl rfl ?_
  refine R_c1 rfl (xo_ran hrf hR hm) rfl rfl rfl sh_146 rfl rfl ?_
  exact R_iret rfl (rfl)

theorem x_motion_6 (hrf : RFok rf) (hR : Rel σ (ρ 147) n rc) {m : Nat} (hm : m < 6) : PC 146 [.ref 146, .int (nI m), .int (nI 6)] (HP sl ρ rf) (some (.int (σ 19 m))) (HP sl ρ rf) := by
  have h16 := hR.b.1
  refine PC_of (cd := p_c_X5_motion) (L0 := [some (.ref 146), some (.int (nI m)), some (.int (nI 6))]) rfl rfl ?_
  refine R_ld1 rfl ?_
  refine R_c0 rfl (x_isMotion _) rfl rfl rfl ?_
  refine BB_eqF rfl (inR_N hm (by omega)) ?_
  refine R_ld2 rfl ?_
  refine R_n 0 rfl rfl ?_
  refine R_n 12 rfl rfl ?_
  refine R_c0 rfl (x_in _ _ _) rfl rfl rfl ?_
  refine BB_neT rfl (by decide) ?_
  refine R_ld2 rfl ?_
  refine R_swN rfl (by omega) rfl ?_
  refine R_la0 rfl ?_
  refine R_ld1 rfl ?_
  refine R_n 10 rfl rfl ?_
  refine R_c1 rfl (xo_starts hrf hR hm) rfl rfl rfl sh_146 rfl rfl ?_
  exact R_iret rfl (rfl)

theorem x_motion_7 (hrf : RFok rf) (hR : Rel σ (ρ 147) n rc) {m : Nat} (hm : m < 6) : PC 146 [.ref 146, .int (nI m), .int (nI 7)] (HP sl ρ rf) (some (.int (σ 18 m))) (HP sl ρ rf) := by
  have h16 := hR.b.1
  refine PC_of (cd := p_c_X5_motion) (L0 := [some (.ref 146), some (.int (nI m)), some (.int (nI 7))]) rfl rfl ?_
  refine R_ld1 rfl ?_
  refine R_c0 rfl (x_isMotion _) rfl rfl rfl ?_
  refine BB_eqF rfl (inR_N hm (by omega)) ?_
  refine R_ld2 rfl ?_
  refine R_n 0 rfl rfl ?_
  refine R_n 12 rfl rfl ?_
  refine R_c0 rfl (x_in _ _ _) rfl rfl rfl ?_
  refine BB_neT rfl (by decide) ?_
  refine R_ld2 rfl ?_
  refine R_swN rfl (by omega) rfl ?_
  refine R_la0 rfl ?_
  refine R_ld1 rfl ?_
  refine R_n 11 rfl rfl ?_
  refine R_c1 rfl (xo_stops hrf hR hm) rfl rfl rfl sh_146 rfl rfl ?_
  exact R_iret rfl (rfl)

theorem x_motion_8 (hrf : RFok rf) (hR : Rel σ (ρ 147) n rc) {m : Nat} (hm : m < 6) : PC 146 [.ref 146, .int (nI m), .int (nI 8)] (HP sl ρ rf) (some (.int (if 0 < rc m then rw0 σ m 0 else -4))) (HP sl ρ rf) := by
  have h16 := hR.b.1
  refine PC_of (cd := p_c_X5_motion) (L0 := [some (.ref 146), some (.int (nI m)), some (.int (nI 8))]) rfl rfl ?_
  refine R_ld1 rfl ?_
  refine R_c0 rfl (x_isMotion _) rfl rfl rfl ?_
  refine BB_eqF rfl (inR_N hm (by omega)) ?_
  refine R_ld2 rfl ?_
  refine R_n 0 rfl rfl ?_
  refine R_n 12 rfl rfl ?_
  refine R_c0 rfl (x_in _ _ _) rfl rfl rfl ?_
  refine BB_neT rfl (by decide) ?_
  refine R_ld2 rfl ?_
  refine R_swN rfl (by omega) rfl ?_
  refine R_la0 rfl ?_
  refine R_ld1 rfl ?_
  refine R_ld2 rfl ?_
  refine R_n 8 rfl rfl ?_
  refine R_subN rfl (by omega) ?_
  refine R_c1 rfl (x_rowOf hrf hR hm (by omega)) rfl rfl rfl sh_146 rfl rfl ?_
  exact R_iret rfl (rfl)

theorem x_motion_9 (hrf : RFok rf) (hR : Rel σ (ρ 147) n rc) {m : Nat} (hm : m < 6) : PC 146 [.ref 146, .int (nI m), .int (nI 9)] (HP sl ρ rf) (some (.int (if 1 < rc m then rw0 σ m 1 else -4))) (HP sl ρ rf) := by
  have h16 := hR.b.1
  refine PC_of (cd := p_c_X5_motion) (L0 := [some (.ref 146), some (.int (nI m)), some (.int (nI 9))]) rfl rfl ?_
  refine R_ld1 rfl ?_
  refine R_c0 rfl (x_isMotion _) rfl rfl rfl ?_
  refine BB_eqF rfl (inR_N hm (by omega)) ?_
  refine R_ld2 rfl ?_
  refine R_n 0 rfl rfl ?_
  refine R_n 12 rfl rfl ?_
  refine R_c0 rfl (x_in _ _ _) rfl rfl rfl ?_
  refine BB_neT rfl (by decide) ?_
  refine R_ld2 rfl ?_
  refine R_swN rfl (by omega) rfl ?_
  refine R_la0 rfl ?_
  refine R_ld1 rfl ?_
  refine R_ld2 rfl ?_
  refine R_n 8 rfl rfl ?_
  refine R_subN rfl (by omega) ?_
  refine R_c1 rfl (x_rowOf hrf hR hm (by omega)) rfl rfl rfl sh_146 rfl rfl ?_
  exact R_iret rfl (rfl)

theorem x_motion_10 (hrf : RFok rf) (hR : Rel σ (ρ 147) n rc) {m : Nat} (hm : m < 6) : PC 146 [.ref 146, .int (nI m), .int (nI 10)] (HP sl ρ rf) (some (.int (if 2 < rc m then rw0 σ m 2 else -4))) (HP sl ρ rf) := by
  have h16 := hR.b.1
  refine PC_of (cd := p_c_X5_motion) (L0 := [some (.ref 146), some (.int (nI m)), some (.int (nI 10))]) rfl rfl ?_
  refine R_ld1 rfl ?_
  refine R_c0 rfl (x_isMotion _) rfl rfl rfl ?_
  refine BB_eqF rfl (inR_N hm (by omega)) ?_
  refine R_ld2 rfl ?_
  refine R_n 0 rfl rfl ?_
  refine R_n 12 rfl rfl ?_
  refine R_c0 rfl (x_in _ _ _) rfl rfl rfl ?_
  refine BB_neT rfl (by decide) ?_
  refine R_ld2 rfl ?_
  refine R_swN rfl (by omega) rfl ?_
  refine R_la0 rfl ?_
  refine R_ld1 rfl ?_
  refine R_ld2 rfl ?_
  refine R_n 8 rfl rfl ?_
  refine R_subN rfl (by omega) ?_
  refine R_c1 rfl (x_rowOf hrf hR hm (by omega)) rfl rfl rfl sh_146 rfl rfl ?_
  exact R_iret rfl (rfl)

theorem x_motion_11 (hrf : RFok rf) (hR : Rel σ (ρ 147) n rc) {m : Nat} (hm : m < 6) : PC 146 [.ref 146, .int (nI m), .int (nI 11)] (HP sl ρ rf) (some (.int (if 3 < rc m then rw0 σ m 3 else -4))) (HP sl ρ rf) := by
  have h16 := hR.b.1
  refine PC_of (cd := p_c_X5_motion) (L0 := [some (.ref 146), some (.int (nI m)), some (.int (nI 11))]) rfl rfl ?_
  refine R_ld1 rfl ?_
  refine R_c0 rfl (x_isMotion _) rfl rfl rfl ?_
  refine BB_eqF rfl (inR_N hm (by omega)) ?_
  refine R_ld2 rfl ?_
  refine R_n 0 rfl rfl ?_
  refine R_n 12 rfl rfl ?_
  refine R_c0 rfl (x_in _ _ _) rfl rfl rfl ?_
  refine BB_neT rfl (by decide) ?_
  refine R_ld2 rfl ?_
  refine R_swN rfl (by omega) rfl ?_
  refine R_la0 rfl ?_
  refine R_ld1 rfl ?_
  refine R_ld2 rfl ?_
  refine R_n 8 rfl rfl ?_
  refine R_subN rfl (by omega) ?_
  refine R_c1 rfl (x_rowOf hrf hR hm (by omega)) rfl rfl rfl sh_146 rfl rfl ?_
  exact R_iret rfl (rfl)

theorem x_motion_12 (hrf : RFok rf) (hR : Rel σ (ρ 147) n rc) {m : Nat} (hm : m < 6) : PC 146 [.ref 146, .int (nI m), .int (nI 12)] (HP sl ρ rf) (some (.int (σ 15 m))) (HP sl ρ rf) := by
  have h16 := hR.b.1
  refine PC_of (cd := p_c_X5_motion) (L0 := [some (.ref 146), some (.int (nI m)), some (.int (nI 12))]) rfl rfl ?_
  refine R_ld1 rfl ?_
  refine R_c0 rfl (x_isMotion _) rfl rfl rfl ?_
  refine BB_eqF rfl (inR_N hm (by omega)) ?_
  refine R_ld2 rfl ?_
  refine R_n 0 rfl rfl ?_
  refine R_n 12 rfl rfl ?_
  refine R_c0 rfl (x_in _ _ _) rfl rfl rfl ?_
  refine BB_neT rfl (by decide) ?_
  refine R_ld2 rfl ?_
  refine R_swN rfl (by omega) rfl ?_
  refine R_la0 rfl ?_
  refine R_ld1 rfl ?_
  refine R_n 12 rfl rfl ?_
  refine R_c1 rfl (xo_excl hrf hR hm) rfl rfl rfl sh_146 rfl rfl ?_
  exact R_iret rfl (rfl)

theorem o_motion (hF : FI s ρ rf) (x y : Int32) : Ag sl s 60 146 [.int x, .int y] ρ rf := by
  obtain ⟨n, rc, t, hR, ht, ht1, hB⟩ := hF.2.2.1
  have hrf := hF.1
  have hn16 := hR.b.1
  cases hx : inR 6 x with
  | false => exact Ag_p hF (c_motion_bad1 x y hx) (x_motion_bad1 x y hx)
  | true =>
    obtain ⟨m, hm, rfl⟩ := inR_c (by decide) hx
    cases hy : inR 13 y with
    | false => exact Ag_p hF (c_motion_bad2 hrf hm y hy) (x_motion_bad2 hrf hR hm y hy)
    | true =>
    obtain ⟨w, hw, rfl⟩ := inR_c (by decide) hy
    rcases (show w = 0 ∨ w = 1 ∨ w = 2 ∨ w = 3 ∨ w = 4 ∨ w = 5 ∨ w = 6 ∨ w = 7 ∨ w = 8 ∨ w = 9 ∨ w = 10 ∨ w = 11 ∨ w = 12 by omega) with rfl | rfl | rfl | rfl | rfl | rfl | rfl | rfl | rfl | rfl | rfl | rfl | rfl
    · exact Ag_p hF (by have h := (c_motion_0 (sl := sl) (ρ := ρ) hrf hm); rw [(hR.m hm).2.1] at h; exact h) (x_motion_0 hrf hR hm)
    · exact Ag_p hF (c_motion_1 (sl := sl) (ρ := ρ) hrf hR.b.2.1 hn16 hR.hc hm (hR.m hm).2.1 (hR.m hm).1) (x_motion_1 hrf hR hm)
    · exact Ag_p hF (c_motion_2 (sl := sl) (ρ := ρ) hrf hm) (x_motion_2 hrf hR hm)
    · exact Ag_p hF (c_motion_3 (sl := sl) (ρ := ρ) hrf hm) (x_motion_3 hrf hR hm)
    · exact Ag_p hF (c_motion_4 (sl := sl) (ρ := ρ) hrf hm) (x_motion_4 hrf hR hm)
    · exact Ag_p hF (c_motion_5 (sl := sl) (ρ := ρ) hrf hm) (x_motion_5 hrf hR hm)
    · exact Ag_p hF (c_motion_6 (sl := sl) (ρ := ρ) hrf hm) (x_motion_6 hrf hR hm)
    · exact Ag_p hF (c_motion_7 (sl := sl) (ρ := ρ) hrf hm) (x_motion_7 hrf hR hm)
    · exact Ag_p hF (c_motion_8 (sl := sl) (ρ := ρ) hrf hR.b.2.1 hn16 hR.hc hm (hR.m hm).2.1 (hR.m hm).1) (x_motion_8 hrf hR hm)
    · exact Ag_p hF (c_motion_9 (sl := sl) (ρ := ρ) hrf hR.b.2.1 hn16 hR.hc hm (hR.m hm).2.1 (hR.m hm).1) (x_motion_9 hrf hR hm)
    · exact Ag_p hF (c_motion_10 (sl := sl) (ρ := ρ) hrf hR.b.2.1 hn16 hR.hc hm (hR.m hm).2.1 (hR.m hm).1) (x_motion_10 hrf hR hm)
    · exact Ag_p hF (c_motion_11 (sl := sl) (ρ := ρ) hrf hR.b.2.1 hn16 hR.hc hm (hR.m hm).2.1 (hR.m hm).1) (x_motion_11 hrf hR hm)
    · exact Ag_p hF (c_motion_12 (sl := sl) (ρ := ρ) hrf hm) (x_motion_12 hrf hR hm)
theorem x_needed_bad (x : Int32) (h : inR 6 x = false) : PC 149 [.ref 146, .int x] (HP sl ρ rf) (some (.int (-1))) (HP sl ρ rf) := by
  refine PC_of (cd := p_c_X5_needed) (L0 := [some (.ref 146), some (.int x), none, none, none, none]) rfl rfl ?_
  refine R_ld1 rfl ?_
  refine R_c0 rfl (x_isMotion _) rfl rfl rfl ?_
  refine BB_ne rfl (fun g2 => ?_) (fun g2 => ?_)
  · revert h; simp_all
  · refine R_i rfl ?_
    exact R_iret rfl (rfl)

theorem x_needed_nf (hrf : RFok rf) (hR : Rel σ (ρ 147) n rc) {m : Nat} (hm : m < 6) (h : rc m = 0) : PC 149 [.ref 146, .int (nI m)] (HP sl ρ rf) (some (.int (-4))) (HP sl ρ rf) := by
  have h16 := hR.b.1
  refine PC_of (cd := p_c_X5_needed) (L0 := [some (.ref 146), some (.int (nI m)), none, none, none, none]) rfl rfl ?_
  refine R_ld1 rfl ?_
  refine R_c0 rfl (x_isMotion _) rfl rfl rfl ?_
  refine BB_neT rfl (inR_N hm (by omega)) ?_
  refine R_la0 rfl ?_
  refine R_ld1 rfl ?_
  refine R_n 0 rfl rfl ?_
  refine R_c1 rfl (xo_rows hrf hR hm) rfl rfl rfl sh_146 rfl rfl ?_
  refine B1_neF rfl (by rw [h]; rfl) ?_
  refine R_i rfl ?_
  exact R_iret rfl (rfl)

theorem fe_t {f : Nat → Int32} {x : Int32} {j : Nat} (h : bcI (f (j + 1) &&& (x ^^^ (-1))) < bcI (feA f x j)) : feA f x (j + 1) = f (j + 1) &&& (x ^^^ (-1)) := if_pos h
theorem fe_f {f : Nat → Int32} {x : Int32} {j : Nat} (h : ¬ bcI (f (j + 1) &&& (x ^^^ (-1))) < bcI (feA f x j)) : feA f x (j + 1) = feA f x j := if_neg h
theorem fe_16 {f : Nat → Int32} {x : Int32} : ∀ {j : Nat}, (∀ i, i ≤ j → is16 (f i)) → is16 (feA f x j)
  | 0, h => is16_and (h 0 (Nat.le_refl _))
  | j + 1, h => by
    unfold feA
    split
    · exact is16_and (h _ (Nat.le_refl _))
    · exact fe_16 fun i hi => h i (by omega)
theorem x_needed_ok (hrf : RFok rf) (hR : Rel σ (ρ 147) n rc) {m : Nat} (hm : m < 6) {r : Nat} (hr : rc m = r + 1) : PC 149 [.ref 146, .int (nI m)] (HP sl ρ rf) (some (.int (feA (rw0 σ m) (M (cS σ n)) (r)))) (HP sl ρ rf) := by
  have h4 := (hR.m hm).1
  have h16 := (hR.m hm).2.2.2.2.2.2.2.2.2.2.2.2.2.2.2
  have hl := down (n := r) (P := fun j => ∀ w0 : Option Value, PW p_c_X5_needed 26 [some (.ref 146), some (.int (nI m)), some (.int (M (cS σ n))), some (.int (feA (rw0 σ m) (M (cS σ n)) (j))), some (.int (nI (j + 1))), w0] [] (HP sl ρ rf) (fun zz => zz = ((some (.int (feA (rw0 σ m) (M (cS σ n)) (r)))), HP sl ρ rf))) ?_ ?_
  · refine PC_of (cd := p_c_X5_needed) (L0 := [some (.ref 146), some (.int (nI m)), none, none, none, none]) rfl rfl ?_
    refine R_ld1 rfl ?_
    refine R_c0 rfl (x_isMotion _) rfl rfl rfl ?_
    refine BB_neT rfl (inR_N hm (by omega)) ?_
    refine R_la0 rfl ?_
    refine R_ld1 rfl ?_
    refine R_n 0 rfl rfl ?_
    refine R_c1 rfl (xo_rows hrf hR hm) rfl rfl rfl sh_146 rfl rfl ?_
    refine B1_neT rfl (by rw [hr]; exact nI_ne0 (by omega) (by omega)) ?_
    refine R_la0 rfl ?_
    refine R_c1 rfl (x_closedOnes hrf hR) rfl rfl rfl sh_146 rfl rfl ?_
    refine R_st2 rfl ?_
    refine R_la0 rfl ?_
    refine R_ld1 rfl ?_
    refine R_n 1 rfl rfl ?_
    refine R_c1 rfl (xo_mask hrf hR hm (j := 0) (by decide)) rfl rfl rfl sh_146 rfl rfl ?_
    refine R_ld2 rfl ?_
    refine R_i rfl ?_
    refine R_xor rfl ?_
    refine R_and rfl ?_
    refine R_st3 rfl ?_
    refine R_n 1 rfl rfl ?_
    refine R_st4 rfl ?_
    exact hl 0 (Nat.zero_le _) _
  · intro w0
    refine R_ld4 rfl ?_
    refine R_la0 rfl ?_
    refine R_ld1 rfl ?_
    refine R_n 0 rfl rfl ?_
    refine R_c1 rfl (xo_rows hrf hR hm) rfl rfl rfl sh_146 rfl rfl ?_
    refine N2_geT rfl (by first | omega) (by first | omega) (by omega) ?_
    refine R_ld3 rfl ?_
    exact R_iret rfl (rfl)
  · intro j hj hnext w0
    refine R_ld4 rfl ?_
    refine R_la0 rfl ?_
    refine R_ld1 rfl ?_
    refine R_n 0 rfl rfl ?_
    refine R_c1 rfl (xo_rows hrf hR hm) rfl rfl rfl sh_146 rfl rfl ?_
    refine N2_geF rfl (by first | omega) (by first | omega) (by first | omega) ?_
    refine R_la0 rfl ?_
    refine R_ld1 rfl ?_
    refine R_n 1 rfl rfl ?_
    refine R_ld4 rfl ?_
    refine R_addN rfl ?_
    refine R_c1 rfl (xo_mask hrf hR hm (j := j + 1) (by omega)) rfl rfl rfl sh_146 rfl rfl ?_
    skip
    refine R_ld2 rfl ?_
    refine R_i rfl ?_
    refine R_xor rfl ?_
    refine R_and rfl ?_
    refine R_st5 rfl ?_
    refine R_ld5 rfl ?_
    refine R_c0 rfl (x_bits (is16_and (h16 _ (by omega)))) rfl rfl rfl ?_
    refine R_ld3 rfl ?_
    refine R_c0 rfl (x_bits (fe_16 fun i hi => h16 i (by omega))) rfl rfl rfl ?_
    refine B2_ge rfl (fun h47 => ?_) (fun h47 => ?_)
    · refine R_ld3 rfl ?_
      refine R_st3 rfl ?_
      refine R_in4 rfl rfl ?_
      refine R_goto rfl ?_
      first
        | (rw [fe_f (Int32.not_lt.mpr h47)] at hnext; exact hnext _)
        | (rw [fe_t (Int32.not_le.mp h47)] at hnext; exact hnext _)
    · refine R_ld5 rfl ?_
      refine R_goto rfl ?_
      refine R_st3 rfl ?_
      refine R_in4 rfl rfl ?_
      refine R_goto rfl ?_
      first
        | (rw [fe_f (Int32.not_lt.mpr h47)] at hnext; exact hnext _)
        | (rw [fe_t (Int32.not_le.mp h47)] at hnext; exact hnext _)

theorem o_needed (hF : FI s ρ rf) (x : Int32) : Ag sl s 63 149 [.int x] ρ rf := by
  obtain ⟨n, rc, t, hR, ht, ht1, hB⟩ := hF.2.2.1
  have hrf := hF.1
  have hn16 := hR.b.1
  cases hx : inR 6 x with
  | false => exact Ag_p hF (c_needed_bad x hx) (x_needed_bad x hx)
  | true =>
  obtain ⟨m, hm, rfl⟩ := inR_c (by decide) hx
  by_cases h0 : rc m = 0
  · exact Ag_p hF (c_needed_nf hrf hm (by rw [(hR.m hm).2.1, h0])) (x_needed_nf hrf hR hm h0)
  · obtain ⟨r, hr⟩ : ∃ r, rc m = r + 1 := ⟨rc m - 1, by omega⟩
    refine Ag_p hF (c_needed_ok hrf hR.b.2.1 hn16 hR.hc hm (hR.m hm).2.1 (hR.m hm).1 (by omega)) ?_
    rw [show rc m - 1 = r by omega]
    exact x_needed_ok hrf hR hm hr
theorem x_test_bad (hrf : RFok rf) (hR : Rel σ (ρ 147) n rc) (x : Int32) (h : inR n x = false) : PC 150 [.ref 146, .int x] (HP sl ρ rf) (some (.int (-1))) (HP sl ρ rf) := by
  refine PC_of (cd := p_c_X5_test) (L0 := [some (.ref 146), some (.int x)]) rfl rfl ?_
  refine R_la0 rfl ?_
  refine R_ld1 rfl ?_
  refine R_c1 rfl (x_isInput hrf hR.b.1 hR.b.2.2.1 _) rfl rfl rfl sh_146 rfl rfl ?_
  refine BB_ne rfl (fun g3 => ?_) (fun g3 => ?_)
  · revert h; simp_all
  · refine R_i rfl ?_
    exact R_iret rfl (rfl)

theorem x_test_np (hrf : RFok rf) (hR : Rel σ (ρ 147) n rc) {i : Nat} (hi : i < n) (h : (!(decide (¬ σ 4 i = -1)) && (bt (σ 3 3) i && decide (σ 10 i = 0))) = false) : PC 150 [.ref 146, .int (nI i)] (HP sl ρ rf) (some (.int (-2))) (HP sl ρ rf) := by
  have h16 := hR.b.1
  refine PC_of (cd := p_c_X5_test) (L0 := [some (.ref 146), some (.int (nI i))]) rfl rfl ?_
  refine R_la0 rfl ?_
  refine R_ld1 rfl ?_
  refine R_c1 rfl (x_isInput hrf hR.b.1 hR.b.2.2.1 _) rfl rfl rfl sh_146 rfl rfl ?_
  refine BB_neT rfl (inR_N hi (by omega)) ?_
  refine R_la0 rfl ?_
  refine R_ld1 rfl ?_
  refine R_c1 rfl (x_isLock hrf hR hi) rfl rfl rfl sh_146 rfl rfl ?_
  refine BB_ne rfl (fun g9 => ?_) (fun g9 => ?_)
  · refine R_i rfl ?_
    exact R_iret rfl (rfl)
  · refine R_la0 rfl ?_
    refine R_ld1 rfl ?_
    refine R_c1 rfl (x_isClosed hrf hR hi) rfl rfl rfl sh_146 rfl rfl ?_
    refine BB_eq rfl (fun g13 => ?_) (fun g13 => ?_)
    · refine R_i rfl ?_
      exact R_iret rfl (rfl)
    · refine R_la0 rfl ?_
      refine R_ld1 rfl ?_
      refine R_n 7 rfl rfl ?_
      refine R_c1 rfl (xn_test hrf hR hi) rfl rfl rfl sh_146 rfl rfl ?_
      refine B1_le rfl (fun g18 => ?_) (fun g18 => ?_)
      · rw [g9, g13, decide_eq_true (show σ 10 i = 0 from Decidable.byContradiction fun q => by rcases hR.ph i hi with e | e; exact q e; exact e g18)] at h
        cases h
      · refine R_i rfl ?_
        exact R_iret rfl (rfl)

theorem x_test_ok (hrf : RFok rf) (hR : Rel σ (ρ 147) n rc) {i : Nat} (hi : i < n) (hl : σ 4 i = -1) (hc : bt (σ 3 3) i = true) (hp : σ 10 i = 0) (hrec : PC 105 [.ref 146] (HP sl ρ rf) none (HP sl ρr rf)) (hR2 : Rel σ (ρr 147) n rc) : PC 150 [.ref 146, .int (nI i)] (HP sl ρ rf) (some (.int (σ 3 1 + nI 20))) (HP sl (u2 (u2 ρr 147 (87 + 11 * i + 7) (nI 1)) 147 (87 + 11 * i + 8) (σ 3 1)) rf) := by
  have h16 := hR.b.1
  refine PC_of (cd := p_c_X5_test) (L0 := [some (.ref 146), some (.int (nI i))]) rfl rfl ?_
  refine R_la0 rfl ?_
  refine R_ld1 rfl ?_
  refine R_c1 rfl (x_isInput hrf hR.b.1 hR.b.2.2.1 _) rfl rfl rfl sh_146 rfl rfl ?_
  refine BB_neT rfl (inR_N hi (by omega)) ?_
  refine R_la0 rfl ?_
  refine R_ld1 rfl ?_
  refine R_c1 rfl (x_isLock hrf hR hi) rfl rfl rfl sh_146 rfl rfl ?_
  refine BB_neF rfl (decide_eq_false (fun q => q hl)) ?_
  refine R_la0 rfl ?_
  refine R_ld1 rfl ?_
  refine R_c1 rfl (x_isClosed hrf hR hi) rfl rfl rfl sh_146 rfl rfl ?_
  refine BB_eqF rfl (hc) ?_
  refine R_la0 rfl ?_
  refine R_ld1 rfl ?_
  refine R_n 7 rfl rfl ?_
  refine R_c1 rfl (xn_test hrf hR hi) rfl rfl rfl sh_146 rfl rfl ?_
  refine B1_leT rfl (by rw [hp]; decide) ?_
  refine R_la0 rfl ?_
  refine R_c1 rfl (hrec) rfl rfl rfl sh_146 rfl rfl ?_
  refine R_la0 rfl ?_
  refine R_ld1 rfl ?_
  refine R_n 7 rfl rfl ?_
  refine R_n 1 rfl rfl ?_
  refine R_c1 rfl (x_lay hrf (by omega) (by decide) _) rfl rfl rfl sh_146 rfl rfl ?_
  refine R_la0 rfl ?_
  refine R_ld1 rfl ?_
  refine R_n 8 rfl rfl ?_
  refine R_la0 rfl ?_
  refine R_getR rfl sh_146 rfl (rf_146_0 hrf) ?_
  refine R_n 0 rfl rfl ?_
  refine R_ald rfl sh_147 (by first | decide | omega) (by omega) (show _ = σ 3 1 by (try simp (disch := omega) only [u2_at, u2_ne, up_eq, up_ne, u1_at, u1_ne]); exact hR2.b.2.2.2.1) ?_
  refine R_c1 rfl (x_lay hrf (by omega) (by decide) _) rfl rfl rfl sh_146 rfl rfl ?_
  refine R_la0 rfl ?_
  refine R_getR rfl sh_146 rfl (rf_146_0 hrf) ?_
  refine R_n 0 rfl rfl ?_
  refine R_ald rfl sh_147 (by first | decide | omega) (by omega) (show _ = σ 3 1 by (try simp (disch := omega) only [u2_at, u2_ne, up_eq, up_ne, u1_at, u1_ne]); exact hR2.b.2.2.2.1) ?_
  refine R_n 20 rfl rfl ?_
  refine R_add rfl ?_
  exact R_iret rfl (rfl)

theorem o_test (hF : FI s ρ rf) (x : Int32) : Ag sl s 64 150 [.int x] ρ rf := by
  obtain ⟨n, rc, t, hR, ht, ht1, hB⟩ := hF.2.2.1
  have hrf := hF.1
  have hn16 := hR.b.1
  cases hx : inR n x with
  | false => exact Ag_p hF (c_test_bad hrf hR.b.2.1 hn16 x hx) (x_test_bad hrf hR x hx)
  | true =>
  obtain ⟨i, hi, rfl⟩ := inR_c (by omega) hx
  cases hct : (!(decide (¬ ρ 4 i = -1)) && (bt (ρ 3 3) i && decide (ρ 10 i = 0))) with
  | false => exact Ag_p hF (c_test_np hrf hR.b.2.1 hn16 hi hct) (x_test_np hrf hR hi hct)
  | true =>
    have hq := hct
    rw [Bool.and_eq_true, Bool.and_eq_true] at hq
    have hl : ρ 4 i = -1 := Decidable.byContradiction fun q => by
      have := hq.1
      rw [decide_eq_true q] at this
      cases this
    obtain ⟨ρa, rfa, h1, h2, h3, h4, h5⟩ := FI_step (sl := sl) hF
    have hRa : Rel ρa (ρ 147) n rc := Rel_k h3 hR
    have hta : ρa 3 1 = nI t := by rw [h3 3 (by decide) (by decide)]; exact ht
    have h8a : ρa 8 = ρ 8 := h3 8 (by decide) (by decide)
    obtain ⟨ρr, r1, r2, r3, r4, r5, r6⟩ := h5 (u2 (u2 ρa 10 i (nI 1)) 11 i (ρa 3 1 + nI 20)) (fun k hk => by (try simp (disch := omega) only [u2_at, u2_ne, up_eq, up_ne, u1_at, u1_ne]))
    have hRr : Rel ρa (ρr 147) n rc := by rw [r3]; exact hRa
    have hx0 := x_test_ok (sl := sl) h2 (by rw [r2]; exact hRa) hi (by rw [h3 4 (by decide) (by decide)]; exact hl) (by rw [h3 3 (by decide) (by decide)]; exact hq.2.1) (by rw [h3 10 (by decide) (by decide)]; exact of_decide_eq_true hq.2.2) r1 hRr
    have hx1 := PC_eq hx0 (show _ = u1 ρr 147 (upd (upd (ρr 147) (87 + 11 * i + 7) (nI 1)) (87 + 11 * i + 8) (ρa 3 1)) by simp (disch := omega) only [u2_u1, u2_e1, u1_u1, u1_at, up_eq, up_ne])
    exact ⟨_, _, _, _, c_test_ok hrf hR.b.2.1 hn16 hi hct h1 h2, hx1, r6 _ ⟨n, _, t, Rel_tst hRr hi, by (try simp (disch := omega) only [u2_at, u2_ne, up_eq, up_ne, u1_at, u1_ne]); exact hta, ht1, brc_e (by (try simp (disch := omega) only [u2_at, u2_ne, up_eq, up_ne, u1_at, u1_ne]); exact h8a) hB⟩⟩
theorem om_f {x : Int32} (h : x = -1 ∨ 0 ≤ x) (h2 : x < 0) : x = -1 := by
  rcases h with h | h
  · exact h
  · exact absurd h2 (Int32.not_lt.mpr h)
theorem om_t {x : Int32} (h2 : ¬ x < 0) : ¬ x = -1 := fun q => h2 (by rw [q]; decide)
theorem ct_add (p : Nat → Bool) (j : Nat) : nI (fb_ct p j) + bI (p j) = nI (fb_ct p (j + 1)) := by
  rw [fb_ct_succ]
  cases p j
  · rw [show bI false = nI 0 from rfl, nI_add]; rfl
  · rw [show bI true = nI 1 from rfl, nI_add]; rfl
theorem x_oi_12 (hrf : RFok rf) (hR : Rel σ (ρ 147) n rc) : PC 154 [.ref 146, .int (nI 12)] (HP sl ρ rf) (some (.int (sI (σ 9) n))) (HP sl ρ rf) := by
  have h16 := hR.b.1
  have hl := down (n := n) (P := fun j => PW p_c_X5_overInputs 4 [some (.ref 146), some (.int (nI 12)), some (.int (sI (σ 9) j)), some (.int (nI j))] [] (HP sl ρ rf) (fun zz => zz = ((some (.int (sI (σ 9) n))), HP sl ρ rf))) ?_ ?_
  · refine PC_of (cd := p_c_X5_overInputs) (L0 := [some (.ref 146), some (.int (nI 12)), none, none]) rfl rfl ?_
    refine R_n 0 rfl rfl ?_
    refine R_st2 rfl ?_
    refine R_n 0 rfl rfl ?_
    refine R_st3 rfl ?_
    exact hl 0 (Nat.zero_le _)
  · refine R_ld3 rfl ?_
    refine R_la0 rfl ?_
    refine R_getR rfl sh_146 rfl (rf_146_0 hrf) ?_
    refine R_n 1 rfl rfl ?_
    refine R_ald rfl sh_147 (by first | decide | omega) (by omega) hR.b.2.2.1 ?_
    refine N2_geT rfl (by omega) (by omega) (by omega) ?_
    refine R_ld2 rfl ?_
    exact R_iret rfl (rfl)
  · intro j hj hnext
    refine R_ld3 rfl ?_
    refine R_la0 rfl ?_
    refine R_getR rfl sh_146 rfl (rf_146_0 hrf) ?_
    refine R_n 1 rfl rfl ?_
    refine R_ald rfl sh_147 (by first | decide | omega) (by omega) hR.b.2.2.1 ?_
    refine N2_geF rfl (by omega) (by omega) (hj) ?_
    refine R_ld2 rfl ?_
    refine R_ld1 rfl ?_
    refine R_n 12 rfl rfl ?_
    refine N2_neF rfl (by omega) (by omega) (by decide) ?_
    refine R_la0 rfl ?_
    refine R_ld3 rfl ?_
    refine R_n 6 rfl rfl ?_
    refine R_c1 rfl (xn_bri hrf hR hj) rfl rfl rfl sh_146 rfl rfl ?_
    refine R_goto rfl ?_
    refine R_add rfl ?_
    refine R_st2 rfl ?_
    refine R_in3 rfl rfl ?_
    refine R_goto rfl ?_
    exact hnext

theorem x_oi_2 (hrf : RFok rf) (hR : Rel σ (ρ 147) n rc) : PC 154 [.ref 146, .int (nI 2)] (HP sl ρ rf) (some (.int (nI (fb_ct (ov σ) n)))) (HP sl ρ rf) := by
  have h16 := hR.b.1
  have hl := down (n := n) (P := fun j => PW p_c_X5_overInputs 4 [some (.ref 146), some (.int (nI 2)), some (.int (nI (fb_ct (ov σ) j))), some (.int (nI j))] [] (HP sl ρ rf) (fun zz => zz = ((some (.int (nI (fb_ct (ov σ) n)))), HP sl ρ rf))) ?_ ?_
  · refine PC_of (cd := p_c_X5_overInputs) (L0 := [some (.ref 146), some (.int (nI 2)), none, none]) rfl rfl ?_
    refine R_n 0 rfl rfl ?_
    refine R_st2 rfl ?_
    refine R_n 0 rfl rfl ?_
    refine R_st3 rfl ?_
    exact hl 0 (Nat.zero_le _)
  · refine R_ld3 rfl ?_
    refine R_la0 rfl ?_
    refine R_getR rfl sh_146 rfl (rf_146_0 hrf) ?_
    refine R_n 1 rfl rfl ?_
    refine R_ald rfl sh_147 (by first | decide | omega) (by omega) hR.b.2.2.1 ?_
    refine N2_geT rfl (by omega) (by omega) (by omega) ?_
    refine R_ld2 rfl ?_
    exact R_iret rfl (rfl)
  · intro j hj hnext
    refine R_ld3 rfl ?_
    refine R_la0 rfl ?_
    refine R_getR rfl sh_146 rfl (rf_146_0 hrf) ?_
    refine R_n 1 rfl rfl ?_
    refine R_ald rfl sh_147 (by first | decide | omega) (by omega) hR.b.2.2.1 ?_
    refine N2_geF rfl (by omega) (by omega) (hj) ?_
    refine R_ld2 rfl ?_
    refine R_ld1 rfl ?_
    refine R_n 12 rfl rfl ?_
    refine N2_neT rfl (by omega) (by omega) (by decide) ?_
    refine R_la0 rfl ?_
    refine R_ld3 rfl ?_
    refine R_c1 rfl (x_isOverdue hrf hR hj) rfl rfl rfl sh_146 rfl rfl ?_
    refine R_c0 rfl (x_one _) rfl rfl rfl ?_
    refine R_add rfl ?_
    refine PW_top (ct_add _ _) ?_
    refine R_st2 rfl ?_
    refine R_in3 rfl rfl ?_
    refine R_goto rfl ?_
    exact hnext

theorem x_om_6 (hrf : RFok rf) (hR : Rel σ (ρ 147) n rc) : PC 155 [.ref 146, .int (nI 6)] (HP sl ρ rf) (some (.int (nI (fb_ct (fun m => pmI (rw0 σ m) (rc m) (M (cS σ n))) 6)))) (HP sl ρ rf) := by
  have hl := down (n := 6) (P := fun j => PW p_c_X5_overMotions 7 [some (.ref 146), some (.int (nI 6)), some (.int (M (cS σ n))), some (.int (nI (fb_ct (fun m => pmI (rw0 σ m) (rc m) (M (cS σ n))) j))), some (.int (nI j))] [] (HP sl ρ rf) (fun zz => zz = ((some (.int (nI (fb_ct (fun m => pmI (rw0 σ m) (rc m) (M (cS σ n))) 6)))), HP sl ρ rf))) ?_ ?_
  · refine PC_of (cd := p_c_X5_overMotions) (L0 := [some (.ref 146), some (.int (nI 6)), none, none, none]) rfl rfl ?_
    refine R_la0 rfl ?_
    refine R_c1 rfl (x_closedOnes hrf hR) rfl rfl rfl sh_146 rfl rfl ?_
    refine R_st2 rfl ?_
    refine R_n 0 rfl rfl ?_
    refine R_st3 rfl ?_
    refine R_n 0 rfl rfl ?_
    refine R_st4 rfl ?_
    exact hl 0 (Nat.zero_le _)
  · refine R_ld4 rfl ?_
    refine R_n 6 rfl rfl ?_
    refine N2_geT rfl (by omega) (by omega) (by omega) ?_
    refine R_ld3 rfl ?_
    exact R_iret rfl (rfl)
  · intro j hj hnext
    refine R_ld4 rfl ?_
    refine R_n 6 rfl rfl ?_
    refine N2_geF rfl (by omega) (by omega) (hj) ?_
    refine R_ld3 rfl ?_
    refine R_ld1 rfl ?_
    refine R_n 6 rfl rfl ?_
    refine N2_neF rfl (by omega) (by omega) (by decide) ?_
    refine R_la0 rfl ?_
    refine R_ld4 rfl ?_
    refine R_ld2 rfl ?_
    refine R_c1 rfl (x_isPerm hrf hR hj _) rfl rfl rfl sh_146 rfl rfl ?_
    refine R_c0 rfl (x_one _) rfl rfl rfl ?_
    refine R_goto rfl ?_
    refine R_add rfl ?_
    refine PW_top (ct_add (fun m => pmI (rw0 σ m) (rc m) (M (cS σ n))) j) ?_
    refine R_st3 rfl ?_
    refine R_in4 rfl rfl ?_
    refine R_goto rfl ?_
    exact hnext

theorem x_om_7 (hrf : RFok rf) (hR : Rel σ (ρ 147) n rc) : PC 155 [.ref 146, .int (nI 7)] (HP sl ρ rf) (some (.int (nI (fb_ct (fun m => decide (¬ σ 16 m = -1)) 6)))) (HP sl ρ rf) := by
  have hl := down (n := 6) (P := fun j => PW p_c_X5_overMotions 7 [some (.ref 146), some (.int (nI 7)), some (.int (M (cS σ n))), some (.int (nI (fb_ct (fun m => decide (¬ σ 16 m = -1)) j))), some (.int (nI j))] [] (HP sl ρ rf) (fun zz => zz = ((some (.int (nI (fb_ct (fun m => decide (¬ σ 16 m = -1)) 6)))), HP sl ρ rf))) ?_ ?_
  · refine PC_of (cd := p_c_X5_overMotions) (L0 := [some (.ref 146), some (.int (nI 7)), none, none, none]) rfl rfl ?_
    refine R_la0 rfl ?_
    refine R_c1 rfl (x_closedOnes hrf hR) rfl rfl rfl sh_146 rfl rfl ?_
    refine R_st2 rfl ?_
    refine R_n 0 rfl rfl ?_
    refine R_st3 rfl ?_
    refine R_n 0 rfl rfl ?_
    refine R_st4 rfl ?_
    exact hl 0 (Nat.zero_le _)
  · refine R_ld4 rfl ?_
    refine R_n 6 rfl rfl ?_
    refine N2_geT rfl (by omega) (by omega) (by omega) ?_
    refine R_ld3 rfl ?_
    exact R_iret rfl (rfl)
  · intro j hj hnext
    refine R_ld4 rfl ?_
    refine R_n 6 rfl rfl ?_
    refine N2_geF rfl (by omega) (by omega) (hj) ?_
    refine R_ld3 rfl ?_
    refine R_ld1 rfl ?_
    refine R_n 6 rfl rfl ?_
    refine N2_neT rfl (by omega) (by omega) (by decide) ?_
    refine R_ld1 rfl ?_
    refine R_n 7 rfl rfl ?_
    refine N2_neF rfl (by omega) (by omega) (by decide) ?_
    refine R_la0 rfl ?_
    refine R_ld4 rfl ?_
    refine R_n 6 rfl rfl ?_
    refine R_c1 rfl (xo_first hrf hR hj) rfl rfl rfl sh_146 rfl rfl ?_
    refine B1_lt rfl (fun h27 => ?_) (fun h27 => ?_)
    · refine R_n 0 rfl rfl ?_
      refine R_c0 rfl (x_one false) rfl rfl rfl ?_
      first | show PW _ _ _ (.int (nI 1) :: _) _ _ | show PW _ _ _ (.int (nI 0) :: _) _ _
      refine R_goto rfl ?_
      refine R_addN rfl ?_
      refine R_st3 rfl ?_
      refine R_in4 rfl rfl ?_
      refine R_goto rfl ?_
      first
        | (rw [ct_f (f := (fun m => decide (¬ σ 16 m = -1))) (decide_eq_false (fun q => q (om_f (hR.m hj).2.2.2.2.2.2.1 h27)))] at hnext; exact hnext)
        | (rw [ct_t (f := (fun m => decide (¬ σ 16 m = -1))) (decide_eq_true (om_t h27))] at hnext; exact hnext)
    · refine R_n 1 rfl rfl ?_
      refine R_goto rfl ?_
      refine R_c0 rfl (x_one true) rfl rfl rfl ?_
      first | show PW _ _ _ (.int (nI 1) :: _) _ _ | show PW _ _ _ (.int (nI 0) :: _) _ _
      refine R_goto rfl ?_
      refine R_addN rfl ?_
      refine R_st3 rfl ?_
      refine R_in4 rfl rfl ?_
      refine R_goto rfl ?_
      first
        | (rw [ct_f (f := (fun m => decide (¬ σ 16 m = -1))) (decide_eq_false (fun q => q (om_f (hR.m hj).2.2.2.2.2.2.1 h27)))] at hnext; exact hnext)
        | (rw [ct_t (f := (fun m => decide (¬ σ 16 m = -1))) (decide_eq_true (om_t h27))] at hnext; exact hnext)

theorem x_om_9 (hrf : RFok rf) (hR : Rel σ (ρ 147) n rc) : PC 155 [.ref 146, .int (nI 9)] (HP sl ρ rf) (some (.int (sI (σ 21) 6))) (HP sl ρ rf) := by
  have hl := down (n := 6) (P := fun j => PW p_c_X5_overMotions 7 [some (.ref 146), some (.int (nI 9)), some (.int (M (cS σ n))), some (.int (sI (σ 21) j)), some (.int (nI j))] [] (HP sl ρ rf) (fun zz => zz = ((some (.int (sI (σ 21) 6))), HP sl ρ rf))) ?_ ?_
  · refine PC_of (cd := p_c_X5_overMotions) (L0 := [some (.ref 146), some (.int (nI 9)), none, none, none]) rfl rfl ?_
    refine R_la0 rfl ?_
    refine R_c1 rfl (x_closedOnes hrf hR) rfl rfl rfl sh_146 rfl rfl ?_
    refine R_st2 rfl ?_
    refine R_n 0 rfl rfl ?_
    refine R_st3 rfl ?_
    refine R_n 0 rfl rfl ?_
    refine R_st4 rfl ?_
    exact hl 0 (Nat.zero_le _)
  · refine R_ld4 rfl ?_
    refine R_n 6 rfl rfl ?_
    refine N2_geT rfl (by omega) (by omega) (by omega) ?_
    refine R_ld3 rfl ?_
    exact R_iret rfl (rfl)
  · intro j hj hnext
    refine R_ld4 rfl ?_
    refine R_n 6 rfl rfl ?_
    refine N2_geF rfl (by omega) (by omega) (hj) ?_
    refine R_ld3 rfl ?_
    refine R_ld1 rfl ?_
    refine R_n 6 rfl rfl ?_
    refine N2_neT rfl (by omega) (by omega) (by decide) ?_
    refine R_ld1 rfl ?_
    refine R_n 7 rfl rfl ?_
    refine N2_neT rfl (by omega) (by omega) (by decide) ?_
    refine R_la0 rfl ?_
    refine R_ld4 rfl ?_
    refine R_ld1 rfl ?_
    refine R_n 9 rfl rfl ?_
    refine N2_neF rfl (by omega) (by omega) (by decide) ?_
    refine R_n 8 rfl rfl ?_
    refine R_goto rfl ?_
    refine R_c1 rfl (xo_ran hrf hR hj) rfl rfl rfl sh_146 rfl rfl ?_
    refine R_add rfl ?_
    refine R_st3 rfl ?_
    refine R_in4 rfl rfl ?_
    refine R_goto rfl ?_
    exact hnext

theorem x_om_10 (hrf : RFok rf) (hR : Rel σ (ρ 147) n rc) : PC 155 [.ref 146, .int (nI 10)] (HP sl ρ rf) (some (.int (sI (σ 19) 6))) (HP sl ρ rf) := by
  have hl := down (n := 6) (P := fun j => PW p_c_X5_overMotions 7 [some (.ref 146), some (.int (nI 10)), some (.int (M (cS σ n))), some (.int (sI (σ 19) j)), some (.int (nI j))] [] (HP sl ρ rf) (fun zz => zz = ((some (.int (sI (σ 19) 6))), HP sl ρ rf))) ?_ ?_
  · refine PC_of (cd := p_c_X5_overMotions) (L0 := [some (.ref 146), some (.int (nI 10)), none, none, none]) rfl rfl ?_
    refine R_la0 rfl ?_
    refine R_c1 rfl (x_closedOnes hrf hR) rfl rfl rfl sh_146 rfl rfl ?_
    refine R_st2 rfl ?_
    refine R_n 0 rfl rfl ?_
    refine R_st3 rfl ?_
    refine R_n 0 rfl rfl ?_
    refine R_st4 rfl ?_
    exact hl 0 (Nat.zero_le _)
  · refine R_ld4 rfl ?_
    refine R_n 6 rfl rfl ?_
    refine N2_geT rfl (by omega) (by omega) (by omega) ?_
    refine R_ld3 rfl ?_
    exact R_iret rfl (rfl)
  · intro j hj hnext
    refine R_ld4 rfl ?_
    refine R_n 6 rfl rfl ?_
    refine N2_geF rfl (by omega) (by omega) (hj) ?_
    refine R_ld3 rfl ?_
    refine R_ld1 rfl ?_
    refine R_n 6 rfl rfl ?_
    refine N2_neT rfl (by omega) (by omega) (by decide) ?_
    refine R_ld1 rfl ?_
    refine R_n 7 rfl rfl ?_
    refine N2_neT rfl (by omega) (by omega) (by decide) ?_
    refine R_la0 rfl ?_
    refine R_ld4 rfl ?_
    refine R_ld1 rfl ?_
    refine R_n 9 rfl rfl ?_
    refine N2_neT rfl (by omega) (by omega) (by decide) ?_
    refine R_ld1 rfl ?_
    refine R_n 10 rfl rfl ?_
    refine N2_neF rfl (by omega) (by omega) (by decide) ?_
    refine R_n 10 rfl rfl ?_
    refine R_goto rfl ?_
    refine R_c1 rfl (xo_starts hrf hR hj) rfl rfl rfl sh_146 rfl rfl ?_
    refine R_add rfl ?_
    refine R_st3 rfl ?_
    refine R_in4 rfl rfl ?_
    refine R_goto rfl ?_
    exact hnext

theorem x_om_11 (hrf : RFok rf) (hR : Rel σ (ρ 147) n rc) : PC 155 [.ref 146, .int (nI 11)] (HP sl ρ rf) (some (.int (sI (σ 18) 6))) (HP sl ρ rf) := by
  have hl := down (n := 6) (P := fun j => PW p_c_X5_overMotions 7 [some (.ref 146), some (.int (nI 11)), some (.int (M (cS σ n))), some (.int (sI (σ 18) j)), some (.int (nI j))] [] (HP sl ρ rf) (fun zz => zz = ((some (.int (sI (σ 18) 6))), HP sl ρ rf))) ?_ ?_
  · refine PC_of (cd := p_c_X5_overMotions) (L0 := [some (.ref 146), some (.int (nI 11)), none, none, none]) rfl rfl ?_
    refine R_la0 rfl ?_
    refine R_c1 rfl (x_closedOnes hrf hR) rfl rfl rfl sh_146 rfl rfl ?_
    refine R_st2 rfl ?_
    refine R_n 0 rfl rfl ?_
    refine R_st3 rfl ?_
    refine R_n 0 rfl rfl ?_
    refine R_st4 rfl ?_
    exact hl 0 (Nat.zero_le _)
  · refine R_ld4 rfl ?_
    refine R_n 6 rfl rfl ?_
    refine N2_geT rfl (by omega) (by omega) (by omega) ?_
    refine R_ld3 rfl ?_
    exact R_iret rfl (rfl)
  · intro j hj hnext
    refine R_ld4 rfl ?_
    refine R_n 6 rfl rfl ?_
    refine N2_geF rfl (by omega) (by omega) (hj) ?_
    refine R_ld3 rfl ?_
    refine R_ld1 rfl ?_
    refine R_n 6 rfl rfl ?_
    refine N2_neT rfl (by omega) (by omega) (by decide) ?_
    refine R_ld1 rfl ?_
    refine R_n 7 rfl rfl ?_
    refine N2_neT rfl (by omega) (by omega) (by decide) ?_
    refine R_la0 rfl ?_
    refine R_ld4 rfl ?_
    refine R_ld1 rfl ?_
    refine R_n 9 rfl rfl ?_
    refine N2_neT rfl (by omega) (by omega) (by decide) ?_
    refine R_ld1 rfl ?_
    refine R_n 10 rfl rfl ?_
    refine N2_neT rfl (by omega) (by omega) (by decide) ?_
    refine R_n 11 rfl rfl ?_
    refine R_c1 rfl (xo_stops hrf hR hj) rfl rfl rfl sh_146 rfl rfl ?_
    refine R_add rfl ?_
    refine R_st3 rfl ?_
    refine R_in4 rfl rfl ?_
    refine R_goto rfl ?_
    exact hnext

theorem x_count_bad (hrf : RFok rf) (y : Int32) (h : inR 17 y = false) : PC 156 [.ref 146, .int y] (HP sl ρ rf) (some (.int (-1))) (HP sl ρ rf) := by
  refine PC_of (cd := p_c_X5_count) (L0 := [some (.ref 146), some (.int y)]) rfl rfl ?_
  refine R_ld1 rfl ?_
  refine R_sw rfl (if_pos (inR_fi (n := 17) (by decide) h)) ?_
  refine R_i rfl ?_
  exact R_iret rfl (rfl)

theorem x_count_0 (hrf : RFok rf) (hR : Rel σ (ρ 147) n rc) : PC 156 [.ref 146, .int (nI 0)] (HP sl ρ rf) (some (.int (nI n))) (HP sl ρ rf) := by
  refine PC_of (cd := p_c_X5_count) (L0 := [some (.ref 146), some (.int (nI 0))]) rfl rfl ?_
  refine R_ld1 rfl ?_
  refine R_swN rfl (by omega) rfl ?_
  refine R_la0 rfl ?_
  refine R_getR rfl sh_146 rfl (rf_146_0 hrf) ?_
  refine R_n 1 rfl rfl ?_
  refine R_ald rfl sh_147 (by first | decide | omega) (by omega) hR.b.2.2.1 ?_
  exact R_iret rfl (rfl)

theorem x_count_1 (hrf : RFok rf) (hR : Rel σ (ρ 147) n rc) : PC 156 [.ref 146, .int (nI 1)] (HP sl ρ rf) (some (.int (bcI (M (cS σ n))))) (HP sl ρ rf) := by
  refine PC_of (cd := p_c_X5_count) (L0 := [some (.ref 146), some (.int (nI 1))]) rfl rfl ?_
  refine R_ld1 rfl ?_
  refine R_swN rfl (by omega) rfl ?_
  refine R_la0 rfl ?_
  refine R_c1 rfl (x_closedOnes hrf hR) rfl rfl rfl sh_146 rfl rfl ?_
  refine R_c0 rfl (x_bits (is16_M _)) rfl rfl rfl ?_
  exact R_iret rfl (rfl)

theorem x_count_2 (hrf : RFok rf) (hR : Rel σ (ρ 147) n rc) : PC 156 [.ref 146, .int (nI 2)] (HP sl ρ rf) (some (.int (nI (fb_ct (ov σ) n)))) (HP sl ρ rf) := by
  refine PC_of (cd := p_c_X5_count) (L0 := [some (.ref 146), some (.int (nI 2))]) rfl rfl ?_
  refine R_ld1 rfl ?_
  refine R_swN rfl (by omega) rfl ?_
  refine R_la0 rfl ?_
  refine R_ld1 rfl ?_
  refine R_c1 rfl (x_oi_2 hrf hR) rfl rfl rfl sh_146 rfl rfl ?_
  exact R_iret rfl (rfl)

theorem x_count_3 (hrf : RFok rf) (hR : Rel σ (ρ 147) n rc) : PC 156 [.ref 146, .int (nI 3)] (HP sl ρ rf) (some (.int (nI (fb_ct (br σ) n)))) (HP sl ρ rf) := by
  refine PC_of (cd := p_c_X5_count) (L0 := [some (.ref 146), some (.int (nI 3))]) rfl rfl ?_
  refine R_ld1 rfl ?_
  refine R_swN rfl (by omega) rfl ?_
  refine R_la0 rfl ?_
  refine R_c1 rfl (x_bridges hrf hR) rfl rfl rfl sh_146 rfl rfl ?_
  exact R_iret rfl (rfl)

theorem x_count_4 (hrf : RFok rf) (hR : Rel σ (ρ 147) n rc) : PC 156 [.ref 146, .int (nI 4)] (HP sl ρ rf) (some (.int (nI (fb_ct (kL σ) n)))) (HP sl ρ rf) := by
  refine PC_of (cd := p_c_X5_count) (L0 := [some (.ref 146), some (.int (nI 4))]) rfl rfl ?_
  refine R_ld1 rfl ?_
  refine R_swN rfl (by omega) rfl ?_
  refine R_la0 rfl ?_
  refine R_c1 rfl (x_keysIn hrf hR) rfl rfl rfl sh_146 rfl rfl ?_
  exact R_iret rfl (rfl)

theorem x_count_5 (hrf : RFok rf) (hR : Rel σ (ρ 147) n rc) : PC 156 [.ref 146, .int (nI 5)] (HP sl ρ rf) (some (.int (bcI (σ 12 0)))) (HP sl ρ rf) := by
  refine PC_of (cd := p_c_X5_count) (L0 := [some (.ref 146), some (.int (nI 5))]) rfl rfl ?_
  refine R_ld1 rfl ?_
  refine R_swN rfl (by omega) rfl ?_
  refine R_la0 rfl ?_
  refine R_c1 rfl (x_running hrf hR) rfl rfl rfl sh_146 rfl rfl ?_
  refine R_c0 rfl (x_bits (by rw [hR.hr]; exact is16_M _)) rfl rfl rfl ?_
  exact R_iret rfl (rfl)

theorem x_count_6 (hrf : RFok rf) (hR : Rel σ (ρ 147) n rc) : PC 156 [.ref 146, .int (nI 6)] (HP sl ρ rf) (some (.int (nI (fb_ct (fun m => pmI (rw0 σ m) (rc m) (M (cS σ n))) 6)))) (HP sl ρ rf) := by
  refine PC_of (cd := p_c_X5_count) (L0 := [some (.ref 146), some (.int (nI 6))]) rfl rfl ?_
  refine R_ld1 rfl ?_
  refine R_swN rfl (by omega) rfl ?_
  refine R_la0 rfl ?_
  refine R_ld1 rfl ?_
  refine R_c1 rfl (x_om_6 hrf hR) rfl rfl rfl sh_146 rfl rfl ?_
  exact R_iret rfl (rfl)

theorem x_count_7 (hrf : RFok rf) (hR : Rel σ (ρ 147) n rc) : PC 156 [.ref 146, .int (nI 7)] (HP sl ρ rf) (some (.int (nI (fb_ct (fun m => decide (¬ σ 16 m = -1)) 6)))) (HP sl ρ rf) := by
  refine PC_of (cd := p_c_X5_count) (L0 := [some (.ref 146), some (.int (nI 7))]) rfl rfl ?_
  refine R_ld1 rfl ?_
  refine R_swN rfl (by omega) rfl ?_
  refine R_la0 rfl ?_
  refine R_ld1 rfl ?_
  refine R_c1 rfl (x_om_7 hrf hR) rfl rfl rfl sh_146 rfl rfl ?_
  exact R_iret rfl (rfl)

theorem x_count_8 (hrf : RFok rf) (hR : Rel σ (ρ 147) n rc) : PC 156 [.ref 146, .int (nI 8)] (HP sl ρ rf) (some (.int (σ 3 1))) (HP sl ρ rf) := by
  refine PC_of (cd := p_c_X5_count) (L0 := [some (.ref 146), some (.int (nI 8))]) rfl rfl ?_
  refine R_ld1 rfl ?_
  refine R_swN rfl (by omega) rfl ?_
  refine R_la0 rfl ?_
  refine R_getR rfl sh_146 rfl (rf_146_0 hrf) ?_
  refine R_n 0 rfl rfl ?_
  refine R_ald rfl sh_147 (by first | decide | omega) (by omega) hR.b.2.2.2.1 ?_
  exact R_iret rfl (rfl)

theorem x_count_9 (hrf : RFok rf) (hR : Rel σ (ρ 147) n rc) : PC 156 [.ref 146, .int (nI 9)] (HP sl ρ rf) (some (.int (sI (σ 21) 6))) (HP sl ρ rf) := by
  refine PC_of (cd := p_c_X5_count) (L0 := [some (.ref 146), some (.int (nI 9))]) rfl rfl ?_
  refine R_ld1 rfl ?_
  refine R_swN rfl (by omega) rfl ?_
  refine R_la0 rfl ?_
  refine R_ld1 rfl ?_
  refine R_c1 rfl (x_om_9 hrf hR) rfl rfl rfl sh_146 rfl rfl ?_
  exact R_iret rfl (rfl)

theorem x_count_10 (hrf : RFok rf) (hR : Rel σ (ρ 147) n rc) : PC 156 [.ref 146, .int (nI 10)] (HP sl ρ rf) (some (.int (sI (σ 19) 6))) (HP sl ρ rf) := by
  refine PC_of (cd := p_c_X5_count) (L0 := [some (.ref 146), some (.int (nI 10))]) rfl rfl ?_
  refine R_ld1 rfl ?_
  refine R_swN rfl (by omega) rfl ?_
  refine R_la0 rfl ?_
  refine R_ld1 rfl ?_
  refine R_c1 rfl (x_om_10 hrf hR) rfl rfl rfl sh_146 rfl rfl ?_
  exact R_iret rfl (rfl)

theorem x_count_11 (hrf : RFok rf) (hR : Rel σ (ρ 147) n rc) : PC 156 [.ref 146, .int (nI 11)] (HP sl ρ rf) (some (.int (sI (σ 18) 6))) (HP sl ρ rf) := by
  refine PC_of (cd := p_c_X5_count) (L0 := [some (.ref 146), some (.int (nI 11))]) rfl rfl ?_
  refine R_ld1 rfl ?_
  refine R_swN rfl (by omega) rfl ?_
  refine R_la0 rfl ?_
  refine R_ld1 rfl ?_
  refine R_c1 rfl (x_om_11 hrf hR) rfl rfl rfl sh_146 rfl rfl ?_
  exact R_iret rfl (rfl)

theorem x_count_12 (hrf : RFok rf) (hR : Rel σ (ρ 147) n rc) : PC 156 [.ref 146, .int (nI 12)] (HP sl ρ rf) (some (.int (sI (σ 9) n))) (HP sl ρ rf) := by
  refine PC_of (cd := p_c_X5_count) (L0 := [some (.ref 146), some (.int (nI 12))]) rfl rfl ?_
  refine R_ld1 rfl ?_
  refine R_swN rfl (by omega) rfl ?_
  refine R_la0 rfl ?_
  refine R_ld1 rfl ?_
  refine R_c1 rfl (x_oi_12 hrf hR) rfl rfl rfl sh_146 rfl rfl ?_
  exact R_iret rfl (rfl)

theorem x_count_13 (hrf : RFok rf) (hR : Rel σ (ρ 147) n rc) : PC 156 [.ref 146, .int (nI 13)] (HP sl ρ rf) (some (.int (σ 3 2))) (HP sl ρ rf) := by
  refine PC_of (cd := p_c_X5_count) (L0 := [some (.ref 146), some (.int (nI 13))]) rfl rfl ?_
  refine R_ld1 rfl ?_
  refine R_swN rfl (by omega) rfl ?_
  refine R_la0 rfl ?_
  refine R_getR rfl sh_146 rfl (rf_146_0 hrf) ?_
  refine R_n 2 rfl rfl ?_
  refine R_ald rfl sh_147 (by first | decide | omega) (by omega) hR.b.2.2.2.2 ?_
  exact R_iret rfl (rfl)

theorem x_count_14 (hrf : RFok rf) : PC 156 [.ref 146, .int (nI 14)] (HP sl ρ rf) (some (.int (ρ 146 2))) (HP sl ρ rf) := by
  refine PC_of (cd := p_c_X5_count) (L0 := [some (.ref 146), some (.int (nI 14))]) rfl rfl ?_
  refine R_ld1 rfl ?_
  refine R_swN rfl (by omega) rfl ?_
  refine R_la0 rfl ?_
  refine R_getI rfl sh_146 rfl rfl ?_
  exact R_iret rfl (rfl)

theorem x_count_15 (hrf : RFok rf) : PC 156 [.ref 146, .int (nI 15)] (HP sl ρ rf) (some (.int (ρ 146 6))) (HP sl ρ rf) := by
  refine PC_of (cd := p_c_X5_count) (L0 := [some (.ref 146), some (.int (nI 15))]) rfl rfl ?_
  refine R_ld1 rfl ?_
  refine R_swN rfl (by omega) rfl ?_
  refine R_la0 rfl ?_
  refine R_getI rfl sh_146 rfl rfl ?_
  exact R_iret rfl (rfl)

theorem x_count_16 (hrf : RFok rf) {b0 b1 : Bool} (hb0 : ρ 150 0 = bI b0) (hb1 : ρ 150 1 = bI b1) : PC 156 [.ref 146, .int (nI 16)] (HP sl ρ rf) (some (.int (bI b0 + bI b1))) (HP sl ρ rf) := by
  refine PC_of (cd := p_c_X5_count) (L0 := [some (.ref 146), some (.int (nI 16))]) rfl rfl ?_
  refine R_ld1 rfl ?_
  refine R_swN rfl (by omega) rfl ?_
  refine R_la0 rfl ?_
  refine R_getR rfl sh_146 rfl (rf_146_4 hrf) ?_
  refine R_n 0 rfl rfl ?_
  refine R_ald rfl sh_150 (by first | decide | omega) (by omega) hb0 ?_
  refine R_c0 rfl (x_one _) rfl rfl rfl ?_
  refine R_la0 rfl ?_
  refine R_getR rfl sh_146 rfl (rf_146_4 hrf) ?_
  refine R_n 1 rfl rfl ?_
  refine R_ald rfl sh_150 (by first | decide | omega) (by omega) hb1 ?_
  refine R_c0 rfl (x_one _) rfl rfl rfl ?_
  refine R_add rfl ?_
  exact R_iret rfl (rfl)

theorem bc2 {x : Int32} (h : ∀ i, 2 ≤ i → bt x i = false) : bcI x = bI (bt x 0) + bI (bt x 1) := by
  have e : x = M (fun i => decide (i < 2) && bt x i) := M_eq fun i hi => by
    by_cases h2 : i < 2
    · simp [h2, show i < 16 by omega]
    · rw [h i (by omega), decide_eq_false h2]; simp
  have e2 : bcI x = nI (fb_ct (bt x) 2) := by
    have e3 := congrArg bcI e
    rw [bc_M] at e3
    rw [e3]
    congr 1
    show mc _ = _
    rw [mc_ct]
    exact ct_cut (bt x) 2 14
  rw [e2, fb_ct_succ, fb_ct_succ, show fb_ct (bt x) 0 = 0 from rfl]
  cases bt x 0 <;> cases bt x 1 <;> decide
theorem sI_z {f : Nat → Int32} {n : Nat} : ∀ k, (∀ i, n ≤ i → i < n + k → f i = 0) → sI f (n + k) = sI f n
  | 0, _ => rfl
  | k + 1, h => by
    show sI f (n + k) + f (n + k) = _
    rw [sI_z k (fun i h1 h2 => h i h1 (by omega)), h (n + k) (by omega) (by omega), Int32.add_zero]
theorem o_count (hF : FI s ρ rf) (y : Int32) : Ag sl s 66 156 [.int y] ρ rf := by
  obtain ⟨n, rc, t, hR, ht, ht1, hB⟩ := hF.2.2.1
  have hrf := hF.1
  have hn16 := hR.b.1
  obtain ⟨hh, p, hh1, hh2, hh3, hh4, hh5⟩ := hF.2.2.2.1
  have hS := hF.2.2.2.2.1
  obtain ⟨T, l, hT, hT2, hT3, hT4⟩ := hF.2.2.2.2.2
  cases hy : inR 17 y with
  | false => exact Ag_p hF (c_count_bad hrf y hy) (x_count_bad hrf y hy)
  | true =>
    obtain ⟨w, hw, rfl⟩ := inR_c (by decide) hy
    rcases (show w = 0 ∨ w = 1 ∨ w = 2 ∨ w = 3 ∨ w = 4 ∨ w = 5 ∨ w = 6 ∨ w = 7 ∨ w = 8 ∨ w = 9 ∨ w = 10 ∨ w = 11 ∨ w = 12 ∨ w = 13 ∨ w = 14 ∨ w = 15 ∨ w = 16 by omega) with rfl | rfl | rfl | rfl | rfl | rfl | rfl | rfl | rfl | rfl | rfl | rfl | rfl | rfl | rfl | rfl | rfl
    · exact Ag_p hF (c_count_0 (sl := sl) (ρ := ρ) hrf hR.b.2.1 hn16 hR.hc (fun m hm => ⟨(hR.m hm).2.1, (hR.m hm).1⟩)) (x_count_0 hrf hR)
    · exact Ag_p hF (c_count_1 (sl := sl) (ρ := ρ) hrf hR.b.2.1 hn16 hR.hc (fun m hm => ⟨(hR.m hm).2.1, (hR.m hm).1⟩)) (x_count_1 hrf hR)
    · exact Ag_p hF (by have h := c_count_2 (sl := sl) (ρ := ρ) hrf hR.b.2.1 hn16 hR.hc (fun m hm => ⟨(hR.m hm).2.1, (hR.m hm).1⟩); rw [bc_wA hn16] at h; exact h) (x_count_2 hrf hR)
    · exact Ag_p hF (by have h := c_count_3 (sl := sl) (ρ := ρ) hrf hR.b.2.1 hn16 hR.hc (fun m hm => ⟨(hR.m hm).2.1, (hR.m hm).1⟩); rw [bc_wA hn16] at h; exact h) (x_count_3 hrf hR)
    · exact Ag_p hF (c_count_4 (sl := sl) (ρ := ρ) hrf hR.b.2.1 hn16 hR.hc (fun m hm => ⟨(hR.m hm).2.1, (hR.m hm).1⟩)) (x_count_4 hrf hR)
    · exact Ag_p hF (c_count_5 (sl := sl) (ρ := ρ) hrf hR.b.2.1 hn16 hR.hc (fun m hm => ⟨(hR.m hm).2.1, (hR.m hm).1⟩)) (x_count_5 hrf hR)
    · exact Ag_p hF (c_count_6 (sl := sl) (ρ := ρ) hrf hR.b.2.1 hn16 hR.hc (fun m hm => ⟨(hR.m hm).2.1, (hR.m hm).1⟩)) (x_count_6 hrf hR)
    · exact Ag_p hF (c_count_7 (sl := sl) (ρ := ρ) hrf) (x_count_7 hrf hR)
    · exact Ag_p hF (c_count_8 (sl := sl) (ρ := ρ) hrf) (x_count_8 hrf hR)
    · exact Ag_p hF (c_count_9 (sl := sl) (ρ := ρ) hrf) (x_count_9 hrf hR)
    · exact Ag_p hF (c_count_10 (sl := sl) (ρ := ρ) hrf) (x_count_10 hrf hR)
    · exact Ag_p hF (c_count_11 (sl := sl) (ρ := ρ) hrf) (x_count_11 hrf hR)
    · exact Ag_p hF (by have h := c_count_12 (sl := sl) (ρ := ρ) hrf; rw [show sI (ρ 9) 16 = sI (ρ 9) n by have e := sI_z (f := ρ 9) (n := n) (16 - n) (fun i h1 h2 => (hR.z h1 (by omega)).2.1); rw [show n + (16 - n) = 16 by omega] at e; exact e] at h; exact h) (x_count_12 hrf hR)
    · exact Ag_p hF (c_count_13 (sl := sl) (ρ := ρ) hrf) (x_count_13 hrf hR)
    · exact Ag_p hF (by have h := c_count_14 (sl := sl) (ρ := ρ) hrf; rw [hh3, ← hh4] at h; exact h) (x_count_14 hrf)
    · exact Ag_p hF (by have h := c_count_15 (sl := sl) (ρ := ρ) hrf; rw [hT.1, ← hT3] at h; exact h) (x_count_15 hrf)
    · exact Ag_p hF (by have h := c_count_16 (sl := sl) (ρ := ρ) hrf; rw [bc2 hS.1] at h; exact h) (x_count_16 hrf (hS.2 0 (by decide)).1 (hS.2 1 (by decide)).1)
end
