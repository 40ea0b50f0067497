/-! one call in both, on: snapshot, restore, undo, type, clearText -/
section
variable {sl : Nat} {s : Nat → Int32} {ρ ρr ρn ρt σ : pR} {rf : pF} {n : Nat} {rc : Nat → Nat}
theorem x_snap_bad (x : Int32) (h : inR 2 x = false) : PC 157 [.ref 146, .int x] (HP sl ρ rf) (some (.int (-1))) (HP sl ρ rf) := by
  refine PC_of (cd := p_c_X5_snapshot) (L0 := [some (.ref 146), some (.int x), none]) rfl rfl ?_
  refine R_ld1 rfl ?_
  refine R_c0 rfl (x_isTwo _) rfl rfl rfl ?_
  refine BB_ne rfl (fun g2 => ?_) (fun g2 => ?_)
  · revert h; simp_all
  · refine R_i rfl ?_
    exact R_iret rfl (rfl)

theorem x_snap_ (hrf : RFok rf) {i : Nat} (hi : i < 2) {q : Int32} (hct : PC 156 [.ref 146, .int (nI 16)] (HP sl (u2 (u1 ρ 149 (cpy (ρ 149) i (ρ 147) 263)) 150 i (nI 1)) rf) (some (.int q)) (HP sl (u2 (u1 ρ 149 (cpy (ρ 149) i (ρ 147) 263)) 150 i (nI 1)) rf)) : PC 157 [.ref 146, .int (nI i)] (HP sl ρ rf) (some (.int q)) (HP sl (u2 (u1 ρ 149 (cpy (ρ 149) i (ρ 147) 263)) 150 i (nI 1)) rf) := by
  have hl := down (n := 263) (P := fun j => PW p_c_X5_snapshot 7 [some (.ref 146), some (.int (nI i)), some (.int (nI j))] [] (HP sl (u1 ρ 149 (cpy (ρ 149) i (ρ 147) j)) rf) (fun zz => zz = ((some (.int q)), HP sl (u2 (u1 ρ 149 (cpy (ρ 149) i (ρ 147) 263)) 150 i (nI 1)) rf))) ?_ ?_
  · refine PC_of (cd := p_c_X5_snapshot) (L0 := [some (.ref 146), some (.int (nI i)), none]) rfl rfl ?_
    refine R_ld1 rfl ?_
    refine R_c0 rfl (x_isTwo _) rfl rfl rfl ?_
    refine BB_neT rfl (inR_N hi (by omega)) ?_
    refine R_n 0 rfl rfl ?_
    refine R_st2 rfl ?_
    exact PW_eq (by rw [cpy_0, u1_id]) (hl 0 (Nat.zero_le _))
  · refine R_ld2 rfl ?_
    refine R_n 263 rfl rfl ?_
    refine N2_geT rfl (by omega) (by omega) (by omega) ?_
    refine R_la0 rfl ?_
    refine R_getR rfl sh_146 rfl (rf_146_4 hrf) ?_
    refine R_ld1 rfl ?_
    refine R_n 1 rfl rfl ?_
    refine R_zst rfl sh_150 (by decide) (by omega) ?_
    refine R_la0 rfl ?_
    refine R_n 16 rfl rfl ?_
    refine R_c1 rfl (hct) rfl rfl rfl sh_146 rfl rfl ?_
    exact R_iret rfl (rfl)
  · intro j hj hnext
    refine R_ld2 rfl ?_
    refine R_n 263 rfl rfl ?_
    refine N2_geF rfl (by omega) (by omega) (hj) ?_
    refine R_la0 rfl ?_
    refine R_getR rfl sh_146 rfl (rf_146_3 hrf) ?_
    refine R_n 263 rfl rfl ?_
    refine R_ld1 rfl ?_
    refine R_mulN rfl ?_
    refine R_ld2 rfl ?_
    refine R_addN rfl ?_
    refine R_la0 rfl ?_
    refine R_getR rfl sh_146 rfl (rf_146_0 hrf) ?_
    refine R_ld2 rfl ?_
    refine R_ald rfl sh_147 (by first | decide | omega) (by omega) (show _ = ρ 147 j by (try simp (disch := omega) only [u2_at, u2_ne, up_eq, up_ne, u1_at, u1_ne])) ?_
    refine R_ast rfl sh_149 (by decide) (by omega) ?_
    refine R_in2 rfl rfl ?_
    refine R_goto rfl ?_
    exact PW_eq (by rw [u2_u1, cpy_s]) hnext

theorem o_snap (hF : FI s ρ rf) (x : Int32) : Ag sl s 67 157 [.int x] ρ rf := by
  obtain ⟨n, rc, t, hR, ht, ht1, hB⟩ := hF.2.2.1
  have hrf := hF.1
  have hn16 := hR.b.1
  obtain ⟨hh, p, hh1⟩ := hF.2.2.2.1
  have hS := hF.2.2.2.2.1
  cases hx : inR 2 x with
  | false => exact Ag_p hF (c_snap_bad x hx) (x_snap_bad x hx)
  | true =>
    rcases inR_2.mp hx with rfl | rfl
    · have hm := c_snap_0 (sl := sl) (ρ := ρ) hrf
      have hlo : ∀ k, k ≠ 1 → ¬ (104 < k ∧ k < 124) → u2 (cpS 104 2 ρ) 1 4 (wI (ρ 1 4) 0 true) k = ρ k := fun k k1 k2 => by rw [u2_ne k1, cpS_out (by omega)]
      have h1 : u2 (cpS 104 2 ρ) 1 4 (wI (ρ 1 4) 0 true) 1 = upd (ρ 1) 4 (wI (ρ 1 4) 0 true) := by rw [u2_at, cpS_out (by omega)]
      have hb0 : ∀ j, 2 ≤ j → bt (wI (ρ 1 4) 0 true) j = false := fun j hj => by rw [wI_ne (by decide) (by omega)]; exact hS.1 j hj
      have q0 : (u2 (u1 (u2 (cpS 104 2 ρ) 1 4 (wI (ρ 1 4) 0 true)) 149 (cpy ((u2 (cpS 104 2 ρ) 1 4 (wI (ρ 1 4) 0 true)) 149) 0 ((u2 (cpS 104 2 ρ) 1 4 (wI (ρ 1 4) 0 true)) 147) 263)) 150 0 (nI 1)) 150 0 = bI (bt (wI (ρ 1 4) 0 true) 0) := by
        rw [u2_at, up_eq, wI_at (by decide)]; rfl
      have q1 : (u2 (u1 (u2 (cpS 104 2 ρ) 1 4 (wI (ρ 1 4) 0 true)) 149 (cpy ((u2 (cpS 104 2 ρ) 1 4 (wI (ρ 1 4) 0 true)) 149) 0 ((u2 (cpS 104 2 ρ) 1 4 (wI (ρ 1 4) 0 true)) 147) 263)) 150 0 (nI 1)) 150 1 = bI (bt (wI (ρ 1 4) 0 true) 1) := by
        rw [u2_at, up_ne (by decide), u1_ne (by decide), hlo 150 (by decide) (by decide), wI_ne (by decide) (by decide)]
        exact (hS.2 1 (by decide)).1
      have hx := x_snap_ (sl := sl) (ρ := u2 (cpS 104 2 ρ) 1 4 (wI (ρ 1 4) 0 true)) hrf (i := 0) (by decide) (x_count_16 hrf (b0 := bt (wI (ρ 1 4) 0 true) 0) (b1 := bt (wI (ρ 1 4) 0 true) 1) q0 q1)
      rw [← bc2 hb0] at hx
      refine ⟨_, _, _, _, hm, hx, hrf, ?_, ?_, ⟨hh, p, HI_f (ρ := ρ) ?_ ?_ ?_ (fun k k1 k2 => ?_) hh1⟩, ?_, TI_f (ρ := ρ) ?_ ?_ ?_ ?_ hF.2.2.2.2.2⟩
      · rw [u2_ne (by decide), u1_ne (by decide), hlo 0 (by decide) (by decide)]; exact hF.2.1
      · refine StR_V (VEq_k fun k k1 k2 => ?_) (fun j _ => ?_) hF.2.2.1
        · rw [u2_ne (by omega), u1_ne (by omega), hlo k (by omega) (by omega)]
        · rw [u2_ne (by decide), u1_ne (by decide), hlo 147 (by decide) (by decide)]
      · rw [u2_ne (by decide), u1_ne (by decide), h1, up_ne (by decide)]
      · rw [u2_ne (by decide), u1_ne (by decide), hlo 146 (by decide) (by decide)]
      · rw [u2_ne (by decide), u1_ne (by decide), hlo 148 (by decide) (by decide)]
      · rw [u2_ne (by omega), u1_ne (by omega), hlo k (by omega) (by omega)]
      · have e14 : (u2 (u1 (u2 (cpS 104 2 ρ) 1 4 (wI (ρ 1 4) 0 true)) 149 (cpy ((u2 (cpS 104 2 ρ) 1 4 (wI (ρ 1 4) 0 true)) 149) 0 ((u2 (cpS 104 2 ρ) 1 4 (wI (ρ 1 4) 0 true)) 147) 263)) 150 0 (nI 1)) 1 4 = wI (ρ 1 4) 0 true := by rw [u2_ne (by decide), u1_ne (by decide), h1, up_eq]
        have e149 : (u2 (u1 (u2 (cpS 104 2 ρ) 1 4 (wI (ρ 1 4) 0 true)) 149 (cpy ((u2 (cpS 104 2 ρ) 1 4 (wI (ρ 1 4) 0 true)) 149) 0 ((u2 (cpS 104 2 ρ) 1 4 (wI (ρ 1 4) 0 true)) 147) 263)) 150 0 (nI 1)) 149 = cpy (ρ 149) 0 (ρ 147) 263 := by rw [u2_ne (by decide), u1_at, hlo 149 (by decide) (by decide), hlo 147 (by decide) (by decide)]
        unfold SI
        rw [e14]
        refine ⟨hb0, fun j hj => ?_⟩
        rcases (show j = 0 ∨ j = 1 by omega) with rfl | rfl
        · refine ⟨q0, fun _ => ?_⟩
          rw [e149]
          have hv := cpS_V (r := ρ) (a := 104) (b := 2) (by omega)
          have hv2 := VEq_vw (by decide) (by decide) (hv.trans (VEq.of (ρ' := u2 (u1 (u2 (cpS 104 2 ρ) 1 4 (wI (ρ 1 4) 0 true)) 149 (cpy ((u2 (cpS 104 2 ρ) 1 4 (wI (ρ 1 4) 0 true)) 149) 0 ((u2 (cpS 104 2 ρ) 1 4 (wI (ρ 1 4) 0 true)) 147) 263)) 150 0 (nI 1)) fun k k1 k2 => by rw [u2_ne (by omega), u1_ne (by omega), u2_ne (by omega)]))
          rw [vw_2] at hv2
          exact StR_V hv2 (sg_cpy _ _ _) hF.2.2.1
        · refine ⟨q1, fun hb => ?_⟩
          rw [wI_ne (by decide) (by decide)] at hb
          rw [e149]
          exact StR_V (VEq_vw (by decide) (by decide) (VEq.of fun k k1 k2 => by rw [u2_ne (by omega), u1_ne (by omega), hlo k (by omega) (by omega)])) (fun s' hs' => by unfold sg cpy; rw [if_neg (by omega)]) ((hS.2 1 (by decide)).2 hb)
      · rw [u2_ne (by decide), u1_ne (by decide), hlo 144 (by decide) (by decide)]
      · rw [u2_ne (by decide), u1_ne (by decide), hlo 145 (by decide) (by decide)]
      · rw [u2_ne (by decide), u1_ne (by decide), hlo 146 (by decide) (by decide)]
      · rw [u2_ne (by decide), u1_ne (by decide), hlo 151 (by decide) (by decide)]
    · have hm := c_snap_1 (sl := sl) (ρ := ρ) hrf
      have hlo : ∀ k, k ≠ 1 → ¬ (124 < k ∧ k < 144) → u2 (cpS 124 2 ρ) 1 4 (wI (ρ 1 4) 1 true) k = ρ k := fun k k1 k2 => by rw [u2_ne k1, cpS_out (by omega)]
      have h1 : u2 (cpS 124 2 ρ) 1 4 (wI (ρ 1 4) 1 true) 1 = upd (ρ 1) 4 (wI (ρ 1 4) 1 true) := by rw [u2_at, cpS_out (by omega)]
      have hb0 : ∀ j, 2 ≤ j → bt (wI (ρ 1 4) 1 true) j = false := fun j hj => by rw [wI_ne (by decide) (by omega)]; exact hS.1 j hj
      have q0 : (u2 (u1 (u2 (cpS 124 2 ρ) 1 4 (wI (ρ 1 4) 1 true)) 149 (cpy ((u2 (cpS 124 2 ρ) 1 4 (wI (ρ 1 4) 1 true)) 149) 1 ((u2 (cpS 124 2 ρ) 1 4 (wI (ρ 1 4) 1 true)) 147) 263)) 150 1 (nI 1)) 150 1 = bI (bt (wI (ρ 1 4) 1 true) 1) := by
        rw [u2_at, up_eq, wI_at (by decide)]; rfl
      have q1 : (u2 (u1 (u2 (cpS 124 2 ρ) 1 4 (wI (ρ 1 4) 1 true)) 149 (cpy ((u2 (cpS 124 2 ρ) 1 4 (wI (ρ 1 4) 1 true)) 149) 1 ((u2 (cpS 124 2 ρ) 1 4 (wI (ρ 1 4) 1 true)) 147) 263)) 150 1 (nI 1)) 150 0 = bI (bt (wI (ρ 1 4) 1 true) 0) := by
        rw [u2_at, up_ne (by decide), u1_ne (by decide), hlo 150 (by decide) (by decide), wI_ne (by decide) (by decide)]
        exact (hS.2 0 (by decide)).1
      have hx := x_snap_ (sl := sl) (ρ := u2 (cpS 124 2 ρ) 1 4 (wI (ρ 1 4) 1 true)) hrf (i := 1) (by decide) (x_count_16 hrf (b0 := bt (wI (ρ 1 4) 1 true) 0) (b1 := bt (wI (ρ 1 4) 1 true) 1) q1 q0)
      rw [← bc2 hb0] at hx
      refine ⟨_, _, _, _, hm, hx, hrf, ?_, ?_, ⟨hh, p, HI_f (ρ := ρ) ?_ ?_ ?_ (fun k k1 k2 => ?_) hh1⟩, ?_, TI_f (ρ := ρ) ?_ ?_ ?_ ?_ hF.2.2.2.2.2⟩
      · rw [u2_ne (by decide), u1_ne (by decide), hlo 0 (by decide) (by decide)]; exact hF.2.1
      · refine StR_V (VEq_k fun k k1 k2 => ?_) (fun j _ => ?_) hF.2.2.1
        · rw [u2_ne (by omega), u1_ne (by omega), hlo k (by omega) (by omega)]
        · rw [u2_ne (by decide), u1_ne (by decide), hlo 147 (by decide) (by decide)]
      · rw [u2_ne (by decide), u1_ne (by decide), h1, up_ne (by decide)]
      · rw [u2_ne (by decide), u1_ne (by decide), hlo 146 (by decide) (by decide)]
      · rw [u2_ne (by decide), u1_ne (by decide), hlo 148 (by decide) (by decide)]
      · rw [u2_ne (by omega), u1_ne (by omega), hlo k (by omega) (by omega)]
      · have e14 : (u2 (u1 (u2 (cpS 124 2 ρ) 1 4 (wI (ρ 1 4) 1 true)) 149 (cpy ((u2 (cpS 124 2 ρ) 1 4 (wI (ρ 1 4) 1 true)) 149) 1 ((u2 (cpS 124 2 ρ) 1 4 (wI (ρ 1 4) 1 true)) 147) 263)) 150 1 (nI 1)) 1 4 = wI (ρ 1 4) 1 true := by rw [u2_ne (by decide), u1_ne (by decide), h1, up_eq]
        have e149 : (u2 (u1 (u2 (cpS 124 2 ρ) 1 4 (wI (ρ 1 4) 1 true)) 149 (cpy ((u2 (cpS 124 2 ρ) 1 4 (wI (ρ 1 4) 1 true)) 149) 1 ((u2 (cpS 124 2 ρ) 1 4 (wI (ρ 1 4) 1 true)) 147) 263)) 150 1 (nI 1)) 149 = cpy (ρ 149) 1 (ρ 147) 263 := by rw [u2_ne (by decide), u1_at, hlo 149 (by decide) (by decide), hlo 147 (by decide) (by decide)]
        unfold SI
        rw [e14]
        refine ⟨hb0, fun j hj => ?_⟩
        rcases (show j = 1 ∨ j = 0 by omega) with rfl | rfl
        · refine ⟨q0, fun _ => ?_⟩
          rw [e149]
          have hv := cpS_V (r := ρ) (a := 124) (b := 2) (by omega)
          have hv2 := VEq_vw (by decide) (by decide) (hv.trans (VEq.of (ρ' := u2 (u1 (u2 (cpS 124 2 ρ) 1 4 (wI (ρ 1 4) 1 true)) 149 (cpy ((u2 (cpS 124 2 ρ) 1 4 (wI (ρ 1 4) 1 true)) 149) 1 ((u2 (cpS 124 2 ρ) 1 4 (wI (ρ 1 4) 1 true)) 147) 263)) 150 1 (nI 1)) fun k k1 k2 => by rw [u2_ne (by omega), u1_ne (by omega), u2_ne (by omega)]))
          rw [vw_2] at hv2
          exact StR_V hv2 (sg_cpy _ _ _) hF.2.2.1
        · refine ⟨q1, fun hb => ?_⟩
          rw [wI_ne (by decide) (by decide)] at hb
          rw [e149]
          exact StR_V (VEq_vw (by decide) (by decide) (VEq.of fun k k1 k2 => by rw [u2_ne (by omega), u1_ne (by omega), hlo k (by omega) (by omega)])) (fun s' hs' => by unfold sg cpy; rw [if_neg (by omega)]) ((hS.2 0 (by decide)).2 hb)
      · rw [u2_ne (by decide), u1_ne (by decide), hlo 144 (by decide) (by decide)]
      · rw [u2_ne (by decide), u1_ne (by decide), hlo 145 (by decide) (by decide)]
      · rw [u2_ne (by decide), u1_ne (by decide), hlo 146 (by decide) (by decide)]
      · rw [u2_ne (by decide), u1_ne (by decide), hlo 151 (by decide) (by decide)]
end
