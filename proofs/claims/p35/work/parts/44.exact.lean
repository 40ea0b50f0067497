/-! calls with their answers: inputs and rows that are added, snapshots, restore, undo -/
theorem row_in {w : Nat} (hw : w < 65536) : nI w &&& (M (fun i => decide (i < 16)) ^^^ (-1)) = 0 := by
  rw [M_of hw, M_andn]
  refine M_eq0.mpr fun i hi => ?_
  rw [decide_eq_true hi]
  cases w.testBit i <;> rfl
theorem snap_v : bcI (wI 0 1 true) = nI 1 ∧ wI 0 1 true = nI 2 ∧ bcI (nI 2) = nI 1 ∧ bt (nI 2) 0 = false ∧ bt (nI 2) 1 = true := by decide +kernel
section
variable {sl : pS} {ρ : pR} {rf : pF} {h : Nat → Nat} {p : Nat}
/-- an input is added -/
theorem a_add (hC : CI sl ρ rf h p) {n : Nat} (hn : nOf ρ = n) (h16 : n < 16) (x1 x2 x3 : Int32) {k : Nat} {args : List Value}
    (hM : ∀ (ρa : pR) (rfa : pF), PC 89 [.ref 1] (HP sl ρ rf) none (HP sl ρa rfa) → RFok rfa → ρa 3 0 = nI n → PC k args (HP sl ρ rf) (some (.int (nI n))) (HP sl (adI ρa n x1 x2 x3) rfa)) :
    ∃ (ρ' : pR) (rf' : pF) (h' : Nat → Nat), PC k args (HP sl ρ rf) (some (.int (nI n))) (HP sl ρ' rf') ∧ Aft sl ρ rf h p ρ' rf' h' ∧ nOf ρ' = n + 1 ∧ ρ' 12 = ρ 12 ∧ ρ' 14 = ρ 14 := by
  subst hn
  obtain ⟨a1, a2, a3, a4, a5, a6, a7, a8, a9⟩ := hC.2.1
  obtain ⟨ρa, rfa, ha, g1, g2, g3, g4, -, g5⟩ := rem_step (sl := sl) hC
  have b2 : ρa 3 0 = nI (nOf ρ) := by rw [g3 3 (by decide) (by decide)]; exact a2
  have hM := hM ρa rfa g1 g2 b2
  have e9 : ∀ k, k ≠ 3 → k ≠ 4 → k ≠ 5 → k ≠ 6 → k ≠ 7 → adI ρa (nOf ρ) x1 x2 x3 k = ρa k := fun k h1 h2 h3 h4 h5 => by unfold adI; rw [u2_ne h1, u2_ne h5, u2_ne h4, u2_ne h3, u2_ne h2]
  have e30 : adI ρa (nOf ρ) x1 x2 x3 3 0 = nI (nOf ρ + 1) := by unfold adI; rw [u2_at, up_eq]
  have e3 : ∀ s, s ≠ 0 → adI ρa (nOf ρ) x1 x2 x3 3 s = ρ 3 s := fun s hs => by unfold adI; rw [u2_at, up_ne hs, u2_ne (by decide), u2_ne (by decide), u2_ne (by decide), u2_ne (by decide), g3 3 (by decide) (by decide)]
  have e8 : adI ρa (nOf ρ) x1 x2 x3 8 = ρ 8 := by rw [e9 8 (by decide) (by decide) (by decide) (by decide) (by decide), g3 8 (by decide) (by decide)]
  refine ⟨_, rfa, ha, hM, g5 hM (fun k hk => e9 k (by omega) (by omega) (by omega) (by omega) (by omega)) ?_, nOf_eq (by omega) e30, ?_, ?_⟩
  · exact StC_mk (n := nOf ρ + 1) (t := tOf ρ) (c := cOf ρ) (rc := rcO ρ) (by omega) e30 (by rw [e3 3 (by decide)]; exact a3) (fun m hm => by rw [e9 14 (by decide) (by decide) (by decide) (by decide) (by decide), g3 14 (by decide) (by decide)]; exact a4 m hm) (by rw [e3 1 (by decide)]; exact a5) a6 (brc_n (a8 _ (Nat.le_refl _) h16) e8 a7) (fun i q1 q2 => by rw [e8]; exact a8 i (by omega) q2) (fun m hm => by rw [e9 16 (by decide) (by decide) (by decide) (by decide) (by decide), g3 16 (by decide) (by decide)]; exact a9 m hm)
  · rw [e9 12 (by decide) (by decide) (by decide) (by decide) (by decide), g3 12 (by decide) (by decide)]
  · rw [e9 14 (by decide) (by decide) (by decide) (by decide) (by decide), g3 14 (by decide) (by decide)]
theorem a_sensor (hC : CI sl ρ rf h p) {n : Nat} (hn : nOf ρ = n) (h16 : n < 16) (x : Int32) (h1 : ¬ x < 0) (h2 : x ≤ nI 5000) : ∃ (ρ' : pR) (rf' : pF) (h' : Nat → Nat), PC 42 [.ref 1, .int x] (HP sl ρ rf) (some (.int (nI n))) (HP sl ρ' rf') ∧ Aft sl ρ rf h p ρ' rf' h' ∧ nOf ρ' = n + 1 ∧ ρ' 12 = ρ 12 ∧ ρ' 14 = ρ 14 :=
  a_add hC hn h16 (-1) (-1) x fun ρa rfa q1 q2 q3 => c_sensor_ok hC.1 (by rw [← hn]; exact hC.2.1.2.1) h16 x h1 h2 q1 q2 q3
theorem a_lock (hC : CI sl ρ rf h p) {n k : Nat} (hn : nOf ρ = n) (h16 : n < 16) (hk : k < 6) (y : Int32) (hy : y = -1 ∨ inR n y = true) : ∃ (ρ' : pR) (rf' : pF) (h' : Nat → Nat), PC 43 [.ref 1, .int (nI k), .int y] (HP sl ρ rf) (some (.int (nI n))) (HP sl ρ' rf') ∧ Aft sl ρ rf h p ρ' rf' h' ∧ nOf ρ' = n + 1 ∧ ρ' 12 = ρ 12 ∧ ρ' 14 = ρ 14 :=
  a_add hC hn h16 (nI k) y (nI 0) fun ρa rfa q1 q2 q3 => c_lock_ok hC.1 (by rw [← hn]; exact hC.2.1.2.1) h16 hk y hy q1 q2 q3
theorem a_row (hC : CI sl ρ rf h p) (hn : nOf ρ = 16) (h12 : ρ 12 0 = 0) {m r w : Nat} (hm : m < 6) (hr : rcO ρ m = r) (hr4 : r < 4) (hw0 : 0 < w) (hw : w < 65536) : ∃ (ρ' : pR) (rf' : pF) (h' : Nat → Nat), PC 53 [.ref 1, .int (nI m), .int (nI w)] (HP sl ρ rf) (some (.int (nI (r + 1)))) (HP sl ρ' rf') ∧ Aft sl ρ rf h p ρ' rf' h' ∧ nOf ρ' = 16 ∧ ρ' 12 = ρ 12 ∧ (∀ q, q < 6 → rcO ρ' q = if q = m then r + 1 else rcO ρ q) ∧ ρ' 13 = upd (ρ 13) (m * 4 + r) (nI w) := by
  obtain ⟨a1, a2, a3, a4, a5, a6, a7, a8, a9⟩ := hC.2.1
  obtain ⟨ρa, rfa, ha, g1, g2, g3, g4, -, g5⟩ := rem_step (sl := sl) hC
  have e14 : ρ 14 m = nI r := by rw [← hr]; exact (a4 m hm).1
  have b14 : ρa 14 = ρ 14 := g3 14 (by decide) (by decide)
  have hM := c_row_ok (sl := sl) hC.1 (n := 16) (by rw [← hn]; exact a2) (by decide) hm (nI w) (nI_ne0 hw0 (by omega)) (row_in hw) (by rw [h12]; exact b_0 m) e14 hr4 g1 g2 (by rw [b14]; exact e14)
  have e9 : ∀ k, k ≠ 13 → k ≠ 14 → arS ρa m r (nI w) k = ρa k := fun k h1 h2 => by unfold arS; rw [u2_ne h2, u2_ne h1]
  have n14 : ∀ q, q < 6 → arS ρa m r (nI w) 14 q = nI (if q = m then r + 1 else rcO ρ q) ∧ (if q = m then r + 1 else rcO ρ q) ≤ 4 := fun q hq => by
    unfold arS
    rw [u2_at]
    by_cases e : q = m
    · subst e
      rw [up_eq, if_pos rfl]
      exact ⟨rfl, by omega⟩
    · rw [up_ne e, if_neg e, u2_ne (by decide), b14]
      exact a4 q hq
  refine ⟨_, rfa, ha, hM, g5 hM (fun k hk => e9 k (by omega) (by omega)) ?_, ?_, ?_, fun q hq => rcO_eq (n14 q hq).2 (n14 q hq).1, by unfold arS; rw [u2_ne (by decide), u2_at, g3 13 (by decide) (by decide)]⟩
  · exact StC_mk (n := nOf ρ) (t := tOf ρ) (c := cOf ρ) (rc := fun q => if q = m then r + 1 else rcO ρ q) a1 (by rw [e9 3 (by decide) (by decide), g3 3 (by decide) (by decide)]; exact a2) (by rw [e9 3 (by decide) (by decide), g3 3 (by decide) (by decide)]; exact a3) n14 (by rw [e9 3 (by decide) (by decide), g3 3 (by decide) (by decide)]; exact a5) a6 (brc_e (by rw [e9 8 (by decide) (by decide), g3 8 (by decide) (by decide)]) a7) (fun i q1 q2 => by rw [e9 8 (by decide) (by decide), g3 8 (by decide) (by decide)]; exact a8 i q1 q2) (fun m hm => by rw [e9 16 (by decide) (by decide), g3 16 (by decide) (by decide)]; exact a9 m hm)
  · refine nOf_eq (by decide) ?_
    rw [e9 3 (by decide) (by decide), g3 3 (by decide) (by decide), a2, hn]
  · rw [e9 12 (by decide) (by decide), g3 12 (by decide) (by decide)]
theorem a_drop (hC : CI sl ρ rf h p) (hn : nOf ρ = 16) (h12 : ρ 12 0 = 0) {m r : Nat} (hm : m < 6) (hr : rcO ρ m = r) : ∃ (ρ' : pR) (rf' : pF) (h' : Nat → Nat), PC 54 [.ref 1, .int (nI m)] (HP sl ρ rf) (some (.int (nI r))) (HP sl ρ' rf') ∧ Aft sl ρ rf h p ρ' rf' h' ∧ nOf ρ' = 16 ∧ ρ' 12 = ρ 12 ∧ ∀ q, q < 6 → rcO ρ' q = if q = m then 0 else rcO ρ q := by
  obtain ⟨a1, a2, a3, a4, a5, a6, a7, a8, a9⟩ := hC.2.1
  obtain ⟨ρa, rfa, ha, g1, g2, g3, g4, -, g5⟩ := rem_step (sl := sl) hC
  have b14 : ρa 14 = ρ 14 := g3 14 (by decide) (by decide)
  have hM := c_drop_ok (sl := sl) hC.1 hm (by rw [h12]; exact b_0 m) g1 g2
  have n14 : ∀ q, q < 6 → u2 ρa 14 m (nI 0) 14 q = nI (if q = m then 0 else rcO ρ q) ∧ (if q = m then 0 else rcO ρ q) ≤ 4 := fun q hq => by
    rw [u2_at]
    by_cases e : q = m
    · subst e
      rw [up_eq, if_pos rfl]
      exact ⟨rfl, by omega⟩
    · rw [up_ne e, if_neg e, b14]
      exact a4 q hq
  rw [show ρa 14 m = nI r by rw [b14, (a4 m hm).1, hr]] at hM
  refine ⟨_, rfa, ha, hM, g5 hM (fun k hk => u2_ne (by omega)) ?_, ?_, ?_, fun q hq => rcO_eq (n14 q hq).2 (n14 q hq).1⟩
  · exact StC_mk (n := nOf ρ) (t := tOf ρ) (c := cOf ρ) (rc := fun q => if q = m then 0 else rcO ρ q) a1 (by rw [u2_ne (by decide), g3 3 (by decide) (by decide)]; exact a2) (by rw [u2_ne (by decide), g3 3 (by decide) (by decide)]; exact a3) n14 (by rw [u2_ne (by decide), g3 3 (by decide) (by decide)]; exact a5) a6 (brc_e (by rw [u2_ne (by decide), g3 8 (by decide) (by decide)]) a7) (fun i q1 q2 => by rw [u2_ne (by decide), g3 8 (by decide) (by decide)]; exact a8 i q1 q2) (fun m hm => by rw [u2_ne (by decide), g3 16 (by decide) (by decide)]; exact a9 m hm)
  · refine nOf_eq (by decide) ?_
    rw [u2_ne (by decide), g3 3 (by decide) (by decide), a2, hn]
  · rw [u2_ne (by decide), g3 12 (by decide) (by decide)]
/-- the snapshot at place 1 -/
theorem a_snap (hC : CI sl ρ rf h p) (h14 : ρ 1 4 = 0) : ∃ ρ' : pR, PC 67 [.ref 1, .int (nI 1)] (HP sl ρ rf) (some (.int (nI 1))) (HP sl ρ' rf) ∧ CI sl ρ' rf h p ∧ Eq3 ρ ρ' ∧ (∀ d, d < p → hL ρ' h p d = hL ρ h p d) ∧ ρ' 1 4 = nI 2 ∧ sL (vw ρ' 124) = sL ρ ∧ StC (vw ρ' 124) ∧ ρ' 0 = ρ 0 := by
  obtain ⟨f1, f2, f3, f4, f5, f6, f7⟩ := hC
  have hM := c_snap_1 (sl := sl) (ρ := ρ) f1
  have hcm := PC_cln hM f3
  have hka : ∀ k, k ≠ 1 → ¬ (124 < k ∧ k < 144) → u2 (cpS 124 2 ρ) 1 4 (wI (ρ 1 4) 1 true) k = ρ k := fun k k1 k2 => by rw [u2_ne k1, cpS_out (by omega)]
  have hv2 : VEq ρ 2 (u2 (cpS 124 2 ρ) 1 4 (wI (ρ 1 4) 1 true)) 124 := (cpS_V (r := ρ) (a := 124) (b := 2) (by omega)).trans (VEq.of fun k k1 k2 => u2_ne (by omega))
  have hE := VEq_cells (StOK_2 f1) (StOK_124 f1) f3 hcm hv2
  rw [vw_2] at hE
  have hr : ∀ i, i < 4 → h i = 23 ∨ h i = 43 ∨ h i = 63 ∨ h i = 83 := fun i hi => (f4.1 i hi).2
  have hvw : ∀ i, i < 4 → Eq3 (vw ρ (h i)) (vw (u2 (cpS 124 2 ρ) 1 4 (wI (ρ 1 4) 1 true)) (h i)) := fun i hi => Eq3_vw (by have := hr i hi; omega) fun k k1 k2 => hka k (by have := hr i hi; omega) (by have := hr i hi; omega)
  have hnow : Eq3 ρ (u2 (cpS 124 2 ρ) 1 4 (wI (ρ 1 4) 1 true)) := fun k k1 k2 => hka k (by omega) (by omega)
  have hM2 := hM
  rw [h14, snap_v.1] at hM2
  rw [← h14] at hM2
  refine ⟨_, hM2, ⟨f1, StC_c hnow f2, hcm, f4, f5, ?_, fun i hi => StC_c (hvw i (by omega)) (f7 i hi)⟩, hnow, fun d hd => sL_c (hvw _ (by omega)), ?_, sL_c hE, StC_c hE f2, hka 0 (by decide) (by decide)⟩
  · rw [u2_at, up_ne (by decide), cpS_out (by omega)]
    exact f6
  · rw [u2_at, up_eq, h14]
    exact snap_v.2.1
/-- what stands at place 1 becomes the present state -/
theorem a_rest (hC : CI sl ρ rf h p) (h14 : ρ 1 4 = nI 2) (hS1 : StC (vw ρ 124)) : ∃ (ρ' : pR) (rf' : pF) (h' : Nat → Nat), PC 68 [.ref 1, .int (nI 1)] (HP sl ρ rf) (some (.int (ρ' 3 1))) (HP sl ρ' rf') ∧ Aft sl ρ rf h p ρ' rf' h' ∧ sL ρ' = sL (vw ρ 124) := by
  obtain ⟨ρa, rfa, ha, g1, g2, g3, g4, g6, g5⟩ := rem_step (sl := sl) hC
  have hM := c_rest_ok1 (sl := sl) hC.1 (by rw [h14]; exact snap_v.2.2.2.2) g1 g2
  have hca := PC_cln g1 hC.2.2.1
  have hcm := PC_cln hM hC.2.2.1
  have hE := VEq_cells (StOK_124 g2) (StOK_2 g2) hca hcm (cpS_V (r := ρa) (a := 2) (b := 124) (by omega))
  rw [vw_2] at hE
  have hE2 : Eq3 (vw ρ 124) (cpS 2 124 ρa) := Eq3.trans (Eq3_vw (ρ := ρ) (ρ' := ρa) (by decide) fun k k1 k2 => g6 k (by omega)) hE
  have hv : ρa 125 1 = cpS 2 124 ρa 3 1 := (congrFun (hE 3 (by decide) (by decide)) 1).symm
  rw [hv] at hM
  exact ⟨_, rfa, ha, hM, g5 hM (fun k hk => cpS_out (by omega)) (StC_c hE2 hS1), sL_c hE2⟩
theorem a_undo {s : Nat} (hC : CI sl ρ rf h (s + 1)) : ∃ ρ' : pR, PC 69 [.ref 1] (HP sl ρ rf) (some (.int (nI s))) (HP sl ρ' rf) ∧ CI sl ρ' rf h s ∧ sL ρ' = hL ρ h (s + 1) 0 ∧ (∀ d, d < s → hL ρ' h s d = hL ρ h (s + 1) (d + 1)) ∧ ρ' 0 = ρ 0 := by
  obtain ⟨f1, f2, f3, f4, f5, f6, f7⟩ := hC
  have hM := c_undo_ok (sl := sl) f1 f4 f6 (by omega)
  have hcm := PC_cln hM f3
  have hr : ∀ i, i < 4 → h i = 23 ∨ h i = 43 ∨ h i = 63 ∨ h i = 83 := fun i hi => (f4.1 i hi).2
  have hrs := hr s (by omega)
  have hka : ∀ k, ¬ (3 ≤ k ∧ k ≤ 21) → k ≠ 1 → cpS 2 (h s) (u2 ρ 1 2 (nI s)) k = ρ k := fun k k1 k2 => by rw [cpS_out (by omega), u2_ne k2]
  have hv2 : VEq ρ (h s) (cpS 2 (h s) (u2 ρ 1 2 (nI s))) 2 := (VEq.of (ρ := ρ) (ρ' := u2 ρ 1 2 (nI s)) (a := h s) fun k k1 k2 => u2_ne (by omega)).trans (cpS_V (r := u2 ρ 1 2 (nI s)) (a := 2) (b := h s) (by omega))
  have hE := VEq_cells (StOK_h f1 hrs) (StOK_2 f1) f3 hcm hv2
  rw [vw_2] at hE
  have hvw : ∀ i, i < 4 → Eq3 (vw ρ (h i)) (vw (cpS 2 (h s) (u2 ρ 1 2 (nI s))) (h i)) := fun i hi => Eq3_vw (by have := hr i hi; omega) fun k k1 k2 => hka k (by have := hr i hi; omega) (by have := hr i hi; omega)
  refine ⟨_, hM, ⟨f1, StC_c hE (f7 s (by omega)), hcm, f4, by omega, ?_, fun i hi => StC_c (hvw i (by omega)) (f7 i (by omega))⟩, ?_, fun d hd => ?_, hka 0 (by decide) (by decide)⟩
  · rw [cpS_out (by omega), u2_at, up_eq]
  · unfold hL
    rw [show s + 1 - 1 - 0 = s by omega]
    exact sL_c hE
  · unfold hL
    rw [show s + 1 - 1 - (d + 1) = s - 1 - d by omega]
    exact sL_c (hvw _ (by omega))
end
