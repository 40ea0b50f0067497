/-! one call in both, on: restore, undo, type, clearText -/
section
variable {sl : Nat} {s : Nat → Int32} {ρ ρr ρn ρt σ : pR} {rf : pF} {n : Nat} {rc : Nat → Nat}
def cp1 (g μ : Nat → Int32) (i m : Nat) : Nat → Int32 := fun s => if s < m then g (263 * i + s) else μ s
def tAp (T : Nat → Nat) (l w : Nat) : Nat → Nat := fun j => if j = l then w else T j
theorem tAp_eq {T : Nat → Nat} {l w : Nat} : tAp T l w l = w := if_pos rfl
theorem tAp_ne {T : Nat → Nat} {l w j : Nat} (h : ¬ j = l) : tAp T l w j = T j := if_neg h
theorem cp1_0 (g μ : Nat → Int32) (i : Nat) : cp1 g μ i 0 = μ := by funext s; exact if_neg (by omega)
theorem cp1_s (g μ : Nat → Int32) (i m : Nat) : upd (cp1 g μ i m) m (g (263 * i + m)) = cp1 g μ i (m + 1) := by
  funext s
  unfold cp1
  by_cases e : s = m
  · rw [e, up_eq, if_pos (by omega)]
  · rw [up_ne e]
    by_cases h : s < m
    · rw [if_pos h, if_pos (by omega)]
    · rw [if_neg h, if_neg (by omega)]
theorem cp1_sg (g μ : Nat → Int32) (i : Nat) : ∀ s, s < 263 → cp1 g μ i 263 s = sg g i s := fun s hs => if_pos hs
theorem x_rest_bad (x : Int32) (h : inR 2 x = false) : PC 158 [.ref 146, .int x] (HP sl ρ rf) (some (.int (-1))) (HP sl ρ rf) := by
  refine PC_of (cd := p_c_X5_restore) (L0 := [some (.ref 146), some (.int x), none]) rfl rfl ?_
  refine R_ld1 rfl ?_
  refine R_c0 rfl (x_isTwo _) rfl rfl rfl ?_
  refine BB_ne rfl (fun g2 => ?_) (fun g2 => ?_)
  · revert h; simp_all
  · refine R_i rfl ?_
    exact R_iret rfl (rfl)

theorem x_rest_np (hrf : RFok rf) {i : Nat} (hi : i < 2) (h : ρ 150 i = bI false) : PC 158 [.ref 146, .int (nI i)] (HP sl ρ rf) (some (.int (-2))) (HP sl ρ rf) := by
  refine PC_of (cd := p_c_X5_restore) (L0 := [some (.ref 146), some (.int (nI i)), none]) rfl rfl ?_
  refine R_ld1 rfl ?_
  refine R_c0 rfl (x_isTwo _) rfl rfl rfl ?_
  refine BB_neT rfl (inR_N hi (by omega)) ?_
  refine R_la0 rfl ?_
  refine R_getR rfl sh_146 rfl (rf_146_4 hrf) ?_
  refine R_ld1 rfl ?_
  refine R_ald rfl sh_150 (by first | decide | omega) (by omega) h ?_
  refine BB_neF rfl (rfl) ?_
  refine R_i rfl ?_
  exact R_iret rfl (rfl)

theorem x_rest_ok (hrf : RFok rf) {i : Nat} (hi : i < 2) (h : ρ 150 i = bI true) (hrec : PC 105 [.ref 146] (HP sl ρ rf) none (HP sl ρr rf)) : PC 158 [.ref 146, .int (nI i)] (HP sl ρ rf) (some (.int (ρr 149 (263 * i + 0)))) (HP sl (u1 ρr 147 (cp1 (ρr 149) (ρr 147) i 263)) rf) := by
  have hl := down (n := 263) (P := fun j => PW p_c_X5_restore 16 [some (.ref 146), some (.int (nI i)), some (.int (nI j))] [] (HP sl (u1 ρr 147 (cp1 (ρr 149) (ρr 147) i j)) rf) (fun zz => zz = ((some (.int (ρr 149 (263 * i + 0)))), HP sl (u1 ρr 147 (cp1 (ρr 149) (ρr 147) i 263)) rf))) ?_ ?_
  · refine PC_of (cd := p_c_X5_restore) (L0 := [some (.ref 146), some (.int (nI i)), none]) rfl rfl ?_
    refine R_ld1 rfl ?_
    refine R_c0 rfl (x_isTwo _) rfl rfl rfl ?_
    refine BB_neT rfl (inR_N hi (by omega)) ?_
    refine R_la0 rfl ?_
    refine R_getR rfl sh_146 rfl (rf_146_4 hrf) ?_
    refine R_ld1 rfl ?_
    refine R_ald rfl sh_150 (by first | decide | omega) (by omega) h ?_
    refine BB_neT rfl (rfl) ?_
    refine R_la0 rfl ?_
    refine R_c1 rfl (hrec) rfl rfl rfl sh_146 rfl rfl ?_
    refine R_n 0 rfl rfl ?_
    refine R_st2 rfl ?_
    exact PW_eq (by rw [cp1_0, u1_id]) (hl 0 (Nat.zero_le _))
  · refine R_ld2 rfl ?_
    refine R_n 263 rfl rfl ?_
    refine N2_geT rfl (by omega) (by omega) (by omega) ?_
    refine R_la0 rfl ?_
    refine R_getR rfl sh_146 rfl (rf_146_0 hrf) ?_
    refine R_n 0 rfl rfl ?_
    refine R_ald rfl sh_147 (by first | decide | omega) (by omega) (show _ = ρr 149 (263 * i + 0) by (try simp (disch := omega) only [u2_at, u2_ne, up_eq, up_ne, u1_at, u1_ne]); exact if_pos (by decide)) ?_
    exact R_iret rfl (rfl)
  · intro j hj hnext
    refine R_ld2 rfl ?_
    refine R_n 263 rfl rfl ?_
    refine N2_geF rfl (by omega) (by omega) (hj) ?_
    refine R_la0 rfl ?_
    refine R_getR rfl sh_146 rfl (rf_146_0 hrf) ?_
    refine R_ld2 rfl ?_
    refine R_la0 rfl ?_
    refine R_getR rfl sh_146 rfl (rf_146_3 hrf) ?_
    refine R_n 263 rfl rfl ?_
    refine R_ld1 rfl ?_
    refine R_mulN rfl ?_
    refine R_ld2 rfl ?_
    refine R_addN rfl ?_
    refine R_ald rfl sh_149 (by first | decide | omega) (by omega) (show _ = ρr 149 (263 * i + j) by (try simp (disch := omega) only [u2_at, u2_ne, up_eq, up_ne, u1_at, u1_ne])) ?_
    refine R_ast rfl sh_147 (by decide) (by omega) ?_
    refine R_in2 rfl rfl ?_
    refine R_goto rfl ?_
    exact PW_eq (by rw [u2_u1, cp1_s]) hnext

theorem o_rest (hF : FI s ρ rf) (x : Int32) : Ag sl s 68 158 [.int x] ρ rf := by
  have hrf := hF.1
  have hS := hF.2.2.2.2.1
  cases hx : inR 2 x with
  | false => exact Ag_p hF (c_rest_bad x hx) (x_rest_bad x hx)
  | true =>
    rcases inR_2.mp hx with rfl | rfl
    · cases hb : bt (ρ 1 4) 0 with
      | false => exact Ag_p hF (c_rest_np0 hrf hb) (x_rest_np hrf (i := 0) (by decide) (by rw [(hS.2 0 (by decide)).1, hb]))
      | true =>
        obtain ⟨ρa, rfa, h1, h2, h3, h4, h5⟩ := FI_step (sl := sl) hF
        have hSS := (hS.2 0 (by decide)).2 hb
        have hv := cpS_V (r := ρa) (a := 2) (b := 104) (by omega)
        have hva : VEq ρ 104 (cpS 2 104 ρa) 2 := (VEq.of (ρ' := ρa) fun k k1 k2 => h4 k (by omega)).trans hv
        have hv2 := VEq_vw (by decide) (by decide) hva
        rw [vw_2] at hv2
        obtain ⟨ρr, r1, r2, r3, r4, r5, r6⟩ := h5 (cpS 2 104 ρa) (fun k hk => cpS_out (by omega))
        have e149 : ρr 149 = ρ 149 := by rw [r4 149 (by decide) (by decide), cpS_out (by omega), h4 149 (by decide)]
        have e150 : (cpS 2 104 ρa) 150 0 = bI true := by rw [cpS_out (by omega), h4 150 (by decide), (hS.2 0 (by decide)).1, hb]
        have hx := x_rest_ok (sl := sl) h2 (i := 0) (by decide) e150 r1
        rw [e149, r3] at hx
        have hS2 := StR_V hv2 (cp1_sg (ρ 149) (ρ 147) 0) hSS
        obtain ⟨n', rc', t', hR', ht', _⟩ := hSS
        have ev : ρ 149 (263 * 0 + 0) = ρa 105 1 := by
          rw [h4 105 (by decide)]
          exact hR'.b.2.2.2.1
        rw [ev] at hx
        exact ⟨_, _, _, _, c_rest_ok0 hrf hb h1 h2, hx, r6 _ hS2⟩
    · cases hb : bt (ρ 1 4) 1 with
      | false => exact Ag_p hF (c_rest_np1 hrf hb) (x_rest_np hrf (i := 1) (by decide) (by rw [(hS.2 1 (by decide)).1, hb]))
      | true =>
        obtain ⟨ρa, rfa, h1, h2, h3, h4, h5⟩ := FI_step (sl := sl) hF
        have hSS := (hS.2 1 (by decide)).2 hb
        have hv := cpS_V (r := ρa) (a := 2) (b := 124) (by omega)
        have hva : VEq ρ 124 (cpS 2 124 ρa) 2 := (VEq.of (ρ' := ρa) fun k k1 k2 => h4 k (by omega)).trans hv
        have hv2 := VEq_vw (by decide) (by decide) hva
        rw [vw_2] at hv2
        obtain ⟨ρr, r1, r2, r3, r4, r5, r6⟩ := h5 (cpS 2 124 ρa) (fun k hk => cpS_out (by omega))
        have e149 : ρr 149 = ρ 149 := by rw [r4 149 (by decide) (by decide), cpS_out (by omega), h4 149 (by decide)]
        have e150 : (cpS 2 124 ρa) 150 1 = bI true := by rw [cpS_out (by omega), h4 150 (by decide), (hS.2 1 (by decide)).1, hb]
        have hx := x_rest_ok (sl := sl) h2 (i := 1) (by decide) e150 r1
        rw [e149, r3] at hx
        have hS2 := StR_V hv2 (cp1_sg (ρ 149) (ρ 147) 1) hSS
        obtain ⟨n', rc', t', hR', ht', _⟩ := hSS
        have ev : ρ 149 (263 * 1 + 0) = ρa 125 1 := by
          rw [h4 125 (by decide)]
          exact hR'.b.2.2.2.1
        rw [ev] at hx
        exact ⟨_, _, _, _, c_rest_ok1 hrf hb h1 h2, hx, r6 _ hS2⟩
theorem x_undo_np (hrf : RFok rf) (h : ρ 146 2 = nI 0) : PC 106 [.ref 146] (HP sl ρ rf) (some (.int (-2))) (HP sl ρ rf) := by
  refine PC_of (cd := p_c_X5_undo) (L0 := [some (.ref 146), none]) rfl rfl ?_
  refine R_la0 rfl ?_
  refine R_getI rfl sh_146 rfl rfl ?_
  refine B1_neF rfl (h) ?_
  refine R_i rfl ?_
  exact R_iret rfl (rfl)

theorem x_undo_ok (hrf : RFok rf) {p : Nat} (hp : ρ 146 2 = nI (p + 1)) (hp4 : p < 4) : PC 106 [.ref 146] (HP sl ρ rf) (some (.int (nI p))) (HP sl (u1 (u2 ρ 146 2 (nI p)) 147 (cp1 (ρ 148) (ρ 147) p 263)) rf) := by
  have hl := down (n := 263) (P := fun j => PW p_c_X5_undo 13 [some (.ref 146), some (.int (nI j))] [] (HP sl (u1 (u2 ρ 146 2 (nI p)) 147 (cp1 (ρ 148) (ρ 147) p j)) rf) (fun zz => zz = ((some (.int (nI p))), HP sl (u1 (u2 ρ 146 2 (nI p)) 147 (cp1 (ρ 148) (ρ 147) p 263)) rf))) ?_ ?_
  · refine PC_of (cd := p_c_X5_undo) (L0 := [some (.ref 146), none]) rfl rfl ?_
    refine R_la0 rfl ?_
    refine R_getI rfl sh_146 rfl rfl ?_
    refine B1_neT rfl (by rw [hp]; exact nI_ne0 (by omega) (by omega)) ?_
    refine R_la0 rfl ?_
    refine R_dupR rfl ?_
    refine R_getI rfl sh_146 rfl hp ?_
    refine R_n 1 rfl rfl ?_
    refine R_subN rfl (by omega) ?_
    refine R_putI rfl sh_146 rfl ?_
    refine R_n 0 rfl rfl ?_
    refine R_st1 rfl ?_
    exact PW_eq (by rw [cp1_0, show ρ 147 = (u2 ρ 146 2 (nI p)) 147 from (u2_ne (by decide)).symm, u1_id]; rfl) (hl 0 (Nat.zero_le _))
  · refine R_ld1 rfl ?_
    refine R_n 263 rfl rfl ?_
    refine N2_geT rfl (by omega) (by omega) (by omega) ?_
    refine R_la0 rfl ?_
    refine R_getI rfl sh_146 rfl (show _ = nI p by (try simp (disch := omega) only [u2_at, u2_ne, up_eq, up_ne, u1_at, u1_ne])) ?_
    exact R_iret rfl (rfl)
  · intro j hj hnext
    refine R_ld1 rfl ?_
    refine R_n 263 rfl rfl ?_
    refine N2_geF rfl (by omega) (by omega) (hj) ?_
    refine R_la0 rfl ?_
    refine R_getR rfl sh_146 rfl (rf_146_0 hrf) ?_
    refine R_ld1 rfl ?_
    refine R_la0 rfl ?_
    refine R_getR rfl sh_146 rfl (rf_146_1 hrf) ?_
    refine R_n 263 rfl rfl ?_
    refine R_la0 rfl ?_
    refine R_getI rfl sh_146 rfl (show _ = nI p by (try simp (disch := omega) only [u2_at, u2_ne, up_eq, up_ne, u1_at, u1_ne])) ?_
    refine R_mulN rfl ?_
    refine R_ld1 rfl ?_
    refine R_addN rfl ?_
    refine R_ald rfl sh_148 (by first | decide | omega) (by omega) (show _ = ρ 148 (263 * p + j) by (try simp (disch := omega) only [u2_at, u2_ne, up_eq, up_ne, u1_at, u1_ne])) ?_
    refine R_ast rfl sh_147 (by decide) (by omega) ?_
    refine R_in1 rfl rfl ?_
    refine R_goto rfl ?_
    exact PW_eq (by rw [u2_u1, cp1_s]) hnext

theorem o_undo (hF : FI s ρ rf) : Ag sl s 69 106 [] ρ rf := by
  have hrf := hF.1
  obtain ⟨h, p, hh⟩ := hF.2.2.2.1
  obtain ⟨g1, g2, g3, g4, g5⟩ := hh
  cases p with
  | zero => exact Ag_p hF (c_undo_np hrf g3) (x_undo_np hrf g4)
  | succ p =>
    have hr := (g1.1 p (by omega)).2
    have hk : ∀ k, ¬ (3 ≤ k ∧ k ≤ 21) → k ≠ 1 → cpS 2 (h p) (u2 ρ 1 2 (nI p)) k = ρ k := fun k k1 k2 => by rw [cpS_out (by omega), u2_ne k2]
    have hx := x_undo_ok (sl := sl) (ρ := cpS 2 (h p) (u2 ρ 1 2 (nI p))) hrf (p := p) (by rw [hk 146 (by decide) (by decide)]; exact g4) (by omega)
    rw [hk 148 (by decide) (by decide), hk 147 (by decide) (by decide)] at hx
    have hv := cpS_V (r := u2 ρ 1 2 (nI p)) (a := 2) (b := h p) (by omega)
    have hva : VEq ρ (h p) (cpS 2 (h p) (u2 ρ 1 2 (nI p))) 2 := (VEq.of (ρ' := u2 ρ 1 2 (nI p)) fun k k1 k2 => u2_ne (by omega)).trans hv
    have hv2 := VEq_vw (by omega) (by decide) hva
    rw [vw_2] at hv2
    refine ⟨_, _, _, _, c_undo_ok hrf g1 g3 (by omega), hx, hrf, ?_, ?_, ⟨h, p, g1, by omega, ?_, ?_, fun i hi => ?_⟩, SI_f (ρ := ρ) ?_ ?_ ?_ (fun k k1 k2 => ?_) hF.2.2.2.2.1, TI_f (ρ := ρ) ?_ ?_ ?_ ?_ hF.2.2.2.2.2⟩
    · rw [u1_ne (by decide), u2_ne (by decide), hk 0 (by decide) (by decide)]; exact hF.2.1
    · rw [u1_at]
      exact StR_V (hv2.trans (VEq_k fun k k1 k2 => by rw [u1_ne (by omega), u2_ne (by omega)])) (cp1_sg _ _ _) (g5 p (by omega))
    · rw [u1_ne (by decide), u2_ne (by decide), cpS_out (by omega), u2_at, up_eq]
    · rw [u1_ne (by decide), u2_at, up_eq]
    · have hri := (g1.1 i (by omega)).2
      refine StR_V (VEq_vw (by omega) (by omega) (VEq.of fun k k1 k2 => ?_)) (fun s' _ => ?_) (g5 i (by omega))
      · rw [u1_ne (by omega), u2_ne (by omega), hk k (by omega) (by omega)]
      · unfold sg
        rw [u1_ne (by decide), u2_ne (by decide), hk 148 (by decide) (by decide)]
    · rw [u1_ne (by decide), u2_ne (by decide), cpS_out (by omega), u2_at, up_ne (by decide)]
    · rw [u1_ne (by decide), u2_ne (by decide), hk 150 (by decide) (by decide)]
    · rw [u1_ne (by decide), u2_ne (by decide), hk 149 (by decide) (by decide)]
    · rw [u1_ne (by omega), u2_ne (by omega), hk k (by omega) (by omega)]
    · rw [u1_ne (by decide), u2_ne (by decide), hk 144 (by decide) (by decide)]
    · rw [u1_ne (by decide), u2_ne (by decide), hk 145 (by decide) (by decide)]
    · rw [u1_ne (by decide), u2_at, up_ne (by decide), hk 146 (by decide) (by decide)]
    · rw [u1_ne (by decide), u2_ne (by decide), hk 151 (by decide) (by decide)]
theorem x_type_bad (x : Int32) (h : rgI x (nI 32) (nI 126) = false) : PC 159 [.ref 146, .int x] (HP sl ρ rf) (some (.int (-1))) (HP sl ρ rf) := by
  refine PC_of (cd := p_c_X5_type) (L0 := [some (.ref 146), some (.int x)]) rfl rfl ?_
  refine R_ld1 rfl ?_
  refine R_n 32 rfl rfl ?_
  refine R_n 126 rfl rfl ?_
  refine R_c0 rfl (x_in _ _ _) rfl rfl rfl ?_
  refine BB_ne rfl (fun g4 => ?_) (fun g4 => ?_)
  · revert h; simp_all
  · refine R_i rfl ?_
    exact R_iret rfl (rfl)

theorem x_type_full (hrf : RFok rf) {l w : Nat} (hl : ρ 146 6 = nI l) (h1 : rgI (nI w) (nI 32) (nI 126) = true) (h80 : l = 80) : PC 159 [.ref 146, .int (nI w)] (HP sl ρ rf) (some (.int (-3))) (HP sl ρ rf) := by
  refine PC_of (cd := p_c_X5_type) (L0 := [some (.ref 146), some (.int (nI w))]) rfl rfl ?_
  refine R_ld1 rfl ?_
  refine R_n 32 rfl rfl ?_
  refine R_n 126 rfl rfl ?_
  refine R_c0 rfl (x_in _ _ _) rfl rfl rfl ?_
  refine BB_neT rfl (h1) ?_
  refine R_la0 rfl ?_
  refine R_getI rfl sh_146 rfl hl ?_
  refine R_n 80 rfl rfl ?_
  refine N2_neF rfl (by omega) (by omega) (by omega) ?_
  refine R_i rfl ?_
  exact R_iret rfl (rfl)

theorem x_type_ok (hrf : RFok rf) {l w : Nat} (hl : ρ 146 6 = nI l) (h1 : rgI (nI w) (nI 32) (nI 126) = true) (h80 : l < 80) : PC 159 [.ref 146, .int (nI w)] (HP sl ρ rf) (some (.int (nI (l + 1)))) (HP sl (u2 (u2 ρ 151 l (nI w)) 146 6 (nI (l + 1))) rf) := by
  refine PC_of (cd := p_c_X5_type) (L0 := [some (.ref 146), some (.int (nI w))]) rfl rfl ?_
  refine R_ld1 rfl ?_
  refine R_n 32 rfl rfl ?_
  refine R_n 126 rfl rfl ?_
  refine R_c0 rfl (x_in _ _ _) rfl rfl rfl ?_
  refine BB_neT rfl (h1) ?_
  refine R_la0 rfl ?_
  refine R_getI rfl sh_146 rfl hl ?_
  refine R_n 80 rfl rfl ?_
  refine N2_neT rfl (by omega) (by omega) (by omega) ?_
  refine R_la0 rfl ?_
  refine R_getR rfl sh_146 rfl (rf_146_5 hrf) ?_
  refine R_la0 rfl ?_
  refine R_getI rfl sh_146 rfl hl ?_
  refine R_ld1 rfl ?_
  refine R_ast rfl sh_151 (by decide) (by omega) ?_
  refine R_la0 rfl ?_
  refine R_dupR rfl ?_
  refine R_getI rfl sh_146 rfl (show _ = nI l by (try simp (disch := omega) only [u2_at, u2_ne, up_eq, up_ne, u1_at, u1_ne]); exact hl) ?_
  refine R_n 1 rfl rfl ?_
  refine R_addN rfl ?_
  refine R_putI rfl sh_146 rfl ?_
  refine R_la0 rfl ?_
  refine R_getI rfl sh_146 rfl (show _ = nI (l + 1) by (try simp (disch := omega) only [u2_at, u2_ne, up_eq, up_ne, u1_at, u1_ne])) ?_
  exact R_iret rfl (rfl)

theorem x_clear (hrf : RFok rf) : PC 160 [.ref 146] (HP sl ρ rf) (some (.int (ρ 146 6))) (HP sl (u2 ρ 146 6 (nI 0)) rf) := by
  refine PC_of (cd := p_c_X5_clearText) (L0 := [some (.ref 146), none]) rfl rfl ?_
  refine R_la0 rfl ?_
  refine R_getI rfl sh_146 rfl rfl ?_
  refine R_st1 rfl ?_
  refine R_la0 rfl ?_
  refine R_n 0 rfl rfl ?_
  refine R_putI rfl sh_146 rfl ?_
  refine R_ld1 rfl ?_
  exact R_iret rfl (rfl)

theorem FI_text {ρ' : pR} (hF : FI s ρ rf) (hk : ∀ k, k ≠ 144 → k ≠ 145 → k ≠ 146 → k ≠ 151 → ρ' k = ρ k) (h6 : ∀ j, j ≠ 6 → ρ' 146 j = ρ 146 j) (hT : TI ρ') : FI s ρ' rf := by
  obtain ⟨h, p, hh⟩ := hF.2.2.2.1
  refine ⟨hF.1, by rw [hk 0 (by decide) (by decide) (by decide) (by decide)]; exact hF.2.1, ?_, ⟨h, p, HI_f (ρ := ρ) ?_ ?_ ?_ (fun k k1 k2 => ?_) hh⟩, SI_f (ρ := ρ) ?_ ?_ ?_ (fun k k1 k2 => ?_) hF.2.2.2.2.1, hT⟩
  · rw [hk 147 (by decide) (by decide) (by decide) (by decide)]
    exact StR_V (VEq_k fun k k1 k2 => hk k (by omega) (by omega) (by omega) (by omega)) (fun _ _ => rfl) hF.2.2.1
  · rw [hk 1 (by decide) (by decide) (by decide) (by decide)]
  · exact h6 2 (by decide)
  · exact hk 148 (by decide) (by decide) (by decide) (by decide)
  · exact hk k (by omega) (by omega) (by omega) (by omega)
  · rw [hk 1 (by decide) (by decide) (by decide) (by decide)]
  · exact hk 150 (by decide) (by decide) (by decide) (by decide)
  · exact hk 149 (by decide) (by decide) (by decide) (by decide)
  · exact hk k (by omega) (by omega) (by omega) (by omega)
theorem o_type (hF : FI s ρ rf) (x : Int32) : Ag sl s 70 159 [.int x] ρ rf := by
  have hrf := hF.1
  obtain ⟨T, l, hT, hT2, hT3, hT4⟩ := hF.2.2.2.2.2
  cases hx : rgI x (nI 32) (nI 126) with
  | false =>
    refine Ag_p hF (c_type_bad hrf x ?_) (x_type_bad x hx)
    unfold rgI at hx
    by_cases h0 : nI 32 ≤ x
    · rw [decide_eq_true h0, Bool.true_and] at hx
      exact Or.inr (Int32.not_le.mp (of_decide_eq_false hx))
    · exact Or.inl (Int32.not_le.mp h0)
  | true =>
    have hx1 := rg_t hx
    obtain ⟨w, hw, rfl⟩ := nI_of (x := x) (fun q => absurd q (Int32.not_lt.mpr (Int32.le_trans (show (0 : Int32) ≤ nI 32 by decide) hx1.1)))
    have w1 : 32 ≤ w := (nI_leI (by decide) hw).mp hx1.1
    have w2 : w ≤ 126 := (nI_leI hw (by decide)).mp hx1.2
    have hl80 := hT.2.1
    by_cases h80 : l = 80
    · exact Ag_p hF (c_type_full hrf hT.1 w1 w2 h80) (x_type_full hrf hT3 hx h80)
    · have h8 : l < 80 := by omega
      have hxo := x_type_ok (sl := sl) (ρ := u2 (u2 ρ 145 l (nI w)) 144 1 (nI (l + 1))) hrf (l := l) (by (try simp (disch := omega) only [u2_at, u2_ne, up_eq, up_ne, u1_at, u1_ne]); exact hT3) hx h8
      refine ⟨_, _, _, _, c_type_ok hrf hT.1 w1 w2 h8, hxo, FI_text hF (fun k k1 k2 k3 k4 => by (try simp (disch := omega) only [u2_at, u2_ne, up_eq, up_ne, u1_at, u1_ne])) (fun j hj => by (try simp (disch := omega) only [u2_at, u2_ne, up_eq, up_ne, u1_at, u1_ne])) ⟨tAp T l w, l + 1, ⟨by (try simp (disch := omega) only [u2_at, u2_ne, up_eq, up_ne, u1_at, u1_ne]), by omega, fun j hj => ?_⟩, fun j hj => ?_, by (try simp (disch := omega) only [u2_at, u2_ne, up_eq, up_ne, u1_at, u1_ne]), fun j hj => ?_⟩⟩
      · by_cases e : j = l
        · subst e; rw [tAp_eq]; exact ⟨by (try simp (disch := omega) only [u2_at, u2_ne, up_eq, up_ne, u1_at, u1_ne]), by omega⟩
        · rw [tAp_ne e]; exact ⟨by (try simp (disch := omega) only [u2_at, u2_ne, up_eq, up_ne, u1_at, u1_ne]); exact (hT.2.2 j (by omega)).1, (hT.2.2 j (by omega)).2⟩
      · by_cases e : j = l
        · rw [e, tAp_eq]; omega
        · rw [tAp_ne e]; exact hT2 j (by omega)
      · by_cases e : j = l
        · subst e; rw [tAp_eq]; (try simp (disch := omega) only [u2_at, u2_ne, up_eq, up_ne, u1_at, u1_ne])
        · rw [tAp_ne e]; (try simp (disch := omega) only [u2_at, u2_ne, up_eq, up_ne, u1_at, u1_ne]); exact hT4 j (by omega)
theorem o_clear (hF : FI s ρ rf) : Ag sl s 71 160 [] ρ rf := by
  have hrf := hF.1
  obtain ⟨T, l, hT, hT2, hT3, hT4⟩ := hF.2.2.2.2.2
  have hc := c_clear (sl := sl) (ρ := ρ) hrf
  have hx := x_clear (sl := sl) (ρ := u2 ρ 144 1 (nI 0)) hrf
  rw [show (u2 ρ 144 1 (nI 0)) 146 6 = nI l by (try simp (disch := omega) only [u2_at, u2_ne, up_eq, up_ne, u1_at, u1_ne]); exact hT3] at hx
  rw [hT.1] at hc
  exact ⟨_, _, _, _, hc, hx, FI_text hF (fun k k1 k2 k3 k4 => by (try simp (disch := omega) only [u2_at, u2_ne, up_eq, up_ne, u1_at, u1_ne])) (fun j hj => by (try simp (disch := omega) only [u2_at, u2_ne, up_eq, up_ne, u1_at, u1_ne])) ⟨T, 0, ⟨by (try simp (disch := omega) only [u2_at, u2_ne, up_eq, up_ne, u1_at, u1_ne]), by omega, fun j hj => absurd hj (Nat.not_lt_zero _)⟩, fun j hj => absurd hj (Nat.not_lt_zero _), by (try simp (disch := omega) only [u2_at, u2_ne, up_eq, up_ne, u1_at, u1_ne]), fun j hj => absurd hj (Nat.not_lt_zero _)⟩⟩
end
