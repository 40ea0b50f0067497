/-! one call in both, on: input, inputInfo, keys -/
section
variable {sl : Nat} {s : Nat → Int32} {ρ ρr ρn ρt σ : pR} {rf : pF} {n : Nat} {rc : Nat → Nat}
theorem clS_f (r : pR) (i : Nat) {k : Nat} (h : ¬ (3 ≤ k ∧ k ≤ 21)) : clS r i k = r k := by
  unfold clS
  split <;> (try simp (disch := omega) only [u2_at, u2_ne, up_eq, up_ne, u1_at, u1_ne])
theorem opS_f (r : pR) (i : Nat) {k : Nat} (h : ¬ (3 ≤ k ∧ k ≤ 21)) : opS r i k = r k := by
  unfold opS
  split <;> (try simp (disch := omega) only [u2_at, u2_ne, up_eq, up_ne, u1_at, u1_ne])
theorem clS_t (r : pR) (i : Nat) : clS r i 3 1 = r 3 1 := by
  unfold clS
  split <;> (try simp (disch := omega) only [u2_at, u2_ne, up_eq, up_ne, u1_at, u1_ne])
theorem opS_t (r : pR) (i : Nat) : opS r i 3 1 = r 3 1 := by
  unfold opS
  split <;> (try simp (disch := omega) only [u2_at, u2_ne, up_eq, up_ne, u1_at, u1_ne])
theorem clS_8 (r : pR) (i : Nat) : clS r i 8 = r 8 := by
  unfold clS
  split <;> (try simp (disch := omega) only [u2_at, u2_ne, up_eq, up_ne, u1_at, u1_ne])
theorem opS_8 (r : pR) (i : Nat) : opS r i 8 = r 8 := by
  unfold opS
  split <;> (try simp (disch := omega) only [u2_at, u2_ne, up_eq, up_ne, u1_at, u1_ne])
theorem e_close (hrf : RFok rf) (hR : Rel σ (ρ 147) n rc) {i : Nat} (hi : i < n) (hl : σ 4 i = -1) : ∃ μt, Rel (clS σ i) μt n rc ∧ PC 122 [.ref 146, .int (nI i), .int (nI 1)] (HP sl (u2 ρ 147 (87 + 11 * i + 1) (nI 1)) rf) none (HP sl (u1 ρ 147 μt) rf) := by
  have h16 := hR.b.1
  have hph := (hR.i hi).2.2.2.2.2.2.2.2.2.2.1
  have hc := Rel_cls hR hi hl true
  unfold clS
  by_cases h : σ 10 i = nI 2
  · rw [if_pos h]
    have hp := Rel_ph hc hi (p := 0) (Or.inl rfl) (fun q => absurd rfl q)
    have ht := Rel_ts hp hi
    simp (disch := omega) only [u2_at, u2_ne, up_ne] at ht
    exact ⟨_, ht, PC_eq (x_tgo1a (sl := sl) hrf (by omega) (by (try simp (disch := omega) only [u2_at, u2_ne, up_eq, up_ne, u1_at, u1_ne]); rw [hph]; exact h)) (by simp (disch := omega) only [u2_u1, u2_e1, u1_u1, u1_at, up_eq, up_ne]; rw [hR.b.2.2.2.1]; rfl)⟩
  · rw [if_neg h]
    exact ⟨_, hc, PC_eq (x_tgo1b (sl := sl) hrf (by omega) (by (try simp (disch := omega) only [u2_at, u2_ne, up_eq, up_ne, u1_at, u1_ne]); rw [hph]; exact h)) (by simp (disch := omega) only [u2_u1, u2_e1, u1_u1, u1_at, up_eq, up_ne]; rfl)⟩
theorem e_open (hrf : RFok rf) (hR : Rel σ (ρ 147) n rc) {i : Nat} (hi : i < n) (hl : σ 4 i = -1) : ∃ μt, Rel (opS σ i) μt n rc ∧ PC 122 [.ref 146, .int (nI i), .int (nI 0)] (HP sl (u2 ρ 147 (87 + 11 * i + 1) (nI 0)) rf) none (HP sl (u1 ρ 147 μt) rf) := by
  have h16 := hR.b.1
  have hph := (hR.i hi).2.2.2.2.2.2.2.2.2.2.1
  have hc := Rel_cls hR hi hl false
  unfold opS
  by_cases h : σ 10 i = nI 1
  · rw [if_pos h]
    have hp := Rel_ph hc hi (p := nI 2) (Or.inr (Or.inr rfl)) (fun _ => by (try simp (disch := omega) only [u2_at, u2_ne, up_eq, up_ne, u1_at, u1_ne]); rw [h]; decide)
    exact ⟨_, hp, PC_eq (x_tgo0a (sl := sl) hrf (by omega) (by (try simp (disch := omega) only [u2_at, u2_ne, up_eq, up_ne, u1_at, u1_ne]); rw [hph]; exact h)) (by simp (disch := omega) only [u2_u1, u2_e1, u1_u1, u1_at, up_eq, up_ne]; rfl)⟩
  · rw [if_neg h]
    exact ⟨_, hc, PC_eq (x_tgo0b (sl := sl) hrf (by omega) (by (try simp (disch := omega) only [u2_at, u2_ne, up_eq, up_ne, u1_at, u1_ne]); rw [hph]; exact h)) (by simp (disch := omega) only [u2_u1, u2_e1, u1_u1, u1_at, up_eq, up_ne]; rfl)⟩
theorem x_input_bad (hrf : RFok rf) (hR : Rel σ (ρ 147) n rc) (x y : Int32) (h : inR n x = false ∨ inR 2 y = false) : PC 123 [.ref 146, .int x, .int y] (HP sl ρ rf) (some (.int (-1))) (HP sl ρ rf) := by
  refine PC_of (cd := p_c_X5_input) (L0 := [some (.ref 146), some (.int x), some (.int y), none]) rfl rfl ?_
  refine R_la0 rfl ?_
  refine R_ld1 rfl ?_
  refine R_c1 rfl (x_isInput hrf hR.b.1 hR.b.2.2.1 _) rfl rfl rfl sh_146 rfl rfl ?_
  refine BB_eq rfl (fun g3 => ?_) (fun g3 => ?_)
  · refine R_i rfl ?_
    exact R_iret rfl (rfl)
  · refine R_ld2 rfl ?_
    refine R_c0 rfl (x_isTwo _) rfl rfl rfl ?_
    refine BB_ne rfl (fun g6 => ?_) (fun g6 => ?_)
    · revert h; simp_all
    · refine R_i rfl ?_
      exact R_iret rfl (rfl)

theorem x_input_lock (hrf : RFok rf) (hR : Rel σ (ρ 147) n rc) {i : Nat} (hi : i < n) {w : Nat} (hw : w < 2) (hl : ¬ σ 4 i = -1) : PC 123 [.ref 146, .int (nI i), .int (nI w)] (HP sl ρ rf) (some (.int (-2))) (HP sl ρ rf) := by
  have h16 := hR.b.1
  refine PC_of (cd := p_c_X5_input) (L0 := [some (.ref 146), some (.int (nI i)), some (.int (nI w)), none]) rfl rfl ?_
  refine R_la0 rfl ?_
  refine R_ld1 rfl ?_
  refine R_c1 rfl (x_isInput hrf hR.b.1 hR.b.2.2.1 _) rfl rfl rfl sh_146 rfl rfl ?_
  refine BB_eqF rfl (inR_N hi (by omega)) ?_
  refine R_ld2 rfl ?_
  refine R_c0 rfl (x_isTwo _) rfl rfl rfl ?_
  refine BB_neT rfl (inR_N hw (by omega)) ?_
  refine R_la0 rfl ?_
  refine R_ld1 rfl ?_
  refine R_c1 rfl (x_isLock hrf hR hi) rfl rfl rfl sh_146 rfl rfl ?_
  refine BB_eqF rfl (decide_eq_true hl) ?_
  refine R_i rfl ?_
  exact R_iret rfl (rfl)

theorem x_input_ok0 (hrf : RFok rf) (hR : Rel σ (ρ 147) n rc) {i : Nat} (hi : i < n) (hl : σ 4 i = -1) (hrec : PC 105 [.ref 146] (HP sl ρ rf) none (HP sl ρr rf)) (hR2 : Rel σ (ρr 147) n rc) (htg : PC 122 [.ref 146, .int (nI i), .int (nI 0)] (HP sl (u2 ρr 147 (87 + 11 * i + 1) (nI 0)) rf) none (HP sl ρt rf)) {q : Nat} (hlk : PC 116 [.ref 146, .int (M (cS σ n))] (HP sl ρt rf) (some (.int (nI q))) (HP sl ρn rf)) : PC 123 [.ref 146, .int (nI i), .int (nI 0)] (HP sl ρ rf) (some (.int (nI q))) (HP sl ρn rf) := by
  have h16 := hR.b.1
  refine PC_of (cd := p_c_X5_input) (L0 := [some (.ref 146), some (.int (nI i)), some (.int (nI 0)), none]) rfl rfl ?_
  refine R_la0 rfl ?_
  refine R_ld1 rfl ?_
  refine R_c1 rfl (x_isInput hrf hR.b.1 hR.b.2.2.1 _) rfl rfl rfl sh_146 rfl rfl ?_
  refine BB_eqF rfl (inR_N hi (by omega)) ?_
  refine R_ld2 rfl ?_
  refine R_c0 rfl (x_isTwo _) rfl rfl rfl ?_
  refine BB_neT rfl (rfl) ?_
  refine R_la0 rfl ?_
  refine R_ld1 rfl ?_
  refine R_c1 rfl (x_isLock hrf hR hi) rfl rfl rfl sh_146 rfl rfl ?_
  refine BB_eqT rfl (decide_eq_false (fun q => q hl)) ?_
  refine R_la0 rfl ?_
  refine R_c1 rfl (hrec) rfl rfl rfl sh_146 rfl rfl ?_
  refine R_la0 rfl ?_
  refine R_c1 rfl (x_closedOnes hrf hR2) rfl rfl rfl sh_146 rfl rfl ?_
  refine R_st3 rfl ?_
  refine R_la0 rfl ?_
  refine R_ld1 rfl ?_
  refine R_n 1 rfl rfl ?_
  refine R_ld2 rfl ?_
  refine R_c1 rfl (x_lay hrf (by omega) (by decide) _) rfl rfl rfl sh_146 rfl rfl ?_
  refine R_la0 rfl ?_
  refine R_ld1 rfl ?_
  refine R_ld2 rfl ?_
  refine R_c1 rfl (htg) rfl rfl rfl sh_146 rfl rfl ?_
  refine R_la0 rfl ?_
  refine R_ld3 rfl ?_
  refine R_c1 rfl (hlk) rfl rfl rfl sh_146 rfl rfl ?_
  exact R_iret rfl (rfl)

theorem x_input_ok1 (hrf : RFok rf) (hR : Rel σ (ρ 147) n rc) {i : Nat} (hi : i < n) (hl : σ 4 i = -1) (hrec : PC 105 [.ref 146] (HP sl ρ rf) none (HP sl ρr rf)) (hR2 : Rel σ (ρr 147) n rc) (htg : PC 122 [.ref 146, .int (nI i), .int (nI 1)] (HP sl (u2 ρr 147 (87 + 11 * i + 1) (nI 1)) rf) none (HP sl ρt rf)) {q : Nat} (hlk : PC 116 [.ref 146, .int (M (cS σ n))] (HP sl ρt rf) (some (.int (nI q))) (HP sl ρn rf)) : PC 123 [.ref 146, .int (nI i), .int (nI 1)] (HP sl ρ rf) (some (.int (nI q))) (HP sl ρn rf) := by
  have h16 := hR.b.1
  refine PC_of (cd := p_c_X5_input) (L0 := [some (.ref 146), some (.int (nI i)), some (.int (nI 1)), none]) rfl rfl ?_
  refine R_la0 rfl ?_
  refine R_ld1 rfl ?_
  refine R_c1 rfl (x_isInput hrf hR.b.1 hR.b.2.2.1 _) rfl rfl rfl sh_146 rfl rfl ?_
  refine BB_eqF rfl (inR_N hi (by omega)) ?_
  refine R_ld2 rfl ?_
  refine R_c0 rfl (x_isTwo _) rfl rfl rfl ?_
  refine BB_neT rfl (rfl) ?_
  refine R_la0 rfl ?_
  refine R_ld1 rfl ?_
  refine R_c1 rfl (x_isLock hrf hR hi) rfl rfl rfl sh_146 rfl rfl ?_
  refine BB_eqT rfl (decide_eq_false (fun q => q hl)) ?_
  refine R_la0 rfl ?_
  refine R_c1 rfl (hrec) rfl rfl rfl sh_146 rfl rfl ?_
  refine R_la0 rfl ?_
  refine R_c1 rfl (x_closedOnes hrf hR2) rfl rfl rfl sh_146 rfl rfl ?_
  refine R_st3 rfl ?_
  refine R_la0 rfl ?_
  refine R_ld1 rfl ?_
  refine R_n 1 rfl rfl ?_
  refine R_ld2 rfl ?_
  refine R_c1 rfl (x_lay hrf (by omega) (by decide) _) rfl rfl rfl sh_146 rfl rfl ?_
  refine R_la0 rfl ?_
  refine R_ld1 rfl ?_
  refine R_ld2 rfl ?_
  refine R_c1 rfl (htg) rfl rfl rfl sh_146 rfl rfl ?_
  refine R_la0 rfl ?_
  refine R_ld3 rfl ?_
  refine R_c1 rfl (hlk) rfl rfl rfl sh_146 rfl rfl ?_
  exact R_iret rfl (rfl)

theorem o_input (hF : FI s ρ rf) (x y : Int32) : Ag sl s 45 123 [.int x, .int y] ρ rf := by
  obtain ⟨n, rc, t, hR, ht, ht1, hB⟩ := hF.2.2.1
  have hrf := hF.1
  have hn16 := hR.b.1
  by_cases hb : inR n x = false ∨ inR 2 y = false
  · exact Ag_p hF (c_input_bad hrf hR.b.2.1 hn16 x y hb) (x_input_bad hrf hR x y hb)
  · have hx : inR n x = true := by
      cases h : inR n x with
      | true => rfl
      | false => exact absurd (Or.inl h) hb
    have hy : inR 2 y = true := by
      cases h : inR 2 y with
      | true => rfl
      | false => exact absurd (Or.inr h) hb
    obtain ⟨i, hi, rfl⟩ := inR_c (by omega) hx
    by_cases hl : ρ 4 i = -1
    · obtain ⟨ρa, rfa, h1, h2, h3, h4, h5⟩ := FI_step (sl := sl) hF
      have hRa : Rel ρa (ρ 147) n rc := Rel_k h3 hR
      have hta : ρa 3 1 = nI t := by rw [h3 3 (by decide) (by decide)]; exact ht
      have hla : ρa 4 i = -1 := by rw [h3 4 (by decide) (by decide)]; exact hl
      rcases inR_2.mp hy with rfl | rfl
      · obtain ⟨ρr, r1, r2, r3, r4, r5, r6⟩ := h5 (suA (opS ρa i) rc (M (cS ρa n)) (M (cS (opS ρa i) n)) (opS ρa i 3 1) 6) (fun k hk => by rw [suA_f _ _ _ _ _ (by omega), opS_f _ _ hk])
        have hRr : Rel ρa (ρr 147) n rc := by rw [r3]; exact hRa
        obtain ⟨μt, m1, m2⟩ := e_open (sl := sl) (ρ := ρr) h2 hRr hi hla
        obtain ⟨μ', m3, m4⟩ := x_looks (sl := sl) (ρ := u1 ρr 147 μt) (σ := opS ρa i) h2 (by rw [u1_at]; exact m1) (by rw [opS_t, hta]; exact nI_pos' (by omega)) (M (cS ρa n))
        rw [u1_u1] at m4
        exact ⟨_, _, _, _, c_input_ok0 hrf hR.b.2.1 hn16 hi hl h1 h2 hRa.b.2.1 hRa.hc m1.b.2.1 m1.hc (fun m hm => ⟨(m1.m hm).2.1, (m1.m hm).1⟩), x_input_ok0 h2 (by rw [r2]; exact hRa) hi hla r1 hRr m2 m4, r6 μ' ⟨n, rc, t, m3, by rw [suA_f _ _ _ _ _ (by decide), opS_t]; exact hta, ht1, brc_e (by rw [suA_f _ _ _ _ _ (by decide), opS_8]; exact h3 8 (by decide) (by decide)) hB⟩⟩
      · obtain ⟨ρr, r1, r2, r3, r4, r5, r6⟩ := h5 (suA (clS ρa i) rc (M (cS ρa n)) (M (cS (clS ρa i) n)) (clS ρa i 3 1) 6) (fun k hk => by rw [suA_f _ _ _ _ _ (by omega), clS_f _ _ hk])
        have hRr : Rel ρa (ρr 147) n rc := by rw [r3]; exact hRa
        obtain ⟨μt, m1, m2⟩ := e_close (sl := sl) (ρ := ρr) h2 hRr hi hla
        obtain ⟨μ', m3, m4⟩ := x_looks (sl := sl) (ρ := u1 ρr 147 μt) (σ := clS ρa i) h2 (by rw [u1_at]; exact m1) (by rw [clS_t, hta]; exact nI_pos' (by omega)) (M (cS ρa n))
        rw [u1_u1] at m4
        exact ⟨_, _, _, _, c_input_ok1 hrf hR.b.2.1 hn16 hi hl h1 h2 hRa.b.2.1 hRa.hc m1.b.2.1 m1.hc (fun m hm => ⟨(m1.m hm).2.1, (m1.m hm).1⟩), x_input_ok1 h2 (by rw [r2]; exact hRa) hi hla r1 hRr m2 m4, r6 μ' ⟨n, rc, t, m3, by rw [suA_f _ _ _ _ _ (by decide), clS_t]; exact hta, ht1, brc_e (by rw [suA_f _ _ _ _ _ (by decide), clS_8]; exact h3 8 (by decide) (by decide)) hB⟩⟩
    · obtain ⟨w, hw, rfl⟩ := inR_c (by decide) hy
      exact Ag_p hF (c_input_lock hrf hR.b.2.1 hn16 hi hw hl) (x_input_lock hrf hR hi hw hl)
theorem x_info_bad1 (hrf : RFok rf) (hR : Rel σ (ρ 147) n rc) (x y : Int32) (h : inR n x = false) : PC 125 [.ref 146, .int x, .int y] (HP sl ρ rf) (some (.int (-1))) (HP sl ρ rf) := by
  refine PC_of (cd := p_c_X5_inputInfo) (L0 := [some (.ref 146), some (.int x), some (.int y), none]) rfl rfl ?_
  refine R_la0 rfl ?_
  refine R_ld1 rfl ?_
  refine R_c1 rfl (x_isInput hrf hR.b.1 hR.b.2.2.1 _) rfl rfl rfl sh_146 rfl rfl ?_
  refine BB_eq rfl (fun g3 => ?_) (fun g3 => ?_)
  · refine R_i rfl ?_
    exact R_iret rfl (rfl)
  · rw [h] at g3; cases g3

theorem x_info_bad2 (hrf : RFok rf) (hR : Rel σ (ρ 147) n rc) {i : Nat} (hi : i < n) (y : Int32) (h : inR 12 y = false) : PC 125 [.ref 146, .int (nI i), .int y] (HP sl ρ rf) (some (.int (-1))) (HP sl ρ rf) := by
  refine PC_of (cd := p_c_X5_inputInfo) (L0 := [some (.ref 146), some (.int (nI i)), some (.int y), none]) rfl rfl ?_
  refine R_la0 rfl ?_
  refine R_ld1 rfl ?_
  refine R_c1 rfl (x_isInput hrf hR.b.1 hR.b.2.2.1 _) rfl rfl rfl sh_146 rfl rfl ?_
  refine BB_eqF rfl (inR_N hi (by have := hR.b.1; omega)) ?_
  refine R_ld2 rfl ?_
  refine R_n 0 rfl rfl ?_
  refine R_n 11 rfl rfl ?_
  refine R_c0 rfl (x_in _ _ _) rfl rfl rfl ?_
  refine BB_ne rfl (fun g8 => ?_) (fun g8 => ?_)
  · rw [show rgI y (nI 0) (nI 11) = inR 12 y from rg_R (k := 11) (by decide), h] at g8; cases g8
  · refine R_i rfl ?_
    exact R_iret rfl (rfl)

theorem onf_n {x : Int32} (h : 0 ≤ x) : onf x = x := by
  unfold onf
  rw [if_neg (fun q => by rw [q] at h; exact absurd h (by decide))]
theorem onf_m {x : Int32} (h : x = -1) : onf x = -4 := by
  unfold onf
  rw [if_pos h]
theorem x_info_0 (hrf : RFok rf) (hR : Rel σ (ρ 147) n rc) {i : Nat} (hi : i < n) : PC 125 [.ref 146, .int (nI i), .int (nI 0)] (HP sl ρ rf) (some (.int (bI (decide (¬ σ 4 i = -1))))) (HP sl ρ rf) := by
  have h16 := hR.b.1
  refine PC_of (cd := p_c_X5_inputInfo) (L0 := [some (.ref 146), some (.int (nI i)), some (.int (nI 0)), none]) rfl rfl ?_
  refine R_la0 rfl ?_
  refine R_ld1 rfl ?_
  refine R_c1 rfl (x_isInput hrf hR.b.1 hR.b.2.2.1 _) rfl rfl rfl sh_146 rfl rfl ?_
  refine BB_eqF rfl (inR_N hi (by omega)) ?_
  refine R_ld2 rfl ?_
  refine R_n 0 rfl rfl ?_
  refine R_n 11 rfl rfl ?_
  refine R_c0 rfl (x_in _ _ _) rfl rfl rfl ?_
  refine BB_neT rfl (by decide) ?_
  refine R_ld2 rfl ?_
  refine R_swN rfl (by omega) rfl ?_
  refine R_la0 rfl ?_
  refine R_ld1 rfl ?_
  refine R_n 0 rfl rfl ?_
  refine R_c1 rfl (xn_kind hrf hR hi) rfl rfl rfl sh_146 rfl rfl ?_
  exact R_iret rfl (rfl)

theorem x_info_1 (hrf : RFok rf) (hR : Rel σ (ρ 147) n rc) {i : Nat} (hi : i < n) : PC 125 [.ref 146, .int (nI i), .int (nI 1)] (HP sl ρ rf) (some (.int (bI (bt (σ 3 3) i)))) (HP sl ρ rf) := by
  have h16 := hR.b.1
  refine PC_of (cd := p_c_X5_inputInfo) (L0 := [some (.ref 146), some (.int (nI i)), some (.int (nI 1)), none]) rfl rfl ?_
  refine R_la0 rfl ?_
  refine R_ld1 rfl ?_
  refine R_c1 rfl (x_isInput hrf hR.b.1 hR.b.2.2.1 _) rfl rfl rfl sh_146 rfl rfl ?_
  refine BB_eqF rfl (inR_N hi (by omega)) ?_
  refine R_ld2 rfl ?_
  refine R_n 0 rfl rfl ?_
  refine R_n 11 rfl rfl ?_
  refine R_c0 rfl (x_in _ _ _) rfl rfl rfl ?_
  refine BB_neT rfl (by decide) ?_
  refine R_ld2 rfl ?_
  refine R_swN rfl (by omega) rfl ?_
  refine R_la0 rfl ?_
  refine R_ld1 rfl ?_
  refine R_c1 rfl (x_isClosed hrf hR hi) rfl rfl rfl sh_146 rfl rfl ?_
  refine R_c0 rfl (x_one _) rfl rfl rfl ?_
  exact R_iret rfl (rfl)

theorem x_info_2 (hrf : RFok rf) (hR : Rel σ (ρ 147) n rc) {i : Nat} (hi : i < n) : PC 125 [.ref 146, .int (nI i), .int (nI 2)] (HP sl ρ rf) (some (.int (bI (cS σ n i)))) (HP sl ρ rf) := by
  have h16 := hR.b.1
  refine PC_of (cd := p_c_X5_inputInfo) (L0 := [some (.ref 146), some (.int (nI i)), some (.int (nI 2)), none]) rfl rfl ?_
  refine R_la0 rfl ?_
  refine R_ld1 rfl ?_
  refine R_c1 rfl (x_isInput hrf hR.b.1 hR.b.2.2.1 _) rfl rfl rfl sh_146 rfl rfl ?_
  refine BB_eqF rfl (inR_N hi (by omega)) ?_
  refine R_ld2 rfl ?_
  refine R_n 0 rfl rfl ?_
  refine R_n 11 rfl rfl ?_
  refine R_c0 rfl (x_in _ _ _) rfl rfl rfl ?_
  refine BB_neT rfl (by decide) ?_
  refine R_ld2 rfl ?_
  refine R_swN rfl (by omega) rfl ?_
  refine R_la0 rfl ?_
  refine R_ld1 rfl ?_
  refine R_c1 rfl (x_counts hrf hR hi) rfl rfl rfl sh_146 rfl rfl ?_
  refine R_c0 rfl (x_one _) rfl rfl rfl ?_
  exact R_iret rfl (rfl)

theorem x_info_3 (hrf : RFok rf) (hR : Rel σ (ρ 147) n rc) {i : Nat} (hi : i < n) : PC 125 [.ref 146, .int (nI i), .int (nI 3)] (HP sl ρ rf) (some (.int (bI (bt (σ 3 4) i)))) (HP sl ρ rf) := by
  have h16 := hR.b.1
  refine PC_of (cd := p_c_X5_inputInfo) (L0 := [some (.ref 146), some (.int (nI i)), some (.int (nI 3)), none]) rfl rfl ?_
  refine R_la0 rfl ?_
  refine R_ld1 rfl ?_
  refine R_c1 rfl (x_isInput hrf hR.b.1 hR.b.2.2.1 _) rfl rfl rfl sh_146 rfl rfl ?_
  refine BB_eqF rfl (inR_N hi (by omega)) ?_
  refine R_ld2 rfl ?_
  refine R_n 0 rfl rfl ?_
  refine R_n 11 rfl rfl ?_
  refine R_c0 rfl (x_in _ _ _) rfl rfl rfl ?_
  refine BB_neT rfl (by decide) ?_
  refine R_ld2 rfl ?_
  refine R_swN rfl (by omega) rfl ?_
  refine R_la0 rfl ?_
  refine R_ld1 rfl ?_
  refine R_n 2 rfl rfl ?_
  refine R_c1 rfl (xn_ess hrf hR hi) rfl rfl rfl sh_146 rfl rfl ?_
  exact R_iret rfl (rfl)

theorem x_info_4 (hrf : RFok rf) (hR : Rel σ (ρ 147) n rc) {i : Nat} (hi : i < n) : PC 125 [.ref 146, .int (nI i), .int (nI 4)] (HP sl ρ rf) (some (.int (bI (ov σ i)))) (HP sl ρ rf) := by
  have h16 := hR.b.1
  refine PC_of (cd := p_c_X5_inputInfo) (L0 := [some (.ref 146), some (.int (nI i)), some (.int (nI 4)), none]) rfl rfl ?_
  refine R_la0 rfl ?_
  refine R_ld1 rfl ?_
  refine R_c1 rfl (x_isInput hrf hR.b.1 hR.b.2.2.1 _) rfl rfl rfl sh_146 rfl rfl ?_
  refine BB_eqF rfl (inR_N hi (by omega)) ?_
  refine R_ld2 rfl ?_
  refine R_n 0 rfl rfl ?_
  refine R_n 11 rfl rfl ?_
  refine R_c0 rfl (x_in _ _ _) rfl rfl rfl ?_
  refine BB_neT rfl (by decide) ?_
  refine R_ld2 rfl ?_
  refine R_swN rfl (by omega) rfl ?_
  refine R_la0 rfl ?_
  refine R_ld1 rfl ?_
  refine R_c1 rfl (x_isOverdue hrf hR hi) rfl rfl rfl sh_146 rfl rfl ?_
  refine R_c0 rfl (x_one _) rfl rfl rfl ?_
  exact R_iret rfl (rfl)

theorem x_info_5 (hrf : RFok rf) (hR : Rel σ (ρ 147) n rc) {i : Nat} (hi : i < n) : PC 125 [.ref 146, .int (nI i), .int (nI 5)] (HP sl ρ rf) (some (.int (σ 6 i))) (HP sl ρ rf) := by
  have h16 := hR.b.1
  refine PC_of (cd := p_c_X5_inputInfo) (L0 := [some (.ref 146), some (.int (nI i)), some (.int (nI 5)), none]) rfl rfl ?_
  refine R_la0 rfl ?_
  refine R_ld1 rfl ?_
  refine R_c1 rfl (x_isInput hrf hR.b.1 hR.b.2.2.1 _) rfl rfl rfl sh_146 rfl rfl ?_
  refine BB_eqF rfl (inR_N hi (by omega)) ?_
  refine R_ld2 rfl ?_
  refine R_n 0 rfl rfl ?_
  refine R_n 11 rfl rfl ?_
  refine R_c0 rfl (x_in _ _ _) rfl rfl rfl ?_
  refine BB_neT rfl (by decide) ?_
  refine R_ld2 rfl ?_
  refine R_swN rfl (by omega) rfl ?_
  refine R_la0 rfl ?_
  refine R_ld1 rfl ?_
  refine R_n 3 rfl rfl ?_
  refine R_c1 rfl (xn_int hrf hR hi) rfl rfl rfl sh_146 rfl rfl ?_
  exact R_iret rfl (rfl)

theorem x_info_6 (hrf : RFok rf) (hR : Rel σ (ρ 147) n rc) {i : Nat} (hi : i < n) : PC 125 [.ref 146, .int (nI i), .int (nI 6)] (HP sl ρ rf) (some (.int (σ 7 i))) (HP sl ρ rf) := by
  have h16 := hR.b.1
  refine PC_of (cd := p_c_X5_inputInfo) (L0 := [some (.ref 146), some (.int (nI i)), some (.int (nI 6)), none]) rfl rfl ?_
  refine R_la0 rfl ?_
  refine R_ld1 rfl ?_
  refine R_c1 rfl (x_isInput hrf hR.b.1 hR.b.2.2.1 _) rfl rfl rfl sh_146 rfl rfl ?_
  refine BB_eqF rfl (inR_N hi (by omega)) ?_
  refine R_ld2 rfl ?_
  refine R_n 0 rfl rfl ?_
  refine R_n 11 rfl rfl ?_
  refine R_c0 rfl (x_in _ _ _) rfl rfl rfl ?_
  refine BB_neT rfl (by decide) ?_
  refine R_ld2 rfl ?_
  refine R_swN rfl (by omega) rfl ?_
  refine R_la0 rfl ?_
  refine R_ld1 rfl ?_
  refine R_n 4 rfl rfl ?_
  refine R_c1 rfl (xn_tst hrf hR hi) rfl rfl rfl sh_146 rfl rfl ?_
  exact R_iret rfl (rfl)

theorem x_info_7 (hrf : RFok rf) (hR : Rel σ (ρ 147) n rc) {i : Nat} (hi : i < n) : PC 125 [.ref 146, .int (nI i), .int (nI 7)] (HP sl ρ rf) (some (.int (σ 8 i))) (HP sl ρ rf) := by
  have h16 := hR.b.1
  refine PC_of (cd := p_c_X5_inputInfo) (L0 := [some (.ref 146), some (.int (nI i)), some (.int (nI 7)), none]) rfl rfl ?_
  refine R_la0 rfl ?_
  refine R_ld1 rfl ?_
  refine R_c1 rfl (x_isInput hrf hR.b.1 hR.b.2.2.1 _) rfl rfl rfl sh_146 rfl rfl ?_
  refine BB_eqF rfl (inR_N hi (by omega)) ?_
  refine R_ld2 rfl ?_
  refine R_n 0 rfl rfl ?_
  refine R_n 11 rfl rfl ?_
  refine R_c0 rfl (x_in _ _ _) rfl rfl rfl ?_
  refine BB_neT rfl (by decide) ?_
  refine R_ld2 rfl ?_
  refine R_swN rfl (by omega) rfl ?_
  refine R_la0 rfl ?_
  refine R_ld1 rfl ?_
  refine R_n 5 rfl rfl ?_
  refine R_c1 rfl (xn_left hrf hR hi) rfl rfl rfl sh_146 rfl rfl ?_
  exact R_iret rfl (rfl)

theorem x_info_8 (hrf : RFok rf) (hR : Rel σ (ρ 147) n rc) {i : Nat} (hi : i < n) : PC 125 [.ref 146, .int (nI i), .int (nI 8)] (HP sl ρ rf) (some (.int (σ 9 i))) (HP sl ρ rf) := by
  have h16 := hR.b.1
  refine PC_of (cd := p_c_X5_inputInfo) (L0 := [some (.ref 146), some (.int (nI i)), some (.int (nI 8)), none]) rfl rfl ?_
  refine R_la0 rfl ?_
  refine R_ld1 rfl ?_
  refine R_c1 rfl (x_isInput hrf hR.b.1 hR.b.2.2.1 _) rfl rfl rfl sh_146 rfl rfl ?_
  refine BB_eqF rfl (inR_N hi (by omega)) ?_
  refine R_ld2 rfl ?_
  refine R_n 0 rfl rfl ?_
  refine R_n 11 rfl rfl ?_
  refine R_c0 rfl (x_in _ _ _) rfl rfl rfl ?_
  refine BB_neT rfl (by decide) ?_
  refine R_ld2 rfl ?_
  refine R_swN rfl (by omega) rfl ?_
  refine R_la0 rfl ?_
  refine R_ld1 rfl ?_
  refine R_n 6 rfl rfl ?_
  refine R_c1 rfl (xn_bri hrf hR hi) rfl rfl rfl sh_146 rfl rfl ?_
  exact R_iret rfl (rfl)

theorem x_info_9 (hrf : RFok rf) (hR : Rel σ (ρ 147) n rc) {i : Nat} (hi : i < n) : PC 125 [.ref 146, .int (nI i), .int (nI 9)] (HP sl ρ rf) (some (.int (σ 10 i))) (HP sl ρ rf) := by
  have h16 := hR.b.1
  refine PC_of (cd := p_c_X5_inputInfo) (L0 := [some (.ref 146), some (.int (nI i)), some (.int (nI 9)), none]) rfl rfl ?_
  refine R_la0 rfl ?_
  refine R_ld1 rfl ?_
  refine R_c1 rfl (x_isInput hrf hR.b.1 hR.b.2.2.1 _) rfl rfl rfl sh_146 rfl rfl ?_
  refine BB_eqF rfl (inR_N hi (by omega)) ?_
  refine R_ld2 rfl ?_
  refine R_n 0 rfl rfl ?_
  refine R_n 11 rfl rfl ?_
  refine R_c0 rfl (x_in _ _ _) rfl rfl rfl ?_
  refine BB_neT rfl (by decide) ?_
  refine R_ld2 rfl ?_
  refine R_swN rfl (by omega) rfl ?_
  refine R_la0 rfl ?_
  refine R_ld1 rfl ?_
  refine R_n 7 rfl rfl ?_
  refine R_c1 rfl (xn_test hrf hR hi) rfl rfl rfl sh_146 rfl rfl ?_
  exact R_iret rfl (rfl)

theorem x_info_10 (hrf : RFok rf) (hR : Rel σ (ρ 147) n rc) {i : Nat} (hi : i < n) : PC 125 [.ref 146, .int (nI i), .int (nI 10)] (HP sl ρ rf) (some (.int (onf (σ 4 i)))) (HP sl ρ rf) := by
  have h16 := hR.b.1
  refine PC_of (cd := p_c_X5_inputInfo) (L0 := [some (.ref 146), some (.int (nI i)), some (.int (nI 10)), none]) rfl rfl ?_
  refine R_la0 rfl ?_
  refine R_ld1 rfl ?_
  refine R_c1 rfl (x_isInput hrf hR.b.1 hR.b.2.2.1 _) rfl rfl rfl sh_146 rfl rfl ?_
  refine BB_eqF rfl (inR_N hi (by omega)) ?_
  refine R_ld2 rfl ?_
  refine R_n 0 rfl rfl ?_
  refine R_n 11 rfl rfl ?_
  refine R_c0 rfl (x_in _ _ _) rfl rfl rfl ?_
  refine BB_neT rfl (by decide) ?_
  refine R_ld2 rfl ?_
  refine R_swN rfl (by omega) rfl ?_
  refine R_la0 rfl ?_
  refine R_ld1 rfl ?_
  refine R_ld2 rfl ?_
  refine R_n 10 rfl rfl ?_
  refine N2_neF rfl (by omega) (by omega) (by decide) ?_
  refine R_n 9 rfl rfl ?_
  refine R_goto rfl ?_
  refine R_c1 rfl (xn_made hrf hR hi) rfl rfl rfl sh_146 rfl rfl ?_
  refine R_st3 rfl ?_
  refine R_ld3 rfl ?_
  refine B1_ge rfl (fun g74 => ?_) (fun g74 => ?_)
  · refine R_ld3 rfl ?_
    exact R_iret rfl (by first | exact lf_i (onf_n g74).symm | exact lf_i (onf_m (by rcases (hR.i hi).2.2.1 with e | ⟨a, ha, e⟩; exact e; exact absurd (by rw [e]; exact nI_pos' (by omega)) g74)).symm)
  · refine R_i rfl ?_
    refine R_goto rfl ?_
    exact R_iret rfl (by first | exact lf_i (onf_n g74).symm | exact lf_i (onf_m (by rcases (hR.i hi).2.2.1 with e | ⟨a, ha, e⟩; exact e; exact absurd (by rw [e]; exact nI_pos' (by omega)) g74)).symm)

theorem x_info_11 (hrf : RFok rf) (hR : Rel σ (ρ 147) n rc) {i : Nat} (hi : i < n) : PC 125 [.ref 146, .int (nI i), .int (nI 11)] (HP sl ρ rf) (some (.int (onf (σ 5 i)))) (HP sl ρ rf) := by
  have h16 := hR.b.1
  refine PC_of (cd := p_c_X5_inputInfo) (L0 := [some (.ref 146), some (.int (nI i)), some (.int (nI 11)), none]) rfl rfl ?_
  refine R_la0 rfl ?_
  refine R_ld1 rfl ?_
  refine R_c1 rfl (x_isInput hrf hR.b.1 hR.b.2.2.1 _) rfl rfl rfl sh_146 rfl rfl ?_
  refine BB_eqF rfl (inR_N hi (by omega)) ?_
  refine R_ld2 rfl ?_
  refine R_n 0 rfl rfl ?_
  refine R_n 11 rfl rfl ?_
  refine R_c0 rfl (x_in _ _ _) rfl rfl rfl ?_
  refine BB_neT rfl (by decide) ?_
  refine R_ld2 rfl ?_
  refine R_swN rfl (by omega) rfl ?_
  refine R_la0 rfl ?_
  refine R_ld1 rfl ?_
  refine R_ld2 rfl ?_
  refine R_n 10 rfl rfl ?_
  refine N2_neT rfl (by omega) (by omega) (by decide) ?_
  refine R_n 10 rfl rfl ?_
  refine R_c1 rfl (xn_guard hrf hR hi) rfl rfl rfl sh_146 rfl rfl ?_
  refine R_st3 rfl ?_
  refine R_ld3 rfl ?_
  refine B1_ge rfl (fun g74 => ?_) (fun g74 => ?_)
  · refine R_ld3 rfl ?_
    exact R_iret rfl (by first | exact lf_i (onf_n g74).symm | exact lf_i (onf_m (by rcases (hR.i hi).2.2.2.2.1 with e | ⟨a, ha, e⟩; exact e; exact absurd (by rw [e]; exact nI_pos' (by omega)) g74)).symm)
  · refine R_i rfl ?_
    refine R_goto rfl ?_
    exact R_iret rfl (by first | exact lf_i (onf_n g74).symm | exact lf_i (onf_m (by rcases (hR.i hi).2.2.2.2.1 with e | ⟨a, ha, e⟩; exact e; exact absurd (by rw [e]; exact nI_pos' (by omega)) g74)).symm)

theorem o_info (hF : FI s ρ rf) (x y : Int32) : Ag sl s 46 125 [.int x, .int y] ρ rf := by
  obtain ⟨n, rc, t, hR, ht, ht1, hB⟩ := hF.2.2.1
  have hrf := hF.1
  have hn16 := hR.b.1
  cases hx : inR n x with
  | false => exact Ag_p hF (c_info_bad1 hrf hR.b.2.1 hn16 x y hx) (x_info_bad1 hrf hR x y hx)
  | true =>
    obtain ⟨i, hi, rfl⟩ := inR_c (by omega) hx
    cases hy : inR 12 y with
    | false => exact Ag_p hF (c_info_bad2 hrf hR.b.2.1 hn16 hi y hy) (x_info_bad2 hrf hR hi y hy)
    | true =>
    obtain ⟨w, hw, rfl⟩ := inR_c (by decide) hy
    rcases (show w = 0 ∨ w = 1 ∨ w = 2 ∨ w = 3 ∨ w = 4 ∨ w = 5 ∨ w = 6 ∨ w = 7 ∨ w = 8 ∨ w = 9 ∨ w = 10 ∨ w = 11 by omega) with rfl | rfl | rfl | rfl | rfl | rfl | rfl | rfl | rfl | rfl | rfl | rfl
    · exact Ag_p hF (c_info_0 (sl := sl) hrf hR.b.2.1 hn16 hi) (x_info_0 hrf hR hi)
    · exact Ag_p hF (c_info_1 (sl := sl) hrf hR.b.2.1 hn16 hi) (x_info_1 hrf hR hi)
    · exact Ag_p hF (by have h := c_info_2 (sl := sl) hrf hR.b.2.1 hn16 hi hR.hc; rw [M_bt _ (by omega), decide_eq_true (by omega), Bool.true_and] at h; exact h) (x_info_2 hrf hR hi)
    · exact Ag_p hF (c_info_3 (sl := sl) hrf hR.b.2.1 hn16 hi) (x_info_3 hrf hR hi)
    · exact Ag_p hF (by have h := c_info_4 (sl := sl) hrf hR.b.2.1 hn16 hi; rw [wA_bt hn16 hi] at h; exact h) (x_info_4 hrf hR hi)
    · exact Ag_p hF (c_info_5 (sl := sl) hrf hR.b.2.1 hn16 hi) (x_info_5 hrf hR hi)
    · exact Ag_p hF (c_info_6 (sl := sl) hrf hR.b.2.1 hn16 hi) (x_info_6 hrf hR hi)
    · exact Ag_p hF (c_info_7 (sl := sl) hrf hR.b.2.1 hn16 hi) (x_info_7 hrf hR hi)
    · exact Ag_p hF (c_info_8 (sl := sl) hrf hR.b.2.1 hn16 hi) (x_info_8 hrf hR hi)
    · exact Ag_p hF (c_info_9 (sl := sl) hrf hR.b.2.1 hn16 hi) (x_info_9 hrf hR hi)
    · exact Ag_p hF (c_info_10 (sl := sl) hrf hR.b.2.1 hn16 hi) (x_info_10 hrf hR hi)
    · exact Ag_p hF (c_info_11 (sl := sl) hrf hR.b.2.1 hn16 hi) (x_info_11 hrf hR hi)
end
