/-! tests that go on, what is over, the tick -/
section
variable {sl : Nat} {ρ σ : pR} {μ : Nat → Int32} {rf : pF} {n : Nat} {rc : Nat → Nat}
theorem up_id (f : Nat → Int32) (j : Nat) : upd f j (f j) = f := by
  funext s
  by_cases h : s = j
  · rw [h, up_eq]
  · rw [up_ne h]
theorem u2_id (f : pR) (k j : Nat) : u2 f k j (f k j) = f := by rw [u2_e1, up_id, u1_id]
theorem Rel_tm (hR : Rel σ μ n rc) : Rel (u2 σ 3 1 (σ 3 1 + nI 1)) (upd μ 0 (μ 0 + nI 1)) n rc := by
  obtain ⟨b1, b2, b3, b4, b5⟩ := hR.b
  refine ⟨⟨b1, by (try simp (disch := omega) only [u2_at, u2_ne, up_eq, up_ne, u1_at, u1_ne]); exact b2, by (try simp (disch := omega) only [u2_at, u2_ne, up_eq, up_ne, u1_at, u1_ne]); exact b3, by (try simp (disch := omega) only [u2_at, u2_ne, up_eq, up_ne, u1_at, u1_ne]); rw [b4], by (try simp (disch := omega) only [u2_at, u2_ne, up_eq, up_ne, u1_at, u1_ne]); exact b5⟩, fun m hm => MoR_c (fun a a1 a2 => by (try simp (disch := omega) only [u2_at, u2_ne, up_eq, up_ne, u1_at, u1_ne])) (fun a ha => by (try simp (disch := omega) only [u2_at, u2_ne, up_eq, up_ne, u1_at, u1_ne])) (by (try simp (disch := omega) only [u2_at, u2_ne, up_eq, up_ne, u1_at, u1_ne])) (fun w hw => by (try simp (disch := omega) only [u2_at, u2_ne, up_eq, up_ne, u1_at, u1_ne])) rfl (hR.m hm), fun i hi => by (try simp (disch := omega) only [u2_at, u2_ne, up_eq, up_ne, u1_at, u1_ne]); exact hR.r hi, fun i hi => InI_c (Nat.le_refl _) (fun k k1 k2 => by (try simp (disch := omega) only [u2_at, u2_ne, up_eq, up_ne, u1_at, u1_ne])) (by (try simp (disch := omega) only [u2_at, u2_ne, up_eq, up_ne, u1_at, u1_ne])) (by (try simp (disch := omega) only [u2_at, u2_ne, up_eq, up_ne, u1_at, u1_ne])) (fun w hw => by (try simp (disch := omega) only [u2_at, u2_ne, up_eq, up_ne, u1_at, u1_ne])) (fun k hk => by (try simp (disch := omega) only [u2_at, u2_ne, up_eq, up_ne, u1_at, u1_ne])) (hR.i hi), fun a ha => KeR_c (Nat.le_refl _) (fun i _ => by (try simp (disch := omega) only [u2_at, u2_ne, up_eq, up_ne, u1_at, u1_ne])) (by (try simp (disch := omega) only [u2_at, u2_ne, up_eq, up_ne, u1_at, u1_ne])) (hR.k ha), fun i hi hi2 => ?_, fun i hi => by (try simp (disch := omega) only [u2_at, u2_ne, up_eq, up_ne, u1_at, u1_ne]); exact hR.c hi, fun i hi => by (try simp (disch := omega) only [u2_at, u2_ne, up_eq, up_ne, u1_at, u1_ne]); exact hR.e hi⟩
  have := hR.z hi hi2
  unfold ZeR at this ⊢
  (try simp (disch := omega) only [u2_at, u2_ne, up_eq, up_ne, u1_at, u1_ne])
  exact this
/-- what an input's time has come for: its bridge, its test -/
def eoL (σ : pR) (i : Nat) : pR := if nI 0 < σ 8 i then u2 σ 8 i (σ 8 i - nI 1) else σ
def eoP (σ : pR) (i : Nat) : pR := if ¬ σ 10 i ≤ 0 ∧ σ 11 i < σ 3 1 then u2 σ 10 i (nI 0) else σ
def eoS (σ : pR) (i : Nat) : pR := eoP (eoL σ i) i
def eoA (σ : pR) : Nat → pR
  | 0 => σ
  | j + 1 => eoS (eoA σ j) j
def biA (σ : pR) : Nat → pR
  | 0 => σ
  | j + 1 => u2 (biA σ j) 9 j (biA σ j 9 j + bI (br (biA σ j) j))
theorem eo_n {t a b : Int32} (h : t ≤ a) (e : b = a) : ¬ b < t := by rw [e]; exact Int32.not_lt.mpr h
theorem eo_p {t a b : Int32} (h : ¬ t ≤ a) (e : b = a) : b < t := by rw [e]; exact Int32.not_le.mp h
theorem eo_l (hR : Rel σ μ n rc) {i : Nat} (hi : i < n) (h : 0 < σ 8 i) : Rel (u2 σ 8 i (σ 8 i - nI 1)) (upd μ (87 + 11 * i + 5) (σ 8 i - nI 1)) n rc := by
  obtain ⟨l, hl, e⟩ := (hR.i hi).2.2.2.2.2.2.2.2.1
  have h1 : 1 ≤ l := by
    cases l with
    | zero => rw [e] at h; exact absurd h (by decide)
    | succ l => omega
  rw [e, show nI l - nI 1 = nI (l - 1) from pk_sub h1]
  exact Rel_left hR hi (by omega)
theorem eo_0 (hR : Rel σ μ n rc) {i : Nat} (h : σ 8 i ≤ 0) : Rel (eoL σ i) μ n rc := by
  unfold eoL
  rw [if_neg (show ¬ nI 0 < σ 8 i from Int32.not_lt.mpr h)]
  exact hR
theorem eo_1 (hR : Rel σ μ n rc) {i : Nat} (hi : i < n) (h : ¬ σ 8 i ≤ 0) : Rel (eoL σ i) (upd μ (87 + 11 * i + 5) (σ 8 i - nI 1)) n rc := by
  unfold eoL
  rw [if_pos (show nI 0 < σ 8 i from Int32.not_le.mp h)]
  exact eo_l hR hi (Int32.not_le.mp h)
theorem eo_2 {i : Nat} (hR : Rel (eoL σ i) μ n rc) (h : eoL σ i 10 i ≤ 0) : Rel (eoS σ i) μ n rc := by
  unfold eoS eoP
  rw [if_neg (fun q => q.1 h)]
  exact hR
theorem eo_3 {i : Nat} (hR : Rel (eoL σ i) μ n rc) (h : ¬ eoL σ i 11 i < eoL σ i 3 1) : Rel (eoS σ i) μ n rc := by
  unfold eoS eoP
  rw [if_neg (fun q => h q.2)]
  exact hR
theorem eo_4 {i : Nat} (hR : Rel (eoL σ i) μ n rc) (hi : i < n) (h1 : ¬ eoL σ i 10 i ≤ 0) (h : eoL σ i 11 i < eoL σ i 3 1) : Rel (eoS σ i) (upd μ (87 + 11 * i + 7) (nI 0)) n rc := by
  unfold eoS eoP
  rw [if_pos ⟨h1, h⟩]
  exact Rel_ph hR hi (Or.inl rfl) (fun q => absurd rfl q)
theorem x_eo (hrf : RFok rf) (hR : Rel σ (ρ 147) n rc) {i : Nat} (hi : i < n) : ∃ μ', Rel (eoS σ i) μ' n rc ∧ PC 151 [.ref 146, .int (nI i)] (HP sl ρ rf) none (HP sl (u1 ρ 147 μ') rf) := by
  have h16 := hR.b.1
  have tail : ∀ μ2, Rel (eoL σ i) μ2 n rc → PW p_c_X5_endsWhatIsOver 15 [some (.ref 146), some (.int (nI i))] [] (HP sl (u1 ρ 147 μ2) rf) (fun zz => ∃ μ', Rel (eoS σ i) μ' n rc ∧ zz = (none, HP sl (u1 ρ 147 μ') rf)) := by
    intro μ2 hμ2
    have hR3 : Rel (eoL σ i) ((u1 ρ 147 μ2) 147) n rc := by rw [u1_at]; exact hμ2
    have hbe : ¬ eoL σ i 10 i ≤ 0 → eoL σ i 11 i = (u1 ρ 147 μ2) 147 (87 + 11 * i + 8) + nI 20 := fun q => (hR3.i hi).2.2.2.2.2.2.2.2.2.2.2.2.1 (fun e => q (by rw [e]; decide))
    refine R_la0 rfl ?_
    refine R_ld1 rfl ?_
    refine R_n 7 rfl rfl ?_
    refine R_c1 rfl (xn_test hrf hR3 hi) rfl rfl rfl sh_146 rfl rfl ?_
    refine B1_le rfl (fun h19 => ?_) (fun h19 => ?_)
    · refine R_ret rfl ?_
      first
        | exact ⟨μ2, eo_2 hμ2 h19, rfl⟩
        | exact ⟨μ2, eo_3 hμ2 (eo_n h30 (hbe h19)), rfl⟩
        | exact ⟨upd μ2 (87 + 11 * i + 7) (nI 0), eo_4 hμ2 hi h19 (eo_p h30 (hbe h19)), congrArg (fun z => (none, HP sl z rf)) (u2_u1 _ _ _ _ _)⟩
    · refine R_la0 rfl ?_
      refine R_getR rfl sh_146 rfl (rf_146_0 hrf) ?_
      refine R_n 0 rfl rfl ?_
      refine R_ald rfl sh_147 (by first | decide | omega) (by omega) hR3.b.2.2.2.1 ?_
      refine R_la0 rfl ?_
      refine R_ld1 rfl ?_
      refine R_n 8 rfl rfl ?_
      refine R_c1 rfl (x_on hrf (by omega) (by decide)) rfl rfl rfl sh_146 rfl rfl ?_
      refine R_n 20 rfl rfl ?_
      refine R_add rfl ?_
      refine B2_le rfl (fun h30 => ?_) (fun h30 => ?_)
      · refine R_ret rfl ?_
        first
          | exact ⟨μ2, eo_2 hμ2 h19, rfl⟩
          | exact ⟨μ2, eo_3 hμ2 (eo_n h30 (hbe h19)), rfl⟩
          | exact ⟨upd μ2 (87 + 11 * i + 7) (nI 0), eo_4 hμ2 hi h19 (eo_p h30 (hbe h19)), congrArg (fun z => (none, HP sl z rf)) (u2_u1 _ _ _ _ _)⟩
      · refine R_la0 rfl ?_
        refine R_ld1 rfl ?_
        refine R_n 7 rfl rfl ?_
        refine R_n 0 rfl rfl ?_
        refine R_c1 rfl (x_lay hrf (by omega) (by decide) _) rfl rfl rfl sh_146 rfl rfl ?_
        refine R_ret rfl ?_
        first
          | exact ⟨μ2, eo_2 hμ2 h19, rfl⟩
          | exact ⟨μ2, eo_3 hμ2 (eo_n h30 (hbe h19)), rfl⟩
          | exact ⟨upd μ2 (87 + 11 * i + 7) (nI 0), eo_4 hμ2 hi h19 (eo_p h30 (hbe h19)), congrArg (fun z => (none, HP sl z rf)) (u2_u1 _ _ _ _ _)⟩
  refine PC_ex (cd := p_c_X5_endsWhatIsOver) (L0 := [some (.ref 146), some (.int (nI i))]) rfl rfl ?_
  refine R_la0 rfl ?_
  refine R_ld1 rfl ?_
  refine R_n 5 rfl rfl ?_
  refine R_c1 rfl (xn_left hrf hR hi) rfl rfl rfl sh_146 rfl rfl ?_
  refine B1_le rfl (fun h4 => ?_) (fun h4 => ?_)
  · first
      | exact PW_eq (u1_id ρ 147) (tail (ρ 147) (eo_0 hR h4))
      | exact PW_eq rfl (tail _ (eo_1 hR hi h4))
  · refine R_la0 rfl ?_
    refine R_ld1 rfl ?_
    refine R_n 5 rfl rfl ?_
    refine R_la0 rfl ?_
    refine R_ld1 rfl ?_
    refine R_n 5 rfl rfl ?_
    refine R_c1 rfl (xn_left hrf hR hi) rfl rfl rfl sh_146 rfl rfl ?_
    refine R_n 1 rfl rfl ?_
    refine R_sub rfl ?_
    refine R_c1 rfl (x_lay hrf (by omega) (by decide) _) rfl rfl rfl sh_146 rfl rfl ?_
    first
      | exact PW_eq (u1_id ρ 147) (tail (ρ 147) (eo_0 hR h4))
      | exact PW_eq rfl (tail _ (eo_1 hR hi h4))
theorem x_tgo0a (hrf : RFok rf) {i : Nat} (hi : i < 16) (h : ρ 147 (87 + 11 * i + 7) = nI 1) : PC 122 [.ref 146, .int (nI i), .int (nI 0)] (HP sl ρ rf) none (HP sl (u2 ρ 147 (87 + 11 * i + 7) (nI 2)) rf) := by
  refine PC_of (cd := p_c_X5_testGoesOn) (L0 := [some (.ref 146), some (.int (nI i)), some (.int (nI 0))]) rfl rfl ?_
  refine R_la0 rfl ?_
  refine R_ld1 rfl ?_
  refine R_n 7 rfl rfl ?_
  refine R_c1 rfl (x_on hrf hi (by decide)) rfl rfl rfl sh_146 rfl rfl ?_
  refine R_n 1 rfl rfl ?_
  refine B2_neF rfl (h) ?_
  refine R_ld2 rfl ?_
  refine B1_neF rfl (rfl) ?_
  refine R_la0 rfl ?_
  refine R_ld1 rfl ?_
  refine R_n 7 rfl rfl ?_
  refine R_n 2 rfl rfl ?_
  refine R_c1 rfl (x_lay hrf hi (by decide) _) rfl rfl rfl sh_146 rfl rfl ?_
  refine R_goto rfl ?_
  exact R_ret rfl (rfl)

theorem x_tgo0b (hrf : RFok rf) {i : Nat} (hi : i < 16) (h : ¬ ρ 147 (87 + 11 * i + 7) = nI 1) : PC 122 [.ref 146, .int (nI i), .int (nI 0)] (HP sl ρ rf) none (HP sl ρ rf) := by
  refine PC_of (cd := p_c_X5_testGoesOn) (L0 := [some (.ref 146), some (.int (nI i)), some (.int (nI 0))]) rfl rfl ?_
  refine R_la0 rfl ?_
  refine R_ld1 rfl ?_
  refine R_n 7 rfl rfl ?_
  refine R_c1 rfl (x_on hrf hi (by decide)) rfl rfl rfl sh_146 rfl rfl ?_
  refine R_n 1 rfl rfl ?_
  refine B2_neT rfl (h) ?_
  refine R_la0 rfl ?_
  refine R_ld1 rfl ?_
  refine R_n 7 rfl rfl ?_
  refine R_c1 rfl (x_on hrf hi (by decide)) rfl rfl rfl sh_146 rfl rfl ?_
  refine R_n 2 rfl rfl ?_
  refine B2_ne rfl (fun h19 => ?_) (fun h19 => ?_)
  · exact R_ret rfl (rfl)
  · refine R_ld2 rfl ?_
    refine R_n 1 rfl rfl ?_
    refine N2_neT rfl (by omega) (by omega) (by decide) ?_
    exact R_ret rfl (rfl)

theorem x_tgo1a (hrf : RFok rf) {i : Nat} (hi : i < 16) (h : ρ 147 (87 + 11 * i + 7) = nI 2) : PC 122 [.ref 146, .int (nI i), .int (nI 1)] (HP sl ρ rf) none (HP sl (u2 (u2 (u2 ρ 147 (87 + 11 * i + 7) (nI 0)) 147 (87 + 11 * i + 4) (ρ 147 0)) 147 2 (ρ 147 2 + nI 1)) rf) := by
  refine PC_of (cd := p_c_X5_testGoesOn) (L0 := [some (.ref 146), some (.int (nI i)), some (.int (nI 1))]) rfl rfl ?_
  refine R_la0 rfl ?_
  refine R_ld1 rfl ?_
  refine R_n 7 rfl rfl ?_
  refine R_c1 rfl (x_on hrf hi (by decide)) rfl rfl rfl sh_146 rfl rfl ?_
  refine R_n 1 rfl rfl ?_
  refine B2_neT rfl (by rw [h]; decide) ?_
  refine R_la0 rfl ?_
  refine R_ld1 rfl ?_
  refine R_n 7 rfl rfl ?_
  refine R_c1 rfl (x_on hrf hi (by decide)) rfl rfl rfl sh_146 rfl rfl ?_
  refine R_n 2 rfl rfl ?_
  refine B2_neF rfl (h) ?_
  refine R_ld2 rfl ?_
  refine R_n 1 rfl rfl ?_
  refine N2_neF rfl (by omega) (by omega) (rfl) ?_
  refine R_la0 rfl ?_
  refine R_ld1 rfl ?_
  refine R_n 7 rfl rfl ?_
  refine R_n 0 rfl rfl ?_
  refine R_c1 rfl (x_lay hrf hi (by decide) _) rfl rfl rfl sh_146 rfl rfl ?_
  refine R_la0 rfl ?_
  refine R_ld1 rfl ?_
  refine R_n 4 rfl rfl ?_
  refine R_la0 rfl ?_
  refine R_getR rfl sh_146 rfl (rf_146_0 hrf) ?_
  refine R_n 0 rfl rfl ?_
  refine R_ald rfl sh_147 (by first | decide | omega) (by omega) (show _ = ρ 147 0 by simp (disch := omega) only [u2_at, u2_ne, up_eq, up_ne, u1_at, u1_ne]) ?_
  refine R_c1 rfl (x_lay hrf hi (by decide) _) rfl rfl rfl sh_146 rfl rfl ?_
  refine R_la0 rfl ?_
  refine R_getR rfl sh_146 rfl (rf_146_0 hrf) ?_
  refine R_n 2 rfl rfl ?_
  refine R_dup2 rfl ?_
  refine R_ald rfl sh_147 (by first | decide | omega) (by omega) (show _ = ρ 147 2 by simp (disch := omega) only [u2_at, u2_ne, up_eq, up_ne, u1_at, u1_ne]) ?_
  refine R_n 1 rfl rfl ?_
  refine R_add rfl ?_
  refine R_ast rfl sh_147 (by decide) (by omega) ?_
  exact R_ret rfl (rfl)

theorem x_tgo1b (hrf : RFok rf) {i : Nat} (hi : i < 16) (h : ¬ ρ 147 (87 + 11 * i + 7) = nI 2) : PC 122 [.ref 146, .int (nI i), .int (nI 1)] (HP sl ρ rf) none (HP sl ρ rf) := by
  refine PC_of (cd := p_c_X5_testGoesOn) (L0 := [some (.ref 146), some (.int (nI i)), some (.int (nI 1))]) rfl rfl ?_
  refine R_la0 rfl ?_
  refine R_ld1 rfl ?_
  refine R_n 7 rfl rfl ?_
  refine R_c1 rfl (x_on hrf hi (by decide)) rfl rfl rfl sh_146 rfl rfl ?_
  refine R_n 1 rfl rfl ?_
  refine B2_ne rfl (fun h5 => ?_) (fun h5 => ?_)
  · refine R_la0 rfl ?_
    refine R_ld1 rfl ?_
    refine R_n 7 rfl rfl ?_
    refine R_c1 rfl (x_on hrf hi (by decide)) rfl rfl rfl sh_146 rfl rfl ?_
    refine R_n 2 rfl rfl ?_
    refine B2_neT rfl (h) ?_
    exact R_ret rfl (rfl)
  · refine R_ld2 rfl ?_
    refine B1_neT rfl (by decide) ?_
    refine R_la0 rfl ?_
    refine R_ld1 rfl ?_
    refine R_n 7 rfl rfl ?_
    refine R_c1 rfl (x_on hrf hi (by decide)) rfl rfl rfl sh_146 rfl rfl ?_
    refine R_n 2 rfl rfl ?_
    refine B2_neT rfl (h) ?_
    exact R_ret rfl (rfl)

theorem biA_0 {j : Nat} (h : biA σ j 8 j ≤ 0) : biA σ (j + 1) = u2 (biA σ j) 9 j (biA σ j 9 j + nI 0) := by
  show u2 _ _ _ (_ + bI (br (biA σ j) j)) = _
  rw [br_f1 h]
  rfl
theorem biA_1 {j : Nat} (h : ¬ biA σ j 8 j ≤ 0) : biA σ (j + 1) = u2 (biA σ j) 9 j (biA σ j 9 j + nI 1) := by
  show u2 _ _ _ (_ + bI (br (biA σ j) j)) = _
  rw [br_t1 h]
  rfl
theorem biA_f (σ : pR) {k : Nat} (h : k ≠ 9) : ∀ j, biA σ j k = σ k
  | 0 => rfl
  | j + 1 => by show u2 _ 9 _ _ k = _; rw [u2_ne h, biA_f σ h j]
theorem eoL_f (σ : pR) (i : Nat) {k : Nat} (h : k ≠ 8) : eoL σ i k = σ k := by
  unfold eoL
  split
  · exact u2_ne h
  · rfl
theorem eoP_f (σ : pR) (i : Nat) {k : Nat} (h : k ≠ 10) : eoP σ i k = σ k := by
  unfold eoP
  split
  · exact u2_ne h
  · rfl
theorem eoA_3 (σ : pR) {k : Nat} (h : k ≠ 8 ∧ k ≠ 10) : ∀ j, eoA σ j k = σ k
  | 0 => rfl
  | j + 1 => by
    show eoP (eoL (eoA σ j) j) j k = _
    rw [← eoA_3 σ h j, ← eoL_f (eoA σ j) j h.1]
    exact eoP_f _ _ h.2
theorem ct_r (hR : Rel σ μ n rc) {m : Nat} (hm : m < 6) : Rel (u2 (u2 σ 20 m (σ 20 m + nI 1)) 21 m (σ 21 m + nI 1)) (upd (upd μ (9 + 13 * m + 8) (μ (9 + 13 * m + 8) + nI 1)) (9 + 13 * m + 9) (μ (9 + 13 * m + 9) + nI 1)) n rc := by
  have h1 := Rel_since (Rel_ran hR hm) hm
  have e1 : u2 (u2 σ 21 m (σ 21 m + nI 1)) 20 m ((u2 σ 21 m (σ 21 m + nI 1)) 20 m + nI 1) = u2 (u2 σ 20 m (σ 20 m + nI 1)) 21 m (σ 21 m + nI 1) := by
    rw [u2_ne (show 20 ≠ 21 by decide)]
    funext k
    by_cases h : k = 20
    · subst h; rw [u2_at, u2_ne (by decide), u2_ne (by decide), u2_at]
    · by_cases h2 : k = 21
      · subst h2; rw [u2_ne (by decide), u2_at, u2_at, u2_ne (by decide)]
      · rw [u2_ne h, u2_ne h2, u2_ne h2, u2_ne h]
  rw [e1, up_ne (by omega)] at h1
  exact h1
theorem x_tick_ (hrf : RFok rf) (hR : Rel σ (ρ 147) n rc) (hT : 0 ≤ σ 3 1 + nI 1) : ∃ μ', Rel (ctA (suA (eoA (u2 (biA σ n) 3 1 (biA σ n 3 1 + nI 1)) n) rc (M (cS σ n)) (M (cS (eoA (u2 (biA σ n) 3 1 (biA σ n 3 1 + nI 1)) n) n)) (eoA (u2 (biA σ n) 3 1 (biA σ n 3 1 + nI 1)) n 3 1) 6) 6) μ' n rc ∧ PC 152 [.ref 146] (HP sl ρ rf) (some (.int (nI (fb_ct (suN (eoA (u2 (biA σ n) 3 1 (biA σ n 3 1 + nI 1)) n) rc (M (cS σ n)) (M (cS (eoA (u2 (biA σ n) 3 1 (biA σ n 3 1 + nI 1)) n) n)) (eoA (u2 (biA σ n) 3 1 (biA σ n 3 1 + nI 1)) n 3 1)) 6)))) (HP sl (u1 ρ 147 μ') rf) := by
  have h16 := hR.b.1
  have hC := down (n := 6) (P := fun j => ∀ (μ : Nat → Int32), Rel (ctA (suA (eoA (u2 (biA σ n) 3 1 (biA σ n 3 1 + nI 1)) n) rc (M (cS σ n)) (M (cS (eoA (u2 (biA σ n) 3 1 (biA σ n 3 1 + nI 1)) n) n)) ((eoA (u2 (biA σ n) 3 1 (biA σ n 3 1 + nI 1)) n) 3 1) 6) (j)) μ n rc → PW p_c_X5_tick 57 [some (.ref 146), some (.int (M (cS σ n))), some (.int (nI (fb_ct (suN (eoA (u2 (biA σ n) 3 1 (biA σ n 3 1 + nI 1)) n) rc (M (cS σ n)) (M (cS (eoA (u2 (biA σ n) 3 1 (biA σ n 3 1 + nI 1)) n) n)) (eoA (u2 (biA σ n) 3 1 (biA σ n 3 1 + nI 1)) n 3 1)) 6))), some (.int (nI j))] [] (HP sl (u1 ρ 147 μ) rf) (fun zz => ∃ μ', Rel (ctA (suA (eoA (u2 (biA σ n) 3 1 (biA σ n 3 1 + nI 1)) n) rc (M (cS σ n)) (M (cS (eoA (u2 (biA σ n) 3 1 (biA σ n 3 1 + nI 1)) n) n)) (eoA (u2 (biA σ n) 3 1 (biA σ n 3 1 + nI 1)) n 3 1) 6) 6) μ' n rc ∧ zz = (some (.int (nI (fb_ct (suN (eoA (u2 (biA σ n) 3 1 (biA σ n 3 1 + nI 1)) n) rc (M (cS σ n)) (M (cS (eoA (u2 (biA σ n) 3 1 (biA σ n 3 1 + nI 1)) n) n)) (eoA (u2 (biA σ n) 3 1 (biA σ n 3 1 + nI 1)) n 3 1)) 6))), HP sl (u1 ρ 147 μ') rf))) ?_ ?_
  rotate_left
  · intro μ hμ
    refine R_ld3 rfl ?_
    refine R_n 6 rfl rfl ?_
    refine N2_geT rfl (by omega) (by omega) (by omega) ?_
    refine R_ld2 rfl ?_
    exact R_iret rfl (⟨μ, hμ, rfl⟩)
  · intro j hj hnext μ hμ
    have hμ2 : Rel (ctA (suA (eoA (u2 (biA σ n) 3 1 (biA σ n 3 1 + nI 1)) n) rc (M (cS σ n)) (M (cS (eoA (u2 (biA σ n) 3 1 (biA σ n 3 1 + nI 1)) n) n)) ((eoA (u2 (biA σ n) 3 1 (biA σ n 3 1 + nI 1)) n) 3 1) 6) j) ((u1 ρ 147 μ) 147) n rc := by rw [u1_at]; exact hμ
    refine R_ld3 rfl ?_
    refine R_n 6 rfl rfl ?_
    refine N2_geF rfl (by omega) (by omega) (hj) ?_
    refine R_la0 rfl ?_
    refine R_ld3 rfl ?_
    refine R_n 8 rfl rfl ?_
    refine R_la0 rfl ?_
    refine R_ld3 rfl ?_
    refine R_n 5 rfl rfl ?_
    refine R_c1 rfl (xo_runs hrf hμ2 hj) rfl rfl rfl sh_146 rfl rfl ?_
    refine R_c1 rfl (x_adds hrf hj (by decide) _) rfl rfl rfl sh_146 rfl rfl ?_
    refine R_la0 rfl ?_
    refine R_ld3 rfl ?_
    refine R_n 9 rfl rfl ?_
    refine R_la0 rfl ?_
    refine R_ld3 rfl ?_
    refine R_n 5 rfl rfl ?_
    refine R_c1 rfl (x_of hrf hj (by decide)) rfl rfl rfl sh_146 rfl rfl ?_
    refine PW_top (show _ = bI (bt (ctA (suA (eoA (u2 (biA σ n) 3 1 (biA σ n 3 1 + nI 1)) n) rc (M (cS σ n)) (M (cS (eoA (u2 (biA σ n) 3 1 (biA σ n 3 1 + nI 1)) n) n)) ((eoA (u2 (biA σ n) 3 1 (biA σ n 3 1 + nI 1)) n) 3 1) 6) j 12 0) j) by (try simp (disch := omega) only [u2_at, u2_ne, up_eq, up_ne, u1_at, u1_ne]); exact (hμ.m hj).2.2.2.2.1) ?_
    refine R_c1 rfl (x_adds hrf hj (by decide) _) rfl rfl rfl sh_146 rfl rfl ?_
    refine R_in3 rfl rfl ?_
    refine R_goto rfl ?_
    cases hb : bt (ctA (suA (eoA (u2 (biA σ n) 3 1 (biA σ n 3 1 + nI 1)) n) rc (M (cS σ n)) (M (cS (eoA (u2 (biA σ n) 3 1 (biA σ n 3 1 + nI 1)) n) n)) ((eoA (u2 (biA σ n) 3 1 (biA σ n 3 1 + nI 1)) n) 3 1) 6) j 12 0) j with
    | false =>
      rw [show ctA (suA (eoA (u2 (biA σ n) 3 1 (biA σ n 3 1 + nI 1)) n) rc (M (cS σ n)) (M (cS (eoA (u2 (biA σ n) 3 1 (biA σ n 3 1 + nI 1)) n) n)) ((eoA (u2 (biA σ n) 3 1 (biA σ n 3 1 + nI 1)) n) 3 1) 6) (j + 1) = ctA (suA (eoA (u2 (biA σ n) 3 1 (biA σ n 3 1 + nI 1)) n) rc (M (cS σ n)) (M (cS (eoA (u2 (biA σ n) 3 1 (biA σ n 3 1 + nI 1)) n) n)) ((eoA (u2 (biA σ n) 3 1 (biA σ n 3 1 + nI 1)) n) 3 1) 6) j from if_neg (by rw [hb]; exact Bool.false_ne_true)] at hnext
      exact PW_eq (by rw [show bI false = 0 from rfl, Int32.add_zero, u2_id, Int32.add_zero, u2_id]) (hnext μ hμ)
    | true =>
      rw [show ctA (suA (eoA (u2 (biA σ n) 3 1 (biA σ n 3 1 + nI 1)) n) rc (M (cS σ n)) (M (cS (eoA (u2 (biA σ n) 3 1 (biA σ n 3 1 + nI 1)) n) n)) ((eoA (u2 (biA σ n) 3 1 (biA σ n 3 1 + nI 1)) n) 3 1) 6) (j + 1) = _ from if_pos hb] at hnext
      exact PW_eq (by rw [show bI true = nI 1 from rfl]; simp (disch := omega) only [u2_u1, u1_at, up_ne]) (hnext _ (ct_r hμ hj))
  have hB := down (n := n) (P := fun j => ∀ (μ : Nat → Int32), Rel (eoA (u2 (biA σ n) 3 1 (biA σ n 3 1 + nI 1)) (j)) μ n rc → ∀ w3 : Option Value, PW p_c_X5_tick 40 [some (.ref 146), some (.int (M (cS σ n))), some (.int (nI j)), w3] [] (HP sl (u1 ρ 147 μ) rf) (fun zz => ∃ μ', Rel (ctA (suA (eoA (u2 (biA σ n) 3 1 (biA σ n 3 1 + nI 1)) n) rc (M (cS σ n)) (M (cS (eoA (u2 (biA σ n) 3 1 (biA σ n 3 1 + nI 1)) n) n)) (eoA (u2 (biA σ n) 3 1 (biA σ n 3 1 + nI 1)) n 3 1) 6) 6) μ' n rc ∧ zz = (some (.int (nI (fb_ct (suN (eoA (u2 (biA σ n) 3 1 (biA σ n 3 1 + nI 1)) n) rc (M (cS σ n)) (M (cS (eoA (u2 (biA σ n) 3 1 (biA σ n 3 1 + nI 1)) n) n)) (eoA (u2 (biA σ n) 3 1 (biA σ n 3 1 + nI 1)) n 3 1)) 6))), HP sl (u1 ρ 147 μ') rf))) ?_ ?_
  rotate_left
  · intro μ hμ w3
    have hμ2 : Rel (eoA (u2 (biA σ n) 3 1 (biA σ n 3 1 + nI 1)) n) ((u1 ρ 147 μ) 147) n rc := by rw [u1_at]; exact hμ
    have hT0 : (eoA (u2 (biA σ n) 3 1 (biA σ n 3 1 + nI 1)) n) 3 1 = σ 3 1 + nI 1 := by rw [eoA_3 _ (by decide)]; (try simp (disch := omega) only [u2_at, u2_ne, up_eq, up_ne, u1_at, u1_ne]); rw [biA_f _ (by decide)]
    refine R_ld2 rfl ?_
    refine R_la0 rfl ?_
    refine R_getR rfl sh_146 rfl (rf_146_0 hrf) ?_
    refine R_n 1 rfl rfl ?_
    refine R_ald rfl sh_147 (by first | decide | omega) (by omega) hμ2.b.2.2.1 ?_
    refine N2_geT rfl (by omega) (by omega) (by omega) ?_
    obtain ⟨μ3, hμ3, hpl⟩ := x_looks hrf hμ2 (by rw [hT0]; exact hT) (M (cS σ n))
    refine R_la0 rfl ?_
    refine R_ld1 rfl ?_
    refine R_c1 rfl (hpl) rfl rfl rfl sh_146 rfl rfl ?_
    refine R_st2 rfl ?_
    refine R_n 0 rfl rfl ?_
    refine R_st3 rfl ?_
    exact PW_eq (u1_u1 _ _ _ _).symm (hC 0 (Nat.zero_le _) μ3 hμ3)
  · intro j hj hnext μ hμ w3
    have hμ2 : Rel (eoA (u2 (biA σ n) 3 1 (biA σ n 3 1 + nI 1)) j) ((u1 ρ 147 μ) 147) n rc := by rw [u1_at]; exact hμ
    refine R_ld2 rfl ?_
    refine R_la0 rfl ?_
    refine R_getR rfl sh_146 rfl (rf_146_0 hrf) ?_
    refine R_n 1 rfl rfl ?_
    refine R_ald rfl sh_147 (by first | decide | omega) (by omega) hμ2.b.2.2.1 ?_
    refine N2_geF rfl (by omega) (by omega) (hj) ?_
    obtain ⟨μ3, hμ3, hpl⟩ := x_eo hrf hμ2 hj
    refine R_la0 rfl ?_
    refine R_ld2 rfl ?_
    refine R_c1 rfl (hpl) rfl rfl rfl sh_146 rfl rfl ?_
    refine R_in2 rfl rfl ?_
    refine R_goto rfl ?_
    exact PW_eq (u1_u1 _ _ _ _).symm (hnext μ3 hμ3 _)
  have hA := down (n := n) (P := fun j => ∀ (μ : Nat → Int32), Rel (biA σ (j)) μ n rc → ∀ w3 : Option Value, PW p_c_X5_tick 5 [some (.ref 146), some (.int (M (cS σ n))), some (.int (nI j)), w3] [] (HP sl (u1 ρ 147 μ) rf) (fun zz => ∃ μ', Rel (ctA (suA (eoA (u2 (biA σ n) 3 1 (biA σ n 3 1 + nI 1)) n) rc (M (cS σ n)) (M (cS (eoA (u2 (biA σ n) 3 1 (biA σ n 3 1 + nI 1)) n) n)) (eoA (u2 (biA σ n) 3 1 (biA σ n 3 1 + nI 1)) n 3 1) 6) 6) μ' n rc ∧ zz = (some (.int (nI (fb_ct (suN (eoA (u2 (biA σ n) 3 1 (biA σ n 3 1 + nI 1)) n) rc (M (cS σ n)) (M (cS (eoA (u2 (biA σ n) 3 1 (biA σ n 3 1 + nI 1)) n) n)) (eoA (u2 (biA σ n) 3 1 (biA σ n 3 1 + nI 1)) n 3 1)) 6))), HP sl (u1 ρ 147 μ') rf))) ?_ ?_
  rotate_left
  · intro μ hμ w3
    have hμ2 : Rel (biA σ n) ((u1 ρ 147 μ) 147) n rc := by rw [u1_at]; exact hμ
    refine R_ld2 rfl ?_
    refine R_la0 rfl ?_
    refine R_getR rfl sh_146 rfl (rf_146_0 hrf) ?_
    refine R_n 1 rfl rfl ?_
    refine R_ald rfl sh_147 (by first | decide | omega) (by omega) hμ2.b.2.2.1 ?_
    refine N2_geT rfl (by omega) (by omega) (by omega) ?_
    refine R_la0 rfl ?_
    refine R_getR rfl sh_146 rfl (rf_146_0 hrf) ?_
    refine R_n 0 rfl rfl ?_
    refine R_dup2 rfl ?_
    refine R_ald rfl sh_147 (by first | decide | omega) (by omega) rfl ?_
    refine R_n 1 rfl rfl ?_
    refine R_add rfl ?_
    refine R_ast rfl sh_147 (by decide) (by omega) ?_
    refine R_n 0 rfl rfl ?_
    refine R_st2 rfl ?_
    exact PW_eq (by simp only [u2_u1, u1_at]) (hB 0 (Nat.zero_le _) _ (Rel_tm hμ) _)
  · intro j hj hnext μ hμ w3
    have hμ2 : Rel (biA σ j) ((u1 ρ 147 μ) 147) n rc := by rw [u1_at]; exact hμ
    refine R_ld2 rfl ?_
    refine R_la0 rfl ?_
    refine R_getR rfl sh_146 rfl (rf_146_0 hrf) ?_
    refine R_n 1 rfl rfl ?_
    refine R_ald rfl sh_147 (by first | decide | omega) (by omega) hμ2.b.2.2.1 ?_
    refine N2_geF rfl (by omega) (by omega) (hj) ?_
    refine R_la0 rfl ?_
    refine R_ld2 rfl ?_
    refine R_n 6 rfl rfl ?_
    refine R_la0 rfl ?_
    refine R_ld2 rfl ?_
    refine R_n 6 rfl rfl ?_
    refine R_c1 rfl (xn_bri hrf hμ2 hj) rfl rfl rfl sh_146 rfl rfl ?_
    refine R_la0 rfl ?_
    refine R_ld2 rfl ?_
    refine R_n 5 rfl rfl ?_
    refine R_c1 rfl (xn_left hrf hμ2 hj) rfl rfl rfl sh_146 rfl rfl ?_
    refine B1_le rfl (fun h22 => ?_) (fun h22 => ?_)
    · refine R_n 0 rfl rfl ?_
      refine R_add rfl ?_
      refine R_c1 rfl (x_lay hrf (by omega) (by decide) _) rfl rfl rfl sh_146 rfl rfl ?_
      refine R_in2 rfl rfl ?_
      refine R_goto rfl ?_
      first
        | (rw [biA_0 h22] at hnext; exact PW_eq (u2_u1 _ _ _ _ _).symm (hnext _ (Rel_bri hμ hj _) _))
        | (rw [biA_1 h22] at hnext; exact PW_eq (u2_u1 _ _ _ _ _).symm (hnext _ (Rel_bri hμ hj _) _))
    · refine R_n 1 rfl rfl ?_
      refine R_goto rfl ?_
      refine R_add rfl ?_
      refine R_c1 rfl (x_lay hrf (by omega) (by decide) _) rfl rfl rfl sh_146 rfl rfl ?_
      refine R_in2 rfl rfl ?_
      refine R_goto rfl ?_
      first
        | (rw [biA_0 h22] at hnext; exact PW_eq (u2_u1 _ _ _ _ _).symm (hnext _ (Rel_bri hμ hj _) _))
        | (rw [biA_1 h22] at hnext; exact PW_eq (u2_u1 _ _ _ _ _).symm (hnext _ (Rel_bri hμ hj _) _))
  refine PC_ex (cd := p_c_X5_tick) (L0 := [some (.ref 146), none, none, none]) rfl rfl ?_
  refine R_la0 rfl ?_
  refine R_c1 rfl (x_closedOnes hrf hR) rfl rfl rfl sh_146 rfl rfl ?_
  refine R_st1 rfl ?_
  refine R_n 0 rfl rfl ?_
  refine R_st2 rfl ?_
  exact PW_eq (u1_id ρ 147) (hA 0 (Nat.zero_le _) (ρ 147) hR _)
end
