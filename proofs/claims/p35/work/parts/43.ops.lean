/-! the calls that change, one by one: each is refused and changes nothing, or keeps the past and changes the present state -/
theorem tb63 : ∀ i, i < 32 → Nat.testBit 63 i = decide (i < 6) := by decide +kernel
theorem and63 (e : Int32) : ∃ w, w < 65536 ∧ e &&& nI 63 = nI w := by
  refine ⟨mkN 16 (fun i => bt e i && decide (i < 6)), M_lt _, ?_⟩
  show _ = M (fun i => bt e i && decide (i < 6))
  refine M_eq fun i hi => ?_
  rw [b_and, b_nI i hi, tb63 i hi]
  by_cases h : i < 6
  · simp [h, show i < 16 by omega]
  · simp [h]
theorem bcI_pos (x : Int32) : ∃ w, w < 65536 ∧ bcI x = nI w := and63 _
theorem loI_g (y b : Int32) : ∃ g : Option Nat, loI y b = fI g ∧ ∀ a, g = some a → a < 16 := ⟨_, rfl, fun a h => (ff_spec h).1⟩
theorem suA_16 {r : pR} {rc : Nat → Nat} {b x t : Int32} (h : ∀ m, m < 6 → ∃ g : Option Nat, r 16 m = fI g ∧ ∀ a, g = some a → a < 16) : ∀ j, ∀ m, m < 6 → ∃ g : Option Nat, suA r rc b x t j 16 m = fI g ∧ ∀ a, g = some a → a < 16
  | 0 => h
  | j + 1 => fun m hm => by
    have ih := suA_16 (rc := rc) (b := b) (x := x) (t := t) h j
    show ∃ g : Option Nat, suS (suA r rc b x t j) rc b x t j 16 m = fI g ∧ ∀ a, g = some a → a < 16
    unfold suS
    split
    · rw [u2_ne (by decide), u2_ne (by decide), u2_at]
      by_cases e : m = j
      · subst e
        rw [up_eq]
        exact loI_g _ _
      · rw [up_ne e, u2_ne (by decide)]
        exact ih m hm
    · exact ih m hm
theorem rnA_16 {ρ : pR} {n : Nat} {c : Nat → Bool} {rc : Nat → Nat} (h : ∀ m, m < 6 → ∃ g : Option Nat, ρ 16 m = fI g ∧ ∀ a, g = some a → a < 16) : ∀ j, ∀ m, m < 6 → ∃ g : Option Nat, rnA ρ n c rc j 16 m = fI g ∧ ∀ a, g = some a → a < 16
  | 0 => h
  | j + 1 => fun m hm => by
    have ih := rnA_16 (n := n) (c := c) (rc := rc) h j
    show ∃ g : Option Nat, rnS (rnA ρ n c rc j) n c rc 16 m = fI g ∧ ∀ a, g = some a → a < 16
    unfold rnS
    rw [ctA_f _ (by decide)]
    exact suA_16 (fun m hm => by rw [tkA_f _ (by decide)]; exact ih m hm) 6 m hm
theorem rnN_le {ρ : pR} {n : Nat} {c : Nat → Bool} {rc : Nat → Nat} : ∀ j, rnN ρ n c rc j ≤ 6 * j
  | 0 => Nat.le_refl _
  | j + 1 => by
    have ih := rnN_le (ρ := ρ) (n := n) (c := c) (rc := rc) j
    have h2 : rnK (rnA ρ n c rc j) n c rc ≤ 6 := fb_ct_le _ _
    show rnN ρ n c rc j + rnK (rnA ρ n c rc j) n c rc ≤ _
    omega
/-- a state with the same number of inputs, the same ticks, rows and bridges -/
theorem StC_ch {σ σ' : pR} (hS : StC σ) (h0 : σ' 3 0 = σ 3 0) (h1 : σ' 3 1 = σ 3 1) {c : Nat → Bool} (h3 : σ' 3 3 = M c) (h14 : ∀ m, m < 6 → σ' 14 m = σ 14 m) (h8 : σ' 8 = σ 8) (h16 : ∀ m, m < 6 → ∃ g : Option Nat, σ' 16 m = fI g ∧ ∀ a, g = some a → a < 16) : StC σ' := by
  obtain ⟨a1, a2, a3, a4, a5, a6, a7, a8, a9⟩ := hS
  exact StC_mk (n := nOf σ) (t := tOf σ) (c := c) (rc := rcO σ) a1 (h0.trans a2) h3 (fun m hm => by rw [h14 m hm]; exact a4 m hm) (h1.trans a5) a6 (brc_e h8 a7) (fun i q1 q2 => by rw [h8]; exact a8 i q1 q2) h16
theorem cl_f (ρ : pR) (i : Nat) {k : Nat} (h : k ≠ 3 ∧ k ≠ 7 ∧ k ≠ 10) : clS ρ i k = ρ k := by
  unfold clS
  split
  · rw [u2_ne h.1, u2_ne h.2.1, u2_ne h.2.2, u2_ne h.1]
  · rw [u2_ne h.1]
theorem cl_3 (ρ : pR) (i : Nat) {s : Nat} (h : s ≠ 3 ∧ s ≠ 2) : clS ρ i 3 s = ρ 3 s := by
  unfold clS
  split
  · rw [u2_at, up_ne h.2, u2_ne (by decide), u2_ne (by decide), u2_at, up_ne h.1]
  · rw [u2_at, up_ne h.1]
theorem cl_33 (ρ : pR) (i : Nat) : clS ρ i 3 3 = wI (ρ 3 3) i true := by
  unfold clS
  split
  · rw [u2_at, up_ne (by decide), u2_ne (by decide), u2_ne (by decide), u2_at, up_eq]
  · rw [u2_at, up_eq]
theorem op_f (ρ : pR) (i : Nat) {k : Nat} (h : k ≠ 3 ∧ k ≠ 10) : opS ρ i k = ρ k := by
  unfold opS
  split
  · rw [u2_ne h.2, u2_ne h.1]
  · rw [u2_ne h.1]
theorem op_3 (ρ : pR) (i : Nat) {s : Nat} (h : s ≠ 3) : opS ρ i 3 s = ρ 3 s := by
  unfold opS
  split
  · rw [u2_ne (by decide), u2_at, up_ne h]
  · rw [u2_at, up_ne h]
theorem op_33 (ρ : pR) (i : Nat) : opS ρ i 3 3 = wI (ρ 3 3) i false := by
  unfold opS
  split
  · rw [u2_ne (by decide), u2_at, up_eq]
  · rw [u2_at, up_eq]
/-- a call is refused, or changes -/
def Res (sl : pS) (k : Nat) (args : List Value) (ρ : pR) (rf : pF) (h : Nat → Nat) (p : Nat) : Prop := (∃ v : Int32, v < 0 ∧ PC k (.ref 1 :: args) (HP sl ρ rf) (some (.int v)) (HP sl ρ rf)) ∨ ∃ (v : Int32) (ρ' : pR) (rf' : pF) (h' : Nat → Nat), ¬ v < 0 ∧ PC k (.ref 1 :: args) (HP sl ρ rf) (some (.int v)) (HP sl ρ' rf') ∧ Aft sl ρ rf h p ρ' rf' h'
section
variable {sl : pS} {ρ : pR} {rf : pF} {h : Nat → Nat} {p : Nat}
theorem r_input (hC : CI sl ρ rf h p) (x y : Int32) : Res sl 45 [.int x, .int y] ρ rf h p := by
  have hrf := hC.1
  have hS := hC.2.1
  obtain ⟨a1, a2, a3, a4, a5, a6, a7, a8, a9⟩ := hS
  by_cases hb : inR (nOf ρ) x = false ∨ inR 2 y = false
  · exact Or.inl ⟨-1, by decide, c_input_bad hrf a2 a1 x y hb⟩
  · have hx : inR (nOf ρ) x = true := by
      cases h : inR (nOf ρ) x with
      | true => rfl
      | false => exact absurd (Or.inl h) hb
    have hy : inR 2 y = true := by
      cases h : inR 2 y with
      | true => rfl
      | false => exact absurd (Or.inr h) hb
    obtain ⟨j, hj, rfl⟩ := inR_c (by omega) hx
    obtain ⟨w, hw, rfl⟩ := inR_c (by decide) hy
    by_cases hl : ρ 4 j = -1
    · obtain ⟨ρa, rfa, ha, g1, g2, g3, g4, -, g5⟩ := rem_step (sl := sl) hC
      have b2 : ρa 3 0 = nI (nOf ρ) := by rw [g3 3 (by decide) (by decide)]; exact a2
      have b3 : ρa 3 3 = M (cOf ρ) := by rw [g3 3 (by decide) (by decide)]; exact a3
      have b14 : ∀ m, m < 6 → ρa 14 m = nI (rcO ρ m) ∧ rcO ρ m ≤ 4 := fun m hm => by rw [g3 14 (by decide) (by decide)]; exact a4 m hm
      have b16 := g4.2.2.2.2.2.2.2.2
      rcases (show w = 0 ∨ w = 1 by omega) with rfl | rfl
      · have e3 : opS ρa j 3 3 = M (fun i => if i = j then false else cOf ρ i) := by rw [op_33, b3, M_w _ (by omega)]
        have hM := c_input_ok0 (sl := sl) hrf a2 a1 hj hl g1 g2 (c := cOf ρ) (c2 := fun i => if i = j then false else cOf ρ i) (rc := rcO ρ) b2 b3 ((op_3 ρa j (by decide)).trans b2) e3 (fun m hm => by rw [op_f ρa j (by decide)]; exact b14 m hm)
        refine Or.inr ⟨_, _, rfa, ha, nI_pos (Nat.lt_of_le_of_lt (fb_ct_le _ _) (by decide)), hM, g5 hM (fun k hk => by rw [suA_f _ _ _ _ _ (by omega), op_f _ _ (by omega)]) ?_⟩
        exact StC_ch g4 (by rw [suA_f _ _ _ _ _ (by decide), op_3 _ _ (by decide)]) (by rw [suA_f _ _ _ _ _ (by decide), op_3 _ _ (by decide)]) (by rw [suA_f _ _ _ _ _ (by decide)]; exact e3) (fun m hm => by rw [suA_f _ _ _ _ _ (by decide), op_f _ _ (by decide)]) (by rw [suA_f _ _ _ _ _ (by decide), op_f _ _ (by decide)]) (suA_16 (fun m hm => by rw [op_f _ _ (by decide)]; exact b16 m hm) 6)
      · have e3 : clS ρa j 3 3 = M (fun i => if i = j then true else cOf ρ i) := by rw [cl_33, b3, M_w _ (by omega)]
        have hM := c_input_ok1 (sl := sl) hrf a2 a1 hj hl g1 g2 (c := cOf ρ) (c2 := fun i => if i = j then true else cOf ρ i) (rc := rcO ρ) b2 b3 ((cl_3 ρa j (by decide)).trans b2) e3 (fun m hm => by rw [cl_f ρa j (by decide)]; exact b14 m hm)
        refine Or.inr ⟨_, _, rfa, ha, nI_pos (Nat.lt_of_le_of_lt (fb_ct_le _ _) (by decide)), hM, g5 hM (fun k hk => by rw [suA_f _ _ _ _ _ (by omega), cl_f _ _ (by omega)]) ?_⟩
        exact StC_ch g4 (by rw [suA_f _ _ _ _ _ (by decide), cl_3 _ _ (by decide)]) (by rw [suA_f _ _ _ _ _ (by decide), cl_3 _ _ (by decide)]) (by rw [suA_f _ _ _ _ _ (by decide)]; exact e3) (fun m hm => by rw [suA_f _ _ _ _ _ (by decide), cl_f _ _ (by decide)]) (by rw [suA_f _ _ _ _ _ (by decide), cl_f _ _ (by decide)]) (suA_16 (fun m hm => by rw [cl_f _ _ (by decide)]; exact b16 m hm) 6)
    · exact Or.inl ⟨-2, by decide, c_input_lock hrf a2 a1 hj hw hl⟩
theorem r_bridge (hC : CI sl ρ rf h p) (x y : Int32) : Res sl 50 [.int x, .int y] ρ rf h p := by
  have hrf := hC.1
  obtain ⟨a1, a2, a3, a4, a5, a6, a7, a8, a9⟩ := hC.2.1
  by_cases hb : inR (nOf ρ) x = false ∨ y < nI 1 ∨ nI 500 < y
  · exact Or.inl ⟨-1, by decide, c_bridge_bad hrf a2 a1 x y hb⟩
  · have hx : inR (nOf ρ) x = true := by
      cases h : inR (nOf ρ) x with
      | true => rfl
      | false => exact absurd (Or.inl h) hb
    have h1 : ¬ y < nI 1 := fun e => hb (Or.inr (Or.inl e))
    have h2 : y ≤ nI 500 := Int32.not_lt.mp fun e => hb (Or.inr (Or.inr e))
    obtain ⟨j, hj, rfl⟩ := inR_c (by omega) hx
    by_cases hn : bt (ρ 3 4) j = true ∨ br ρ j = true
    · exact Or.inl ⟨-2, by decide, c_bridge_np hrf a2 a1 hj y h1 h2 hn⟩
    · have h3 : bt (ρ 3 4) j = false := by
        cases h : bt (ρ 3 4) j with
        | false => rfl
        | true => exact absurd (Or.inl h) hn
      have h4 : br ρ j = false := by
        cases h : br ρ j with
        | false => rfl
        | true => exact absurd (Or.inr h) hn
      by_cases h5 : fb_ct (br ρ) (nOf ρ) < 3
      · obtain ⟨ρa, rfa, ha, g1, g2, g3, g4, -, g5⟩ := rem_step (sl := sl) hC
        have b2 : ρa 3 0 = nI (nOf ρ) := by rw [g3 3 (by decide) (by decide)]; exact a2
        have hM := c_bridge_ok (sl := sl) hrf a2 a1 hj y h1 h2 h3 h4 (by rw [bc_wA a1]; exact nI_lt h5 (by decide)) g1 g2 b2
        have e8 : br ρa = br ρ := by funext i; unfold br; rw [g3 8 (by decide) (by decide)]
        have hB3 : fb_ct (br (u2 ρa 8 j y)) (nOf ρ) ≤ 3 := by
          have := ct_one (p := br ρ) (q := br (u2 ρa 8 j y)) (i := j) (fun i hi => by rw [← e8]; unfold br; rw [u2_at, up_ne hi]) (nOf ρ)
          rw [if_pos hj] at this
          omega
        obtain ⟨w, hw, e⟩ := bcI_pos (wA (br (u2 ρa 8 j y)) (nOf ρ))
        refine Or.inr ⟨_, _, rfa, ha, by rw [e]; exact nI_pos (by omega), hM, g5 hM (fun k hk => u2_ne (by omega)) ?_⟩
        exact StC_mk (n := nOf ρ) (t := tOf ρ) (c := cOf ρ) (rc := rcO ρ) a1 (by rw [u2_ne (by decide)]; exact b2) (by rw [u2_ne (by decide), g3 3 (by decide) (by decide)]; exact a3) (fun m hm => by rw [u2_ne (by decide), g3 14 (by decide) (by decide)]; exact a4 m hm) (by rw [u2_ne (by decide), g3 3 (by decide) (by decide)]; exact a5) a6 hB3 (fun i q1 q2 => by rw [u2_at, up_ne (by omega), g3 8 (by decide) (by decide)]; exact a8 i q1 q2) (fun m hm => by rw [u2_ne (by decide), g3 16 (by decide) (by decide)]; exact a9 m hm)
      · exact Or.inl ⟨-3, by decide, c_bridge_full hrf a2 a1 hj y h1 h2 h3 h4 (by rw [bc_wA a1]; exact nI_le (by omega) (by omega))⟩
theorem r_run (hC : CI sl ρ rf h p) (x : Int32) : Res sl 65 [.int x] ρ rf h p := by
  have hrf := hC.1
  obtain ⟨a1, a2, a3, a4, a5, a6, a7, a8, a9⟩ := hC.2.1
  by_cases hb : x < nI 1 ∨ nI 500 < x
  · exact Or.inl ⟨-1, by decide, c_run_bad x hb⟩
  · have h1 : nI 1 ≤ x := Int32.not_lt.mp fun e => hb (Or.inl e)
    have h2 : x ≤ nI 500 := Int32.not_lt.mp fun e => hb (Or.inr e)
    obtain ⟨k, hk, rfl⟩ := nI_of (x := x) (fun q => absurd q (Int32.not_lt.mpr (Int32.le_trans (show (0 : Int32) ≤ nI 1 by decide) h1)))
    have k1 : 1 ≤ k := (nI_leI (by decide) hk).mp h1
    have k5 : k ≤ 500 := (nI_leI hk (by decide)).mp h2
    by_cases hful : 100000 < tOf ρ + k
    · exact Or.inl ⟨-3, by decide, c_run_full hrf k1 k5 a5 a6 hful⟩
    · obtain ⟨ρa, rfa, ha, g1, g2, g3, g4, -, g5⟩ := rem_step (sl := sl) hC
      have b2 : ρa 3 0 = nI (nOf ρ) := by rw [g3 3 (by decide) (by decide)]; exact a2
      have b3 : ρa 3 3 = M (cOf ρ) := by rw [g3 3 (by decide) (by decide)]; exact a3
      have b14 : ∀ m, m < 6 → ρa 14 m = nI (rcO ρ m) ∧ rcO ρ m ≤ 4 := fun m hm => by rw [g3 14 (by decide) (by decide)]; exact a4 m hm
      have b31 : ρa 3 1 = nI (tOf ρ) := by rw [g3 3 (by decide) (by decide)]; exact a5
      have h8a : ρa 8 = ρ 8 := g3 8 (by decide) (by decide)
      have hM := c_run_ok (sl := sl) hrf k1 k5 a5 a6 (by omega) g1 g2 b2 a1 b3 b14
      have hle := rnN_le (ρ := ρa) (n := nOf ρ) (c := cOf ρ) (rc := rcO ρ) k
      refine Or.inr ⟨_, _, rfa, ha, nI_pos (by omega), hM, g5 hM (fun k hk => rnA_f _ _ _ _ (by omega) _) ?_⟩
      have hB3 : fb_ct (br (rnA ρa (nOf ρ) (cOf ρ) (rcO ρ) k)) (nOf ρ) ≤ 3 := by
        refine Nat.le_trans (ct_le (p := br ρ) fun i hi q => ?_) a7
        by_cases e : nI 0 < ρ 8 i
        · exact decide_eq_true e
        · exfalso
          have q1 : nI 0 < rnA ρa (nOf ρ) (cOf ρ) (rcO ρ) k 8 i := of_decide_eq_true q
          rw [rnA_br (by rw [h8a]; exact e), h8a] at q1
          exact e q1
      exact StC_mk (n := nOf ρ) (t := tOf ρ + k) (c := cOf ρ) (rc := rcO ρ) a1 (by rw [rnA_3 _ _ _ _ (by decide)]; exact b2) (by rw [rnA_3 _ _ _ _ (by decide)]; exact b3) (fun m hm => by rw [rnA_f _ _ _ _ (by decide)]; exact b14 m hm) (rnA_t b31 _ _ _ _) (by omega) hB3 (fun i q1 q2 => by
        have e0 := a8 i q1 q2
        rw [rnA_br (by rw [h8a, e0]; decide), h8a]
        exact e0) (rnA_16 g4.2.2.2.2.2.2.2.2 k)
theorem r_start (hC : CI sl ρ rf h p) (x : Int32) : Res sl 56 [.int x] ρ rf h p := by
  have hrf := hC.1
  obtain ⟨a1, a2, a3, a4, a5, a6, a7, a8, a9⟩ := hC.2.1
  cases hx : inR 6 x with
  | false => exact Or.inl ⟨-1, by decide, c_start_bad x hx⟩
  | true =>
    obtain ⟨m, hm, rfl⟩ := inR_c (by decide) hx
    obtain ⟨r1, r2⟩ := a4 m hm
    by_cases hz : rsn (bt (ρ 12 0) m) (ρ 16 m) (pmI (rw0 ρ m) (rcO ρ m) (M (cM ρ (nOf ρ) (cOf ρ)))) (ρ 12 0 &&& ρ 15 m) = 0
    · obtain ⟨ρa, rfa, ha, g1, g2, g3, g4, -, g5⟩ := rem_step (sl := sl) hC
      have hM := c_start_ok (sl := sl) hrf a2 a1 a3 hm r1 r2 hz g1 g2
      obtain ⟨w, hw, e⟩ := bcI_pos (begS ρa m 12 0)
      refine Or.inr ⟨_, _, rfa, ha, by rw [e]; exact nI_pos (by omega), hM, g5 hM (fun k hk => by unfold begS; rw [u2_ne (by omega), u2_ne (by omega), u2_ne (by omega)]) ?_⟩
      have e9 : ∀ k, k ≠ 12 → k ≠ 19 → k ≠ 20 → begS ρa m k = ρa k := fun k h1 h2 h3 => by unfold begS; rw [u2_ne h3, u2_ne h2, u2_ne h1]
      exact StC_ch g4 (by rw [e9 3 (by decide) (by decide) (by decide)]) (by rw [e9 3 (by decide) (by decide) (by decide)]) (by rw [e9 3 (by decide) (by decide) (by decide)]; exact g4.2.2.1) (fun m hm => by rw [e9 14 (by decide) (by decide) (by decide)]) (e9 8 (by decide) (by decide) (by decide)) (fun m hm => by rw [e9 16 (by decide) (by decide) (by decide)]; exact g4.2.2.2.2.2.2.2.2 m hm)
    · exact Or.inl ⟨-2, by decide, c_start_np hrf a2 a1 a3 hm r1 r2 hz⟩
theorem r_test (hC : CI sl ρ rf h p) (x : Int32) : Res sl 64 [.int x] ρ rf h p := by
  have hrf := hC.1
  obtain ⟨a1, a2, a3, a4, a5, a6, a7, a8, a9⟩ := hC.2.1
  cases hx : inR (nOf ρ) x with
  | false => exact Or.inl ⟨-1, by decide, c_test_bad hrf a2 a1 x hx⟩
  | true =>
    obtain ⟨j, hj, rfl⟩ := inR_c (by omega) hx
    cases hz : (!(decide (¬ ρ 4 j = -1)) && (bt (ρ 3 3) j && decide (ρ 10 j = 0))) with
    | false => exact Or.inl ⟨-2, by decide, c_test_np hrf a2 a1 hj hz⟩
    | true =>
      obtain ⟨ρa, rfa, ha, g1, g2, g3, g4, -, g5⟩ := rem_step (sl := sl) hC
      have hM := c_test_ok (sl := sl) hrf a2 a1 hj hz g1 g2
      have b31 : ρa 3 1 = nI (tOf ρ) := by rw [g3 3 (by decide) (by decide)]; exact a5
      refine Or.inr ⟨_, _, rfa, ha, by rw [b31, nI_add]; exact nI_pos (by omega), hM, g5 hM (fun k hk => by rw [u2_ne (by omega), u2_ne (by omega)]) ?_⟩
      have e9 : ∀ k, k ≠ 10 → k ≠ 11 → u2 (u2 ρa 10 j (nI 1)) 11 j (ρa 3 1 + nI 20) k = ρa k := fun k h1 h2 => by rw [u2_ne h2, u2_ne h1]
      exact StC_ch g4 (by rw [e9 3 (by decide) (by decide)]) (by rw [e9 3 (by decide) (by decide)]) (by rw [e9 3 (by decide) (by decide)]; exact g4.2.2.1) (fun m hm => by rw [e9 14 (by decide) (by decide)]) (e9 8 (by decide) (by decide)) (fun m hm => by rw [e9 16 (by decide) (by decide)]; exact g4.2.2.2.2.2.2.2.2 m hm)
theorem r_keyIn (hC : CI sl ρ rf h p) (x y : Int32) : Res sl 47 [.int x, .int y] ρ rf h p := by
  have hrf := hC.1
  obtain ⟨a1, a2, a3, a4, a5, a6, a7, a8, a9⟩ := hC.2.1
  by_cases hb : inR 6 x = false ∨ inR (nOf ρ) y = false
  · exact Or.inl ⟨-1, by decide, c_keyIn_bad hrf a2 a1 x y hb⟩
  · have hx : inR 6 x = true := by
      cases h : inR 6 x with
      | true => rfl
      | false => exact absurd (Or.inl h) hb
    have hy : inR (nOf ρ) y = true := by
      cases h : inR (nOf ρ) y with
      | true => rfl
      | false => exact absurd (Or.inr h) hb
    obtain ⟨k, hk, rfl⟩ := inR_c (by decide) hx
    obtain ⟨j, hj, rfl⟩ := inR_c (by omega) hy
    by_cases hn : ¬ fI (ff (kA ρ (nI k)) (nOf ρ)) = -1 ∨ ¬ ρ 4 j = nI k
    · exact Or.inl ⟨-2, by decide, c_keyIn_np hrf a2 a1 hj hk hn⟩
    · have h1 : fI (ff (kA ρ (nI k)) (nOf ρ)) = -1 := Classical.byContradiction fun e => hn (Or.inl e)
      have h2 : ρ 4 j = nI k := Classical.byContradiction fun e => hn (Or.inr e)
      obtain ⟨ρa, rfa, ha, g1, g2, g3, g4, -, g5⟩ := rem_step (sl := sl) hC
      have b2 : ρa 3 0 = nI (nOf ρ) := by rw [g3 3 (by decide) (by decide)]; exact a2
      have b3 : ρa 3 3 = M (cOf ρ) := by rw [g3 3 (by decide) (by decide)]; exact a3
      have hM := c_keyIn_ok (sl := sl) hrf a2 a1 hj hk h1 h2 g1 g2 b2
      refine Or.inr ⟨_, _, rfa, ha, nI_pos (Nat.lt_of_le_of_lt (fb_ct_le _ _) (by omega)), hM, g5 hM (fun k hk => u2_ne (by omega)) ?_⟩
      exact StC_ch g4 (by rw [u2_at, up_ne (by decide)]) (by rw [u2_at, up_ne (by decide)]) (by rw [u2_at, up_eq, b3, M_w _ (by omega)]) (fun m hm => by rw [u2_ne (by decide)]) (u2_ne (by decide)) (fun m hm => by rw [u2_ne (by decide)]; exact g4.2.2.2.2.2.2.2.2 m hm)
theorem r_reset (hC : CI sl ρ rf h p) (x : Int32) : Res sl 59 [.int x] ρ rf h p := by
  have hrf := hC.1
  obtain ⟨a1, a2, a3, a4, a5, a6, a7, a8, a9⟩ := hC.2.1
  cases hx : inR 6 x with
  | false => exact Or.inl ⟨-1, by decide, c_reset_bad x hx⟩
  | true =>
    obtain ⟨m, hm, rfl⟩ := inR_c (by decide) hx
    by_cases hz : ρ 16 m = -1
    · exact Or.inl ⟨-2, by decide, c_reset_np hrf hm hz⟩
    · obtain ⟨ρa, rfa, ha, g1, g2, g3, g4, -, g5⟩ := rem_step (sl := sl) hC
      have hM := c_reset_ok (sl := sl) hrf hm hz g1 g2
      obtain ⟨g, e1, e2⟩ := a9 m hm
      have hv : ¬ ρ 16 m < 0 := by
        cases g with
        | none => exact absurd e1 hz
        | some a => rw [e1]; exact nI_pos (by have := e2 a rfl; omega)
      refine Or.inr ⟨_, _, rfa, ha, hv, hM, g5 hM (fun k hk => u2_ne (by omega)) ?_⟩
      refine StC_ch g4 (by rw [u2_ne (by decide)]) (by rw [u2_ne (by decide)]) (by rw [u2_ne (by decide)]; exact g4.2.2.1) (fun m hm => by rw [u2_ne (by decide)]) (u2_ne (by decide)) (fun q hq => ?_)
      rw [u2_at]
      by_cases e : q = m
      · subst e
        rw [up_eq]
        exact ⟨none, rfl, fun a h => by cases h⟩
      · rw [up_ne e]
        exact g4.2.2.2.2.2.2.2.2 q hq
end
