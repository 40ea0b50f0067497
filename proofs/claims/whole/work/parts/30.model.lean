/-! the model: its state (cell 147) beside a state σ of the program's -/
def u1 (f : pR) (k : Nat) (g : Nat → Int32) : pR := fun a => if a = k then g else f a
theorem u2_u1 (f : pR) (k j : Nat) (g : Nat → Int32) (v : Int32) : u2 (u1 f k g) k j v = u1 f k (upd g j v) := by
  funext a
  unfold u2 u1
  by_cases h : a = k
  · rw [if_pos h, if_pos h, if_pos rfl]
  · rw [if_neg h, if_neg h, if_neg h]
theorem u2_e1 (f : pR) (k j : Nat) (v : Int32) : u2 f k j v = u1 f k (upd (f k) j v) := rfl
theorem u1_at (f : pR) (k : Nat) (g : Nat → Int32) : u1 f k g k = g := if_pos rfl
theorem u1_ne {f : pR} {k x : Nat} {g : Nat → Int32} (h : x ≠ k) : u1 f k g x = f x := if_neg h
theorem u1_id (f : pR) (k : Nat) : u1 f k (f k) = f := by
  funext a
  unfold u1
  split
  · rename_i h; rw [h]
  · rfl
theorem u1_u1 (f : pR) (k : Nat) (g h : Nat → Int32) : u1 (u1 f k g) k h = u1 f k h := by
  funext a
  unfold u1
  split <;> rfl
def is16 (x : Int32) : Prop := ∃ w, w < 65536 ∧ x = nI w
/-- motion m in both -/
def MoR (σ : pR) (μ : Nat → Int32) (rc : Nat → Nat) (m : Nat) : Prop :=
  rc m ≤ 4 ∧ σ 14 m = nI (rc m) ∧ μ (9 + 13 * m + 0) = nI (rc m) ∧ (∀ j, j < 4 → μ (9 + 13 * m + (1 + j)) = σ 13 (m * 4 + j)) ∧
  μ (9 + 13 * m + 5) = bI (bt (σ 12 0) m) ∧ μ (9 + 13 * m + 6) = σ 16 m ∧ (σ 16 m = -1 ∨ 0 ≤ σ 16 m) ∧ μ (9 + 13 * m + 7) = σ 17 m ∧ (σ 17 m = -1 ∨ 0 ≤ σ 17 m) ∧
  μ (9 + 13 * m + 8) = σ 21 m ∧ μ (9 + 13 * m + 9) = σ 20 m ∧ μ (9 + 13 * m + 10) = σ 19 m ∧ μ (9 + 13 * m + 11) = σ 18 m ∧ μ (9 + 13 * m + 12) = σ 15 m ∧ (bt (σ 12 0) m = true → 1 ≤ rc m) ∧ (∀ j, j < 4 → is16 (σ 13 (m * 4 + j)))
/-- input i in both -/
def InI (σ : pR) (μ : Nat → Int32) (n i : Nat) : Prop :=
  μ (87 + 11 * i + 0) = bI (decide (¬ σ 4 i = -1)) ∧ μ (87 + 11 * i + 9) = σ 4 i ∧ (σ 4 i = -1 ∨ ∃ k, k < 6 ∧ σ 4 i = nI k) ∧
  μ (87 + 11 * i + 10) = σ 5 i ∧ (σ 5 i = -1 ∨ ∃ g, g < n ∧ σ 5 i = nI g) ∧
  μ (87 + 11 * i + 3) = σ 6 i ∧ μ (87 + 11 * i + 4) = σ 7 i ∧ μ (87 + 11 * i + 5) = σ 8 i ∧ (∃ l, l ≤ 500 ∧ σ 8 i = nI l) ∧ μ (87 + 11 * i + 6) = σ 9 i ∧
  μ (87 + 11 * i + 7) = σ 10 i ∧ (σ 10 i = 0 ∨ σ 10 i = nI 1 ∨ σ 10 i = nI 2) ∧ (¬ σ 10 i = 0 → σ 11 i = μ (87 + 11 * i + 8) + nI 20) ∧
  μ (87 + 11 * i + 2) = bI (bt (σ 3 4) i) ∧ (σ 4 i = -1 → μ (87 + 11 * i + 1) = bI (bt (σ 3 3) i)) ∧ (∀ k, k < 6 → σ 4 i = nI k → bt (σ 3 3) i = decide (μ (3 + k) = nI i))
/-- key k -/
def KeR (σ : pR) (μ : Nat → Int32) (n k : Nat) : Prop := μ (3 + k) = -1 ∨ ∃ i, i < n ∧ μ (3 + k) = nI i ∧ σ 4 i = nI k
/-- what lies behind the last input -/
def ZeR (σ : pR) (n i : Nat) : Prop := σ 8 i = 0 ∧ σ 9 i = 0 ∧ σ 10 i = 0
def Rel (σ : pR) (μ : Nat → Int32) (n : Nat) (rc : Nat → Nat) : Prop :=
  (n ≤ 16 ∧ σ 3 0 = nI n ∧ μ 1 = nI n ∧ μ 0 = σ 3 1 ∧ μ 2 = σ 3 2) ∧ (∀ m, m < 6 → MoR σ μ rc m) ∧ (∀ i, 6 ≤ i → bt (σ 12 0) i = false) ∧
  (∀ i, i < n → InI σ μ n i) ∧ (∀ k, k < 6 → KeR σ μ n k) ∧ (∀ i, n ≤ i → i < 16 → ZeR σ n i) ∧ (∀ i, n ≤ i → bt (σ 3 3) i = false) ∧ (∀ i, n ≤ i → bt (σ 3 4) i = false)
/-- counts as closed -/
abbrev cS (σ : pR) (n : Nat) : Nat → Bool := cM σ n (bt (σ 3 3))
section
variable {σ : pR} {μ : Nat → Int32} {n : Nat} {rc : Nat → Nat}
theorem Rel.b (h : Rel σ μ n rc) : n ≤ 16 ∧ σ 3 0 = nI n ∧ μ 1 = nI n ∧ μ 0 = σ 3 1 ∧ μ 2 = σ 3 2 := h.1
theorem Rel.m (h : Rel σ μ n rc) {m : Nat} (hm : m < 6) : MoR σ μ rc m := h.2.1 m hm
theorem Rel.r (h : Rel σ μ n rc) {i : Nat} (hi : 6 ≤ i) : bt (σ 12 0) i = false := h.2.2.1 i hi
theorem Rel.i (h : Rel σ μ n rc) {i : Nat} (hi : i < n) : InI σ μ n i := h.2.2.2.1 i hi
theorem Rel.k (h : Rel σ μ n rc) {k : Nat} (hk : k < 6) : KeR σ μ n k := h.2.2.2.2.1 k hk
theorem Rel.z (h : Rel σ μ n rc) {i : Nat} (hi : n ≤ i) (hi2 : i < 16) : ZeR σ n i := h.2.2.2.2.2.1 i hi hi2
theorem Rel.c (h : Rel σ μ n rc) {i : Nat} (hi : n ≤ i) : bt (σ 3 3) i = false := h.2.2.2.2.2.2.1 i hi
theorem Rel.e (h : Rel σ μ n rc) {i : Nat} (hi : n ≤ i) : bt (σ 3 4) i = false := h.2.2.2.2.2.2.2 i hi
theorem Rel.hc (h : Rel σ μ n rc) : σ 3 3 = M (bt (σ 3 3)) := M_eq fun i hi => by
  by_cases h16 : i < 16
  · rw [decide_eq_true h16, Bool.true_and]
  · rw [decide_eq_false h16, Bool.false_and]
    exact h.c (by have := h.b.1; omega)
theorem Rel.he (h : Rel σ μ n rc) : σ 3 4 = M (bt (σ 3 4)) := M_eq fun i hi => by
  by_cases h16 : i < 16
  · rw [decide_eq_true h16, Bool.true_and]
  · rw [decide_eq_false h16, Bool.false_and]
    exact h.e (by have := h.b.1; omega)
theorem Rel.hr (h : Rel σ μ n rc) : σ 12 0 = M (bt (σ 12 0)) := M_eq fun i hi => by
  by_cases h16 : i < 16
  · rw [decide_eq_true h16, Bool.true_and]
  · rw [decide_eq_false h16, Bool.false_and]
    exact h.r (by omega)
theorem Rel.cz (h : Rel σ μ n rc) {i : Nat} (hi : n ≤ i) : cS σ n i = false := by
  show (decide (i < n) && br σ i || (bt (σ 3 3) i && !(decide (i < n) && ov σ i))) = false
  rw [decide_eq_false (by omega), h.c hi]
  rfl
end
theorem bIt {b : Bool} : bI b = nI 1 ↔ b = true := by cases b <;> decide
theorem bIf {b : Bool} : ¬ bI b = nI 1 ↔ b = false := by cases b <;> decide
theorem bIn {b : Bool} : bI b = 0 ↔ b = false := by cases b <;> decide
theorem bIp {b : Bool} : ¬ bI b = 0 ↔ b = true := by cases b <;> decide
theorem bIl {b : Bool} : bI b ≤ 0 ↔ b = false := by cases b <;> decide
/-- the model's ranges -/
def rgI (x a b : Int32) : Bool := decide (a ≤ x) && decide (x ≤ b)
theorem rg_R {x : Int32} {k : Nat} (hk : k + 1 < 2 ^ 31) : rgI x (nI 0) (nI k) = inR (k + 1) x := by
  unfold rgI inR
  congr 1
  apply decide_eq_decide.mpr
  rw [Int32.le_iff_toInt_le, Int32.lt_iff_toInt_lt, nI_toInt (by omega), nI_toInt (by omega)]
  omega
theorem rg_n {x : Int32} {n : Nat} (hn : n ≤ 16) : rgI x (nI 0) (nI n - nI 1) = inR n x := by
  cases n with
  | zero =>
    unfold rgI inR
    by_cases h : nI 0 ≤ x
    · rw [show decide (x ≤ nI 0 - nI 1) = false from decide_eq_false (fun q => by
        have h1 := Int32.le_iff_toInt_le.mp h
        have h2 := Int32.le_iff_toInt_le.mp q
        rw [show (nI 0).toInt = 0 from rfl] at h1
        rw [show (nI 0 - nI 1).toInt = -1 from rfl] at h2
        omega), show decide (x < nI 0) = false from decide_eq_false (Int32.not_lt.mpr h), Bool.and_false, Bool.and_false]
    · rw [decide_eq_false h, show decide ((0 : Int32) ≤ x) = false from decide_eq_false h]
      rfl
  | succ k =>
    rw [show nI (k + 1) - nI 1 = nI k from pk_sub (by omega)]
    exact rg_R (by omega)
section
variable {sl : Nat} {ρ σ : pR} {rf : pF} {n : Nat} {rc : Nat → Nat}
theorem x_in (x a b : Int32) : PC 95 [.int x, .int a, .int b] (HP sl ρ rf) (some (.int (bI (rgI x a b)))) (HP sl ρ rf) := by
  refine PC_of (cd := p_c_X5_in) (L0 := [some (.int x), some (.int a), some (.int b)]) rfl rfl ?_
  refine R_ld0 rfl ?_
  refine R_ld1 rfl ?_
  refine B2_lt rfl (fun h2 => ?_) (fun h2 => ?_)
  · refine R_n 0 rfl rfl ?_
    exact R_zret0 rfl (by first | exact lf_1 (by unfold rgI; rw [decide_eq_true (Int32.not_lt.mp h2), decide_eq_true (Int32.not_lt.mp h5)]; rfl) | exact lf_0 (by unfold rgI; rw [decide_eq_false (Int32.not_le.mpr h2)]; rfl) | exact lf_0 (by unfold rgI; rw [decide_eq_false (Int32.not_le.mpr h5), Bool.and_false]))
  · refine R_ld0 rfl ?_
    refine R_ld2 rfl ?_
    refine B2_gt rfl (fun h5 => ?_) (fun h5 => ?_)
    · refine R_n 0 rfl rfl ?_
      exact R_zret0 rfl (by first | exact lf_1 (by unfold rgI; rw [decide_eq_true (Int32.not_lt.mp h2), decide_eq_true (Int32.not_lt.mp h5)]; rfl) | exact lf_0 (by unfold rgI; rw [decide_eq_false (Int32.not_le.mpr h2)]; rfl) | exact lf_0 (by unfold rgI; rw [decide_eq_false (Int32.not_le.mpr h5), Bool.and_false]))
    · refine R_n 1 rfl rfl ?_
      refine R_goto rfl ?_
      exact R_zret1 rfl (by first | exact lf_1 (by unfold rgI; rw [decide_eq_true (Int32.not_lt.mp h2), decide_eq_true (Int32.not_lt.mp h5)]; rfl) | exact lf_0 (by unfold rgI; rw [decide_eq_false (Int32.not_le.mpr h2)]; rfl) | exact lf_0 (by unfold rgI; rw [decide_eq_false (Int32.not_le.mpr h5), Bool.and_false]))

theorem x_isTwo (x : Int32) : PC 96 [.int x] (HP sl ρ rf) (some (.int (bI (inR 2 x)))) (HP sl ρ rf) := by
  refine PC_of (cd := p_c_X5_isTwo) (L0 := [some (.int x)]) rfl rfl ?_
  refine R_ld0 rfl ?_
  refine R_n 0 rfl rfl ?_
  refine R_n 1 rfl rfl ?_
  refine R_c0 rfl (x_in _ _ _) rfl rfl rfl ?_
  exact R_zret rfl (lf_z (rg_R (k := 1) (by decide)).symm)

theorem x_isMotion (x : Int32) : PC 103 [.int x] (HP sl ρ rf) (some (.int (bI (inR 6 x)))) (HP sl ρ rf) := by
  refine PC_of (cd := p_c_X5_isMotion) (L0 := [some (.int x)]) rfl rfl ?_
  refine R_ld0 rfl ?_
  refine R_n 0 rfl rfl ?_
  refine R_n 5 rfl rfl ?_
  refine R_c0 rfl (x_in _ _ _) rfl rfl rfl ?_
  exact R_zret rfl (lf_z (rg_R (k := 5) (by decide)).symm)

theorem x_isKey (x : Int32) : PC 104 [.int x] (HP sl ρ rf) (some (.int (bI (inR 6 x)))) (HP sl ρ rf) := by
  refine PC_of (cd := p_c_X5_isKey) (L0 := [some (.int x)]) rfl rfl ?_
  refine R_ld0 rfl ?_
  refine R_n 0 rfl rfl ?_
  refine R_n 5 rfl rfl ?_
  refine R_c0 rfl (x_in _ _ _) rfl rfl rfl ?_
  exact R_zret rfl (lf_z (rg_R (k := 5) (by decide)).symm)

theorem x_of (hrf : RFok rf) {m w : Nat} (hm : m < 6) (hw : w < 13) : PC 97 [.ref 146, .int (nI m), .int (nI w)] (HP sl ρ rf) (some (.int (ρ 147 (9 + 13 * m + w)))) (HP sl ρ rf) := by
  refine PC_of (cd := p_c_X5_of) (L0 := [some (.ref 146), some (.int (nI m)), some (.int (nI w))]) rfl rfl ?_
  refine R_la0 rfl ?_
  refine R_getR rfl sh_146 rfl (rf_146_0 hrf) ?_
  refine R_n 9 rfl rfl ?_
  refine R_n 13 rfl rfl ?_
  refine R_ld1 rfl ?_
  refine R_mulN rfl ?_
  refine R_addN rfl ?_
  refine R_ld2 rfl ?_
  refine R_addN rfl ?_
  refine R_ald rfl sh_147 (by first | decide | omega) (by omega) rfl ?_
  exact R_iret rfl (rfl)

theorem x_put (hrf : RFok rf) {m w : Nat} (hm : m < 6) (hw : w < 13) (x : Int32) : PC 98 [.ref 146, .int (nI m), .int (nI w), .int x] (HP sl ρ rf) none (HP sl (u2 ρ 147 (9 + 13 * m + w) x) rf) := by
  refine PC_of (cd := p_c_X5_put) (L0 := [some (.ref 146), some (.int (nI m)), some (.int (nI w)), some (.int x)]) rfl rfl ?_
  refine R_la0 rfl ?_
  refine R_getR rfl sh_146 rfl (rf_146_0 hrf) ?_
  refine R_n 9 rfl rfl ?_
  refine R_n 13 rfl rfl ?_
  refine R_ld1 rfl ?_
  refine R_mulN rfl ?_
  refine R_addN rfl ?_
  refine R_ld2 rfl ?_
  refine R_addN rfl ?_
  refine R_ld3 rfl ?_
  refine R_ast rfl sh_147 (by decide) (by omega) ?_
  exact R_ret rfl (rfl)

theorem x_adds (hrf : RFok rf) {m w : Nat} (hm : m < 6) (hw : w < 13) (x : Int32) : PC 99 [.ref 146, .int (nI m), .int (nI w), .int x] (HP sl ρ rf) none (HP sl (u2 ρ 147 (9 + 13 * m + w) (ρ 147 (9 + 13 * m + w) + x)) rf) := by
  refine PC_of (cd := p_c_X5_adds) (L0 := [some (.ref 146), some (.int (nI m)), some (.int (nI w)), some (.int x)]) rfl rfl ?_
  refine R_la0 rfl ?_
  refine R_getR rfl sh_146 rfl (rf_146_0 hrf) ?_
  refine R_n 9 rfl rfl ?_
  refine R_n 13 rfl rfl ?_
  refine R_ld1 rfl ?_
  refine R_mulN rfl ?_
  refine R_addN rfl ?_
  refine R_ld2 rfl ?_
  refine R_addN rfl ?_
  refine R_dup2 rfl ?_
  refine R_ald rfl sh_147 (by first | decide | omega) (by omega) rfl ?_
  refine R_ld3 rfl ?_
  refine R_add rfl ?_
  refine R_ast rfl sh_147 (by decide) (by omega) ?_
  exact R_ret rfl (rfl)

theorem x_on (hrf : RFok rf) {i w : Nat} (hi : i < 16) (hw : w < 11) : PC 100 [.ref 146, .int (nI i), .int (nI w)] (HP sl ρ rf) (some (.int (ρ 147 (87 + 11 * i + w)))) (HP sl ρ rf) := by
  refine PC_of (cd := p_c_X5_on) (L0 := [some (.ref 146), some (.int (nI i)), some (.int (nI w))]) rfl rfl ?_
  refine R_la0 rfl ?_
  refine R_getR rfl sh_146 rfl (rf_146_0 hrf) ?_
  refine R_n 87 rfl rfl ?_
  refine R_n 11 rfl rfl ?_
  refine R_ld1 rfl ?_
  refine R_mulN rfl ?_
  refine R_addN rfl ?_
  refine R_ld2 rfl ?_
  refine R_addN rfl ?_
  refine R_ald rfl sh_147 (by first | decide | omega) (by omega) rfl ?_
  exact R_iret rfl (rfl)

theorem x_lay (hrf : RFok rf) {i w : Nat} (hi : i < 16) (hw : w < 11) (x : Int32) : PC 101 [.ref 146, .int (nI i), .int (nI w), .int x] (HP sl ρ rf) none (HP sl (u2 ρ 147 (87 + 11 * i + w) x) rf) := by
  refine PC_of (cd := p_c_X5_lay) (L0 := [some (.ref 146), some (.int (nI i)), some (.int (nI w)), some (.int x)]) rfl rfl ?_
  refine R_la0 rfl ?_
  refine R_getR rfl sh_146 rfl (rf_146_0 hrf) ?_
  refine R_n 87 rfl rfl ?_
  refine R_n 11 rfl rfl ?_
  refine R_ld1 rfl ?_
  refine R_mulN rfl ?_
  refine R_addN rfl ?_
  refine R_ld2 rfl ?_
  refine R_addN rfl ?_
  refine R_ld3 rfl ?_
  refine R_ast rfl sh_147 (by decide) (by omega) ?_
  exact R_ret rfl (rfl)

theorem x_isInput (hrf : RFok rf) (h16 : n ≤ 16) (hn : ρ 147 1 = nI n) (x : Int32) : PC 102 [.ref 146, .int x] (HP sl ρ rf) (some (.int (bI (inR n x)))) (HP sl ρ rf) := by
  refine PC_of (cd := p_c_X5_isInput) (L0 := [some (.ref 146), some (.int x)]) rfl rfl ?_
  refine R_ld1 rfl ?_
  refine R_n 0 rfl rfl ?_
  refine R_la0 rfl ?_
  refine R_getR rfl sh_146 rfl (rf_146_0 hrf) ?_
  refine R_n 1 rfl rfl ?_
  refine R_ald rfl sh_147 (by first | decide | omega) (by omega) hn ?_
  refine R_n 1 rfl rfl ?_
  refine R_sub rfl ?_
  refine R_c0 rfl (x_in _ _ _) rfl rfl rfl ?_
  exact R_zret rfl (lf_z (rg_n h16).symm)

theorem xo_rows (hrf : RFok rf) (hR : Rel σ (ρ 147) n rc) {m : Nat} (hm : m < 6) : PC 97 [.ref 146, .int (nI m), .int (nI 0)] (HP sl ρ rf) (some (.int (nI (rc m)))) (HP sl ρ rf) := by
  rw [← (hR.m hm).2.2.1]
  exact x_of hrf hm (by decide)
theorem xo_runs (hrf : RFok rf) (hR : Rel σ (ρ 147) n rc) {m : Nat} (hm : m < 6) : PC 97 [.ref 146, .int (nI m), .int (nI 5)] (HP sl ρ rf) (some (.int (bI (bt (σ 12 0) m)))) (HP sl ρ rf) := by
  rw [← (hR.m hm).2.2.2.2.1]
  exact x_of hrf hm (by decide)
theorem xo_first (hrf : RFok rf) (hR : Rel σ (ρ 147) n rc) {m : Nat} (hm : m < 6) : PC 97 [.ref 146, .int (nI m), .int (nI 6)] (HP sl ρ rf) (some (.int (σ 16 m))) (HP sl ρ rf) := by
  rw [← (hR.m hm).2.2.2.2.2.1]
  exact x_of hrf hm (by decide)
theorem xo_stopped (hrf : RFok rf) (hR : Rel σ (ρ 147) n rc) {m : Nat} (hm : m < 6) : PC 97 [.ref 146, .int (nI m), .int (nI 7)] (HP sl ρ rf) (some (.int (σ 17 m))) (HP sl ρ rf) := by
  rw [← (hR.m hm).2.2.2.2.2.2.2.1]
  exact x_of hrf hm (by decide)
theorem xo_ran (hrf : RFok rf) (hR : Rel σ (ρ 147) n rc) {m : Nat} (hm : m < 6) : PC 97 [.ref 146, .int (nI m), .int (nI 8)] (HP sl ρ rf) (some (.int (σ 21 m))) (HP sl ρ rf) := by
  rw [← (hR.m hm).2.2.2.2.2.2.2.2.2.1]
  exact x_of hrf hm (by decide)
theorem xo_since (hrf : RFok rf) (hR : Rel σ (ρ 147) n rc) {m : Nat} (hm : m < 6) : PC 97 [.ref 146, .int (nI m), .int (nI 9)] (HP sl ρ rf) (some (.int (σ 20 m))) (HP sl ρ rf) := by
  rw [← (hR.m hm).2.2.2.2.2.2.2.2.2.2.1]
  exact x_of hrf hm (by decide)
theorem xo_starts (hrf : RFok rf) (hR : Rel σ (ρ 147) n rc) {m : Nat} (hm : m < 6) : PC 97 [.ref 146, .int (nI m), .int (nI 10)] (HP sl ρ rf) (some (.int (σ 19 m))) (HP sl ρ rf) := by
  rw [← (hR.m hm).2.2.2.2.2.2.2.2.2.2.2.1]
  exact x_of hrf hm (by decide)
theorem xo_stops (hrf : RFok rf) (hR : Rel σ (ρ 147) n rc) {m : Nat} (hm : m < 6) : PC 97 [.ref 146, .int (nI m), .int (nI 11)] (HP sl ρ rf) (some (.int (σ 18 m))) (HP sl ρ rf) := by
  rw [← (hR.m hm).2.2.2.2.2.2.2.2.2.2.2.2.1]
  exact x_of hrf hm (by decide)
theorem xo_excl (hrf : RFok rf) (hR : Rel σ (ρ 147) n rc) {m : Nat} (hm : m < 6) : PC 97 [.ref 146, .int (nI m), .int (nI 12)] (HP sl ρ rf) (some (.int (σ 15 m))) (HP sl ρ rf) := by
  rw [← (hR.m hm).2.2.2.2.2.2.2.2.2.2.2.2.2.1]
  exact x_of hrf hm (by decide)
theorem xo_mask (hrf : RFok rf) (hR : Rel σ (ρ 147) n rc) {m : Nat} (hm : m < 6) {j : Nat} (hj : j < 4) : PC 97 [.ref 146, .int (nI m), .int (nI (1 + j))] (HP sl ρ rf) (some (.int (rw0 σ m j))) (HP sl ρ rf) := by
  rw [show rw0 σ m j = _ from ((hR.m hm).2.2.2.1 j hj).symm]
  exact x_of hrf hm (by omega)
theorem xn_kind (hrf : RFok rf) (hR : Rel σ (ρ 147) n rc) {i : Nat} (hi : i < n) : PC 100 [.ref 146, .int (nI i), .int (nI 0)] (HP sl ρ rf) (some (.int (bI (decide (¬ σ 4 i = -1))))) (HP sl ρ rf) := by
  rw [← (hR.i hi).1]
  exact x_on hrf (by have := hR.b.1; omega) (by decide)
theorem xn_made (hrf : RFok rf) (hR : Rel σ (ρ 147) n rc) {i : Nat} (hi : i < n) : PC 100 [.ref 146, .int (nI i), .int (nI 9)] (HP sl ρ rf) (some (.int (σ 4 i))) (HP sl ρ rf) := by
  rw [← (hR.i hi).2.1]
  exact x_on hrf (by have := hR.b.1; omega) (by decide)
theorem xn_guard (hrf : RFok rf) (hR : Rel σ (ρ 147) n rc) {i : Nat} (hi : i < n) : PC 100 [.ref 146, .int (nI i), .int (nI 10)] (HP sl ρ rf) (some (.int (σ 5 i))) (HP sl ρ rf) := by
  rw [← (hR.i hi).2.2.2.1]
  exact x_on hrf (by have := hR.b.1; omega) (by decide)
theorem xn_int (hrf : RFok rf) (hR : Rel σ (ρ 147) n rc) {i : Nat} (hi : i < n) : PC 100 [.ref 146, .int (nI i), .int (nI 3)] (HP sl ρ rf) (some (.int (σ 6 i))) (HP sl ρ rf) := by
  rw [← (hR.i hi).2.2.2.2.2.1]
  exact x_on hrf (by have := hR.b.1; omega) (by decide)
theorem xn_tst (hrf : RFok rf) (hR : Rel σ (ρ 147) n rc) {i : Nat} (hi : i < n) : PC 100 [.ref 146, .int (nI i), .int (nI 4)] (HP sl ρ rf) (some (.int (σ 7 i))) (HP sl ρ rf) := by
  rw [← (hR.i hi).2.2.2.2.2.2.1]
  exact x_on hrf (by have := hR.b.1; omega) (by decide)
theorem xn_left (hrf : RFok rf) (hR : Rel σ (ρ 147) n rc) {i : Nat} (hi : i < n) : PC 100 [.ref 146, .int (nI i), .int (nI 5)] (HP sl ρ rf) (some (.int (σ 8 i))) (HP sl ρ rf) := by
  rw [← (hR.i hi).2.2.2.2.2.2.2.1]
  exact x_on hrf (by have := hR.b.1; omega) (by decide)
theorem xn_bri (hrf : RFok rf) (hR : Rel σ (ρ 147) n rc) {i : Nat} (hi : i < n) : PC 100 [.ref 146, .int (nI i), .int (nI 6)] (HP sl ρ rf) (some (.int (σ 9 i))) (HP sl ρ rf) := by
  rw [← (hR.i hi).2.2.2.2.2.2.2.2.2.1]
  exact x_on hrf (by have := hR.b.1; omega) (by decide)
theorem xn_test (hrf : RFok rf) (hR : Rel σ (ρ 147) n rc) {i : Nat} (hi : i < n) : PC 100 [.ref 146, .int (nI i), .int (nI 7)] (HP sl ρ rf) (some (.int (σ 10 i))) (HP sl ρ rf) := by
  rw [← (hR.i hi).2.2.2.2.2.2.2.2.2.2.1]
  exact x_on hrf (by have := hR.b.1; omega) (by decide)
theorem xn_ess (hrf : RFok rf) (hR : Rel σ (ρ 147) n rc) {i : Nat} (hi : i < n) : PC 100 [.ref 146, .int (nI i), .int (nI 2)] (HP sl ρ rf) (some (.int (bI (bt (σ 3 4) i)))) (HP sl ρ rf) := by
  rw [← (hR.i hi).2.2.2.2.2.2.2.2.2.2.2.2.2.1]
  exact x_on hrf (by have := hR.b.1; omega) (by decide)
theorem xn_closed (hrf : RFok rf) (hR : Rel σ (ρ 147) n rc) {i : Nat} (hi : i < n) (h : σ 4 i = -1) : PC 100 [.ref 146, .int (nI i), .int (nI 1)] (HP sl ρ rf) (some (.int (bI (bt (σ 3 3) i)))) (HP sl ρ rf) := by
  rw [← (hR.i hi).2.2.2.2.2.2.2.2.2.2.2.2.2.2.1 h]
  exact x_on hrf (by have := hR.b.1; omega) (by decide)
theorem x_isLock (hrf : RFok rf) (hR : Rel σ (ρ 147) n rc) {i : Nat} (hi : i < n) : PC 107 [.ref 146, .int (nI i)] (HP sl ρ rf) (some (.int (bI (decide (¬ σ 4 i = -1))))) (HP sl ρ rf) := by
  have h16 := hR.b.1
  refine PC_of (cd := p_c_X5_isLock) (L0 := [some (.ref 146), some (.int (nI i))]) rfl rfl ?_
  refine R_la0 rfl ?_
  refine R_ld1 rfl ?_
  refine R_n 0 rfl rfl ?_
  refine R_c1 rfl (xn_kind hrf hR hi) rfl rfl rfl sh_146 rfl rfl ?_
  refine R_n 1 rfl rfl ?_
  refine B2_ne rfl (fun h5 => ?_) (fun h5 => ?_)
  · refine R_n 0 rfl rfl ?_
    exact R_zret0 rfl (by first | exact lf_1 (bIt.mp h5) | exact lf_0 (bIf.mp h5))
  · refine R_n 1 rfl rfl ?_
    refine R_goto rfl ?_
    exact R_zret1 rfl (by first | exact lf_1 (bIt.mp h5) | exact lf_0 (bIf.mp h5))

theorem x_isClosed (hrf : RFok rf) (hR : Rel σ (ρ 147) n rc) {i : Nat} (hi : i < n) : PC 108 [.ref 146, .int (nI i)] (HP sl ρ rf) (some (.int (bI (bt (σ 3 3) i)))) (HP sl ρ rf) := by
  have h16 := hR.b.1
  rcases (hR.i hi).2.2.1 with hl | ⟨k, hk, hl⟩
  · refine PC_of (cd := p_c_X5_isClosed) (L0 := [some (.ref 146), some (.int (nI i))]) rfl rfl ?_
    refine R_la0 rfl ?_
    refine R_ld1 rfl ?_
    refine R_c1 rfl (x_isLock hrf hR hi) rfl rfl rfl sh_146 rfl rfl ?_
    refine BB_eqT rfl (decide_eq_false (fun q => q hl)) ?_
    refine R_la0 rfl ?_
    refine R_ld1 rfl ?_
    refine R_n 1 rfl rfl ?_
    refine R_c1 rfl (xn_closed hrf hR hi hl) rfl rfl rfl sh_146 rfl rfl ?_
    refine R_n 1 rfl rfl ?_
    refine B2_ne rfl (fun h24 => ?_) (fun h24 => ?_)
    · refine R_n 0 rfl rfl ?_
      exact R_zret0 rfl (by first | exact lf_1 (bIt.mp h24) | exact lf_0 (bIf.mp h24))
    · refine R_n 1 rfl rfl ?_
      refine R_goto rfl ?_
      exact R_zret1 rfl (by first | exact lf_1 (bIt.mp h24) | exact lf_0 (bIf.mp h24))
  · have hl1 : ¬ σ 4 i = -1 := fun q => absurd (show nI k < 0 by rw [← hl, q]; decide) (nI_pos (by omega))
    have hcl := (hR.i hi).2.2.2.2.2.2.2.2.2.2.2.2.2.2.2 k hk hl
    refine PC_of (cd := p_c_X5_isClosed) (L0 := [some (.ref 146), some (.int (nI i))]) rfl rfl ?_
    refine R_la0 rfl ?_
    refine R_ld1 rfl ?_
    refine R_c1 rfl (x_isLock hrf hR hi) rfl rfl rfl sh_146 rfl rfl ?_
    refine BB_eqF rfl (decide_eq_true hl1) ?_
    refine R_la0 rfl ?_
    refine R_getR rfl sh_146 rfl (rf_146_0 hrf) ?_
    refine R_n 3 rfl rfl ?_
    refine R_la0 rfl ?_
    refine R_ld1 rfl ?_
    refine R_n 9 rfl rfl ?_
    refine R_c1 rfl (xn_made hrf hR hi) rfl rfl rfl sh_146 rfl rfl ?_
    rw [hl]
    show PW _ _ _ (.int (nI k) :: _) _ _
    refine R_addN rfl ?_
    refine R_ald rfl sh_147 (by first | decide | omega) (by omega) rfl ?_
    refine R_ld1 rfl ?_
    refine B2_ne rfl (fun h14 => ?_) (fun h14 => ?_)
    · refine R_n 0 rfl rfl ?_
      refine R_goto rfl ?_
      exact R_zret0 rfl (by first | exact lf_1 (hcl.trans (decide_eq_true h14)) | exact lf_0 (hcl.trans (decide_eq_false h14)))
    · refine R_n 1 rfl rfl ?_
      refine R_goto rfl ?_
      exact R_zret1 rfl (by first | exact lf_1 (hcl.trans (decide_eq_true h14)) | exact lf_0 (hcl.trans (decide_eq_false h14)))

theorem x_isOverdue (hrf : RFok rf) (hR : Rel σ (ρ 147) n rc) {i : Nat} (hi : i < n) : PC 109 [.ref 146, .int (nI i)] (HP sl ρ rf) (some (.int (bI (ov σ i)))) (HP sl ρ rf) := by
  have h16 := hR.b.1
  refine PC_of (cd := p_c_X5_isOverdue) (L0 := [some (.ref 146), some (.int (nI i))]) rfl rfl ?_
  refine R_la0 rfl ?_
  refine R_ld1 rfl ?_
  refine R_n 3 rfl rfl ?_
  refine R_c1 rfl (xn_int hrf hR hi) rfl rfl rfl sh_146 rfl rfl ?_
  refine B1_le rfl (fun h4 => ?_) (fun h4 => ?_)
  · refine R_n 0 rfl rfl ?_
    exact R_zret0 rfl (by first | exact lf_1 (ov_t h4 h18) | exact lf_0 (ov_f1 h4) | exact lf_0 (ov_f2 h18))
  · refine R_la0 rfl ?_
    refine R_getR rfl sh_146 rfl (rf_146_0 hrf) ?_
    refine R_n 0 rfl rfl ?_
    refine R_ald rfl sh_147 (by first | decide | omega) (by omega) hR.b.2.2.2.1 ?_
    refine R_la0 rfl ?_
    refine R_ld1 rfl ?_
    refine R_n 4 rfl rfl ?_
    refine R_c1 rfl (xn_tst hrf hR hi) rfl rfl rfl sh_146 rfl rfl ?_
    refine R_sub rfl ?_
    refine R_la0 rfl ?_
    refine R_ld1 rfl ?_
    refine R_n 3 rfl rfl ?_
    refine R_c1 rfl (xn_int hrf hR hi) rfl rfl rfl sh_146 rfl rfl ?_
    refine B2_le rfl (fun h18 => ?_) (fun h18 => ?_)
    · refine R_n 0 rfl rfl ?_
      exact R_zret0 rfl (by first | exact lf_1 (ov_t h4 h18) | exact lf_0 (ov_f1 h4) | exact lf_0 (ov_f2 h18))
    · refine R_n 1 rfl rfl ?_
      refine R_goto rfl ?_
      exact R_zret1 rfl (by first | exact lf_1 (ov_t h4 h18) | exact lf_0 (ov_f1 h4) | exact lf_0 (ov_f2 h18))

theorem cS_t1 {i : Nat} (hi : i < n) (h : nI 0 < σ 8 i) : cS σ n i = true := by
  show (decide (i < n) && br σ i || (bt (σ 3 3) i && !(decide (i < n) && ov σ i))) = true
  rw [decide_eq_true hi, show br σ i = true from decide_eq_true h]
  rfl
theorem cS_t2 {i : Nat} (hi : i < n) (h : ¬ nI 0 < σ 8 i) : cS σ n i = (bt (σ 3 3) i && !ov σ i) := by
  show (decide (i < n) && br σ i || (bt (σ 3 3) i && !(decide (i < n) && ov σ i))) = _
  rw [decide_eq_true hi, show br σ i = false from decide_eq_false h]
  simp
theorem x_counts (hrf : RFok rf) (hR : Rel σ (ρ 147) n rc) {i : Nat} (hi : i < n) : PC 110 [.ref 146, .int (nI i)] (HP sl ρ rf) (some (.int (bI (cS σ n i)))) (HP sl ρ rf) := by
  have h16 := hR.b.1
  refine PC_of (cd := p_c_X5_counts) (L0 := [some (.ref 146), some (.int (nI i))]) rfl rfl ?_
  refine R_la0 rfl ?_
  refine R_ld1 rfl ?_
  refine R_n 5 rfl rfl ?_
  refine R_c1 rfl (xn_left hrf hR hi) rfl rfl rfl sh_146 rfl rfl ?_
  refine B1_gt rfl (fun h4 => ?_) (fun h4 => ?_)
  · refine R_n 1 rfl rfl ?_
    refine R_goto rfl ?_
    exact R_zret1 rfl (by first | exact lf_1 (b := cS σ n i) (cS_t1 hi h4) | exact lf_0 (b := cS σ n i) (by rw [cS_t2 hi h4, h8]; rfl) | exact lf_0 (b := cS σ n i) (by rw [cS_t2 hi h4, h12, Bool.not_true, Bool.and_false]) | exact lf_1 (b := cS σ n i) (by rw [cS_t2 hi h4, h8, h12]; rfl))
  · refine R_la0 rfl ?_
    refine R_ld1 rfl ?_
    refine R_c1 rfl (x_isClosed hrf hR hi) rfl rfl rfl sh_146 rfl rfl ?_
    refine BB_eq rfl (fun h8 => ?_) (fun h8 => ?_)
    · refine R_n 0 rfl rfl ?_
      exact R_zret0 rfl (by first | exact lf_1 (b := cS σ n i) (cS_t1 hi h4) | exact lf_0 (b := cS σ n i) (by rw [cS_t2 hi h4, h8]; rfl) | exact lf_0 (b := cS σ n i) (by rw [cS_t2 hi h4, h12, Bool.not_true, Bool.and_false]) | exact lf_1 (b := cS σ n i) (by rw [cS_t2 hi h4, h8, h12]; rfl))
    · refine R_la0 rfl ?_
      refine R_ld1 rfl ?_
      refine R_c1 rfl (x_isOverdue hrf hR hi) rfl rfl rfl sh_146 rfl rfl ?_
      refine BB_ne rfl (fun h12 => ?_) (fun h12 => ?_)
      · refine R_n 0 rfl rfl ?_
        exact R_zret0 rfl (by first | exact lf_1 (b := cS σ n i) (cS_t1 hi h4) | exact lf_0 (b := cS σ n i) (by rw [cS_t2 hi h4, h8]; rfl) | exact lf_0 (b := cS σ n i) (by rw [cS_t2 hi h4, h12, Bool.not_true, Bool.and_false]) | exact lf_1 (b := cS σ n i) (by rw [cS_t2 hi h4, h8, h12]; rfl))
      · refine R_n 1 rfl rfl ?_
        refine R_goto rfl ?_
        exact R_zret1 rfl (by first | exact lf_1 (b := cS σ n i) (cS_t1 hi h4) | exact lf_0 (b := cS σ n i) (by rw [cS_t2 hi h4, h8]; rfl) | exact lf_0 (b := cS σ n i) (by rw [cS_t2 hi h4, h12, Bool.not_true, Bool.and_false]) | exact lf_1 (b := cS σ n i) (by rw [cS_t2 hi h4, h8, h12]; rfl))

theorem orB (p : Nat → Bool) {j : Nat} (hj : j < 16) : M (fun i => decide (i < j) && p i) ||| (if p j = true then (nI 1 <<< (nI j &&& 31)) else nI 0) = M (fun i => decide (i < j + 1) && p i) := by
  refine M_eq fun i hi => ?_
  rw [b_or, M_bt _ hi]
  have h2 : bt (if p j = true then (nI 1 <<< (nI j &&& 31)) else nI 0) i = (decide (i = j) && p j) := by
    split
    · rename_i hp
      rw [show (nI 1 : Int32) = 1 from rfl, b_shl1 j (by omega) hi, hp, Bool.and_true]
    · rename_i hp
      rw [show (nI 0 : Int32) = 0 from rfl, b_0]
      cases hq : p j
      · rw [Bool.and_false]
      · exact absurd hq hp
  rw [h2]
  by_cases e : i = j
  · subst e
    simp [hj]
  · by_cases h16 : i < 16
    · by_cases hlt : i < j
      · simp [h16, hlt, show i < j + 1 by omega, e]
      · simp [h16, hlt, show ¬ i < j + 1 by omega, e]
    · simp [h16, e]
theorem x_closedOnes (hrf : RFok rf) (hR : Rel σ (ρ 147) n rc) : PC 111 [.ref 146] (HP sl ρ rf) (some (.int (M (cS σ n)))) (HP sl ρ rf) := by
  have h16 := hR.b.1
  have hl := down (n := n) (P := fun j => PW p_c_X5_closedOnes 4 [some (.ref 146), some (.int (M (fun i => decide (i < j) && cS σ n i))), some (.int (nI j))] [] (HP sl ρ rf) (fun zz => zz = ((some (.int (M (cS σ n)))), HP sl ρ rf))) ?_ ?_
  · refine PC_of (cd := p_c_X5_closedOnes) (L0 := [some (.ref 146), none, none]) rfl rfl ?_
    refine R_n 0 rfl rfl ?_
    refine R_st1 rfl ?_
    refine R_n 0 rfl rfl ?_
    refine R_st2 rfl ?_
    rw [show (nI 0 : Int32) = M (fun i => decide (i < 0) && cS σ n i) from (M_eq fun i hi => by rw [show (nI 0 : Int32) = 0 from rfl, b_0]; simp)]
    exact hl 0 (Nat.zero_le _)
  · refine R_ld2 rfl ?_
    refine R_la0 rfl ?_
    refine R_getR rfl sh_146 rfl (rf_146_0 hrf) ?_
    refine R_n 1 rfl rfl ?_
    refine R_ald rfl sh_147 (by first | decide | omega) (by omega) hR.b.2.2.1 ?_
    refine N2_geT rfl (by omega) (by omega) (by omega) ?_
    refine R_ld1 rfl ?_
    exact R_iret rfl (lf_i (M_ext fun i hi => if hlt : i < n then by rw [decide_eq_true hlt, Bool.true_and] else by rw [hR.cz (by omega), Bool.and_false]))
  · intro j hj hnext
    refine R_ld2 rfl ?_
    refine R_la0 rfl ?_
    refine R_getR rfl sh_146 rfl (rf_146_0 hrf) ?_
    refine R_n 1 rfl rfl ?_
    refine R_ald rfl sh_147 (by first | decide | omega) (by omega) hR.b.2.2.1 ?_
    refine N2_geF rfl (by omega) (by omega) (hj) ?_
    refine R_ld1 rfl ?_
    refine R_la0 rfl ?_
    refine R_ld2 rfl ?_
    refine R_c1 rfl (x_counts hrf hR hj) rfl rfl rfl sh_146 rfl rfl ?_
    refine BB_eq rfl (fun h14 => ?_) (fun h14 => ?_)
    · refine R_n 0 rfl rfl ?_
      refine R_or rfl ?_
      refine R_st1 rfl ?_
      refine R_in2 rfl rfl ?_
      refine R_goto rfl ?_
      have e := orB (cS σ n) (show j < 16 by omega)
      first | (rw [if_pos h14] at e; rw [← e] at hnext; exact hnext) | (rw [if_neg (by rw [h14]; exact Bool.false_ne_true)] at e; rw [← e] at hnext; exact hnext)
    · refine R_n 1 rfl rfl ?_
      refine R_ld2 rfl ?_
      refine R_shl rfl ?_
      refine R_goto rfl ?_
      refine R_or rfl ?_
      refine R_st1 rfl ?_
      refine R_in2 rfl rfl ?_
      refine R_goto rfl ?_
      have e := orB (cS σ n) (show j < 16 by omega)
      first | (rw [if_pos h14] at e; rw [← e] at hnext; exact hnext) | (rw [if_neg (by rw [h14]; exact Bool.false_ne_true)] at e; rw [← e] at hnext; exact hnext)

end
