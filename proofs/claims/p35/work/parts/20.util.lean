/-! the small functions: ranges, members of masks -/
/-- 0 ≤ x < n -/
def inR (n : Nat) (x : Int32) : Bool := decide (0 ≤ x) && decide (x < nI n)
theorem inR_f1 {n : Nat} {x : Int32} (h : x < 0) : inR n x = false := by
  unfold inR
  rw [decide_eq_false (Int32.not_le.mpr h), Bool.false_and]
theorem inR_f2 {n : Nat} {x : Int32} (h : nI n ≤ x) : inR n x = false := by
  unfold inR
  rw [decide_eq_false (Int32.not_lt.mpr h), Bool.and_false]
theorem inR_t {n : Nat} {x : Int32} (h : ¬ x < 0) (h2 : ¬ nI n ≤ x) : inR n x = true := by
  unfold inR
  rw [decide_eq_true (Int32.not_lt.mp h), decide_eq_true (Int32.not_le.mp h2)]
  rfl
theorem inR_N {n j : Nat} (h : j < n) (hn : n < 2 ^ 31) : inR n (nI j) = true := inR_t (nI_pos (by omega)) (nI_ge h hn)
theorem inR_c {n : Nat} (hn : n < 2 ^ 31) {x : Int32} (h : inR n x = true) : ∃ j, j < n ∧ x = nI j := by
  unfold inR at h
  simp only [Bool.and_eq_true, decide_eq_true_eq] at h
  obtain ⟨j, hj, rfl⟩ := nI_of (Int32.not_lt.mpr h.1)
  exact ⟨j, (nI_ltI hj hn).mp h.2, rfl⟩
theorem inR_2 {x : Int32} : inR 2 x = true ↔ x = 0 ∨ x = 1 := by
  constructor
  · intro h
    obtain ⟨j, hj, rfl⟩ := inR_c (by decide) h
    rcases (show j = 0 ∨ j = 1 by omega) with rfl | rfl
    · exact Or.inl rfl
    · exact Or.inr rfl
  · rintro (rfl | rfl) <;> rfl
theorem inR_2f {x : Int32} (h0 : ¬ x = 0) (h1 : ¬ x = nI 1) : inR 2 x = false := by
  cases h : inR 2 x with
  | false => rfl
  | true => rcases inR_2.mp h with e | e
            · exact absurd e h0
            · exact absurd e h1
theorem lf_z {a : Bool} {b : Bool} {h : pH} (e : b = a) : (some (Value.int (bI a)), h) = (some (Value.int (bI b)), h) := by rw [e]
theorem lf_1 {b : Bool} {h : pH} (e : b = true) : (some (Value.int 1), h) = (some (Value.int (bI b)), h) := by rw [e]; rfl
theorem lf_0 {b : Bool} {h : pH} (e : b = false) : (some (Value.int 0), h) = (some (Value.int (bI b)), h) := by rw [e]; rfl
theorem lf_i {a b : Int32} {h : pH} (e : a = b) : (some (Value.int a), h) = (some (Value.int b), h) := by rw [e]
/-- the first below n that p tells -/
def ff (p : Nat → Bool) : Nat → Option Nat
  | 0 => none
  | n + 1 => match ff p n with
    | some j => some j
    | none => if p n = true then some n else none
theorem ff_none {p : Nat → Bool} : ∀ {n : Nat}, (∀ i, i < n → p i = false) → ff p n = none
  | 0, _ => rfl
  | n + 1, h => by
    unfold ff
    rw [ff_none (fun i hi => h i (by omega)), h n (by omega)]
    rfl
theorem ff_some {p : Nat → Bool} {j : Nat} (hp : p j = true) (h : ∀ i, i < j → p i = false) : ∀ {n : Nat}, j < n → ff p n = some j
  | 0, hj => absurd hj (Nat.not_lt_zero _)
  | n + 1, hj => by
    unfold ff
    by_cases e : j < n
    · rw [ff_some hp h e]
    · have e2 : j = n := by omega
      subst e2
      rw [ff_none h, hp]
      rfl
theorem ff_spec {p : Nat → Bool} {n j : Nat} (h : ff p n = some j) : j < n ∧ p j = true ∧ ∀ i, i < j → p i = false := by
  induction n with
  | zero => cases h
  | succ n ih =>
    unfold ff at h
    cases e : ff p n with
    | some k =>
      rw [e] at h
      cases h
      obtain ⟨h1, h2⟩ := ih e
      exact ⟨by omega, h2⟩
    | none =>
      rw [e] at h
      have hn : ∀ i, i < n → p i = false := by
        clear ih h
        induction n with
        | zero => intro i hi; omega
        | succ n ihn =>
          unfold ff at e
          cases e2 : ff p n with
          | some k => rw [e2] at e; cases e
          | none =>
            rw [e2] at e
            intro i hi
            by_cases hin : i = n
            · subst hin
              cases hp : p i with
              | false => rfl
              | true => rw [hp] at e; cases e
            · exact ihn e2 i (by omega)
      by_cases hp : p n = true
      · simp only [hp, if_true] at h
        cases h
        exact ⟨by omega, hp, hn⟩
      · simp only [hp] at h
        cases h
theorem ff_cong {p q : Nat → Bool} : ∀ {n : Nat}, (∀ i, i < n → p i = q i) → ff p n = ff q n
  | 0, _ => rfl
  | n + 1, h => by
    unfold ff
    rw [ff_cong (fun i hi => h i (by omega)), h n (by omega)]
def fI (r : Option Nat) : Int32 := match r with
  | some j => nI j
  | none => -1
/-- a sum over a row -/
def sI (f : Nat → Int32) : Nat → Int32
  | 0 => 0
  | n + 1 => sI f n + f n
theorem sI_cong {f g : Nat → Int32} : ∀ {n : Nat}, (∀ i, i < n → f i = g i) → sI f n = sI g n
  | 0, _ => rfl
  | n + 1, h => by
    unfold sI
    rw [sI_cong (fun i hi => h i (by omega)), h n (by omega)]
def onf (x : Int32) : Int32 := if x = -1 then -4 else x
section
variable {sl : pS} {ρ : pR} {rf : pF}
theorem m_isKey (x : Int32) : PC 75 [.int x] (HP sl ρ rf) (some (.int (bI (inR 6 x)))) (HP sl ρ rf) := by
  refine PC_of (cd := p_c_X4_isKey) (L0 := [some (.int x)]) rfl rfl ?_
  by_cases h1 : x < 0
  · refine R_ld0 rfl ?_
    refine B1_ltT rfl (h1) ?_
    refine R_n 0 rfl rfl ?_
    exact R_zret0 rfl (lf_0 (inR_f1 h1))
  · by_cases h2 : nI 6 ≤ x
    · refine R_ld0 rfl ?_
      refine B1_ltF rfl (h1) ?_
      refine R_ld0 rfl ?_
      refine R_n 6 rfl rfl ?_
      refine B2_geT rfl (h2) ?_
      refine R_n 0 rfl rfl ?_
      exact R_zret0 rfl (lf_0 (inR_f2 h2))
    · refine R_ld0 rfl ?_
      refine B1_ltF rfl (h1) ?_
      refine R_ld0 rfl ?_
      refine R_n 6 rfl rfl ?_
      refine B2_geF rfl (h2) ?_
      refine R_n 1 rfl rfl ?_
      refine R_goto rfl ?_
      exact R_zret1 rfl (lf_1 (inR_t h1 h2))

theorem m_isMotion (x : Int32) : PC 76 [.int x] (HP sl ρ rf) (some (.int (bI (inR 6 x)))) (HP sl ρ rf) := by
  refine PC_of (cd := p_c_X4_isMotion) (L0 := [some (.int x)]) rfl rfl ?_
  by_cases h1 : x < 0
  · refine R_ld0 rfl ?_
    refine B1_ltT rfl (h1) ?_
    refine R_n 0 rfl rfl ?_
    exact R_zret0 rfl (lf_0 (inR_f1 h1))
  · by_cases h2 : nI 6 ≤ x
    · refine R_ld0 rfl ?_
      refine B1_ltF rfl (h1) ?_
      refine R_ld0 rfl ?_
      refine R_n 6 rfl rfl ?_
      refine B2_geT rfl (h2) ?_
      refine R_n 0 rfl rfl ?_
      exact R_zret0 rfl (lf_0 (inR_f2 h2))
    · refine R_ld0 rfl ?_
      refine B1_ltF rfl (h1) ?_
      refine R_ld0 rfl ?_
      refine R_n 6 rfl rfl ?_
      refine B2_geF rfl (h2) ?_
      refine R_n 1 rfl rfl ?_
      refine R_goto rfl ?_
      exact R_zret1 rfl (lf_1 (inR_t h1 h2))

theorem m_isSnap (x : Int32) : PC 77 [.int x] (HP sl ρ rf) (some (.int (bI (inR 2 x)))) (HP sl ρ rf) := by
  refine PC_of (cd := p_c_X4_isSnapshotPlace) (L0 := [some (.int x)]) rfl rfl ?_
  by_cases h1 : x < 0
  · refine R_ld0 rfl ?_
    refine B1_ltT rfl (h1) ?_
    refine R_n 0 rfl rfl ?_
    exact R_zret0 rfl (lf_0 (inR_f1 h1))
  · by_cases h2 : nI 2 ≤ x
    · refine R_ld0 rfl ?_
      refine B1_ltF rfl (h1) ?_
      refine R_ld0 rfl ?_
      refine R_n 2 rfl rfl ?_
      refine B2_geT rfl (h2) ?_
      refine R_n 0 rfl rfl ?_
      exact R_zret0 rfl (lf_0 (inR_f2 h2))
    · refine R_ld0 rfl ?_
      refine B1_ltF rfl (h1) ?_
      refine R_ld0 rfl ?_
      refine R_n 2 rfl rfl ?_
      refine B2_geF rfl (h2) ?_
      refine R_n 1 rfl rfl ?_
      refine R_goto rfl ?_
      exact R_zret1 rfl (lf_1 (inR_t h1 h2))

theorem m_isYes (x : Int32) : PC 78 [.int x] (HP sl ρ rf) (some (.int (bI (inR 2 x)))) (HP sl ρ rf) := by
  refine PC_of (cd := p_c_X4_isYesOrNo) (L0 := [some (.int x)]) rfl rfl ?_
  refine R_ld0 rfl ?_
  refine B1_eq rfl (fun h1 => ?_) (fun h1 => ?_)
  · refine R_n 1 rfl rfl ?_
    refine R_goto rfl ?_
    exact R_zret1 rfl (by first | exact lf_1 (inR_2.mpr (Or.inl (by assumption))) | exact lf_1 (inR_2.mpr (Or.inr (by assumption))) | exact lf_0 (inR_2f (by assumption) (by assumption)))
  · refine R_ld0 rfl ?_
    refine R_n 1 rfl rfl ?_
    refine B2_ne rfl (fun h4 => ?_) (fun h4 => ?_)
    · refine R_n 0 rfl rfl ?_
      exact R_zret0 rfl (by first | exact lf_1 (inR_2.mpr (Or.inl (by assumption))) | exact lf_1 (inR_2.mpr (Or.inr (by assumption))) | exact lf_0 (inR_2f (by assumption) (by assumption)))
    · refine R_n 1 rfl rfl ?_
      refine R_goto rfl ?_
      exact R_zret1 rfl (by first | exact lf_1 (inR_2.mpr (Or.inl (by assumption))) | exact lf_1 (inR_2.mpr (Or.inr (by assumption))) | exact lf_0 (inR_2f (by assumption) (by assumption)))

theorem m_bitOf (x : Int32) {j : Nat} (hj : j < 32) : PC 80 [.int x, .int (nI j)] (HP sl ρ rf) (some (.int (bI (bt x j)))) (HP sl ρ rf) := by
  refine PC_of (cd := p_c_X4_bitOf) (L0 := [some (.int x), some (.int (nI j))]) rfl rfl ?_
  refine R_ld0 rfl ?_
  refine R_ld1 rfl ?_
  refine R_shr rfl ?_
  refine R_n 1 rfl rfl ?_
  refine R_and rfl ?_
  exact R_iret rfl (lf_i (bit_of x hj))

theorem m_has (x : Int32) {j : Nat} (hj : j < 32) : PC 79 [.int x, .int (nI j)] (HP sl ρ rf) (some (.int (bI (bt x j)))) (HP sl ρ rf) := by
  refine PC_of (cd := p_c_X4_has) (L0 := [some (.int x), some (.int (nI j))]) rfl rfl ?_
  refine R_ld0 rfl ?_
  refine R_ld1 rfl ?_
  refine R_c0 rfl (m_bitOf x hj) rfl rfl rfl ?_
  refine R_n 1 rfl rfl ?_
  refine B2_ne rfl (fun h4 => ?_) (fun h4 => ?_)
  · refine R_n 0 rfl rfl ?_
    exact R_zret0 rfl (by cases hb : bt x j <;> rw [hb] at h4 <;> first | rfl | exact absurd h4 (by decide) | exact absurd rfl h4)
  · refine R_n 1 rfl rfl ?_
    refine R_goto rfl ?_
    exact R_zret1 rfl (by cases hb : bt x j <;> rw [hb] at h4 <;> first | rfl | exact absurd h4 (by decide) | exact absurd rfl h4)

theorem m_with (x : Int32) (j : Nat) (y : Bool) : PC 81 [.int x, .int (nI j), .int (bI y)] (HP sl ρ rf) (some (.int (wI x j y))) (HP sl ρ rf) := by
  refine PC_of (cd := p_c_X4_with) (L0 := [some (.int x), some (.int (nI j)), some (.int (bI y)), none]) rfl rfl ?_
  refine R_n 1 rfl rfl ?_
  refine R_ld1 rfl ?_
  refine R_shl rfl ?_
  refine R_st3 rfl ?_
  refine R_ld2 rfl ?_
  refine BB_eq rfl (fun h5 => ?_) (fun h5 => ?_)
  · refine R_ld0 rfl ?_
    refine R_ld3 rfl ?_
    refine R_i rfl ?_
    refine R_xor rfl ?_
    refine R_and rfl ?_
    exact R_iret rfl (lf_i (by unfold wI; simp only [*]; rfl))
  · refine R_ld0 rfl ?_
    refine R_ld3 rfl ?_
    refine R_or rfl ?_
    refine R_goto rfl ?_
    exact R_iret rfl (lf_i (by unfold wI; simp only [*]; rfl))

theorem m_orNF (x : Int32) : PC 85 [.int x] (HP sl ρ rf) (some (.int (onf x))) (HP sl ρ rf) := by
  refine PC_of (cd := p_c_X4_orNotFound) (L0 := [some (.int x)]) rfl rfl ?_
  refine R_ld0 rfl ?_
  refine R_i rfl ?_
  refine B2_ne rfl (fun h2 => ?_) (fun h2 => ?_)
  · refine R_ld0 rfl ?_
    exact R_iret rfl (lf_i (by unfold onf; simp only [*]; rfl))
  · refine R_i rfl ?_
    refine R_goto rfl ?_
    exact R_iret rfl (lf_i (by unfold onf; simp only [*]; rfl))

theorem m_bc (x : Int32) : PC 94 [.int x] (HP sl ρ rf) (some (.int (bcI x))) (HP sl ρ rf) := by
  refine PC_of (cd := p_c_J6_bitCount_0f7a4) (L0 := [some (.int x)]) rfl rfl ?_
  refine R_ld0 rfl ?_
  refine R_ld0 rfl ?_
  refine R_n 1 rfl rfl ?_
  refine R_ushr rfl ?_
  refine R_n 1431655765 rfl rfl ?_
  refine R_and rfl ?_
  refine R_sub rfl ?_
  refine R_st0 rfl ?_
  refine R_ld0 rfl ?_
  refine R_n 858993459 rfl rfl ?_
  refine R_and rfl ?_
  refine R_ld0 rfl ?_
  refine R_n 2 rfl rfl ?_
  refine R_ushr rfl ?_
  refine R_n 858993459 rfl rfl ?_
  refine R_and rfl ?_
  refine R_add rfl ?_
  refine R_st0 rfl ?_
  refine R_ld0 rfl ?_
  refine R_ld0 rfl ?_
  refine R_n 4 rfl rfl ?_
  refine R_ushr rfl ?_
  refine R_add rfl ?_
  refine R_n 252645135 rfl rfl ?_
  refine R_and rfl ?_
  refine R_st0 rfl ?_
  refine R_ld0 rfl ?_
  refine R_ld0 rfl ?_
  refine R_n 8 rfl rfl ?_
  refine R_ushr rfl ?_
  refine R_add rfl ?_
  refine R_st0 rfl ?_
  refine R_ld0 rfl ?_
  refine R_ld0 rfl ?_
  refine R_n 16 rfl rfl ?_
  refine R_ushr rfl ?_
  refine R_add rfl ?_
  refine R_st0 rfl ?_
  refine R_ld0 rfl ?_
  refine R_n 63 rfl rfl ?_
  refine R_and rfl ?_
  exact R_iret rfl (rfl)

end
