/-! the motions of the present state; copies of states; the history -/
/-- does one below n tell -/
def an (p : Nat → Bool) : Nat → Bool
  | 0 => false
  | n + 1 => an p n || p n
theorem an_t {p : Nat → Bool} {j : Nat} (h : p j = true) : ∀ {n : Nat}, j < n → an p n = true
  | 0, hj => absurd hj (Nat.not_lt_zero _)
  | n + 1, hj => by
    show (an p n || p n) = true
    by_cases e : j = n
    · rw [← e, h, Bool.or_true]
    · rw [an_t h (show j < n by omega), Bool.true_or]
theorem an_f {p : Nat → Bool} : ∀ {n : Nat}, (∀ i, i < n → p i = false) → an p n = false
  | 0, _ => rfl
  | n + 1, h => by
    show (an p n || p n) = false
    rw [an_f (fun i hi => h i (by omega)), h n (by omega)]
    rfl
theorem an_cong {p q : Nat → Bool} : ∀ {n : Nat}, (∀ i, i < n → p i = q i) → an p n = an q n
  | 0, _ => rfl
  | n + 1, h => by
    show (an p n || p n) = (an q n || q n)
    rw [an_cong (fun i hi => h i (by omega)), h n (by omega)]
theorem an_ex {p : Nat → Bool} : ∀ {n : Nat}, an p n = true → ∃ i, i < n ∧ p i = true
  | 0, h => by cases h
  | n + 1, h => by
    have h : (an p n || p n) = true := h
    rcases Bool.or_eq_true _ _ ▸ h with h1 | h1
    · obtain ⟨i, h2, h3⟩ := an_ex h1
      exact ⟨i, by omega, h3⟩
    · exact ⟨n, by omega, h1⟩
/-- the rows told by s, joined -/
def orA (f : Nat → Int32) (s : Nat → Bool) : Nat → Int32
  | 0 => 0
  | n + 1 => if s n = true then orA f s n ||| f n else orA f s n
theorem orA_t {f : Nat → Int32} {s : Nat → Bool} {j : Nat} (h : s j = true) : orA f s (j + 1) = orA f s j ||| f j := if_pos h
theorem orA_f {f : Nat → Int32} {s : Nat → Bool} {j : Nat} (h : s j = false) : orA f s (j + 1) = orA f s j := if_neg (by rw [h]; exact Bool.false_ne_true)
theorem orA_cong {f g : Nat → Int32} {s t : Nat → Bool} : ∀ {n : Nat}, (∀ i, i < n → f i = g i) → (∀ i, i < n → s i = t i) → orA f s n = orA g t n
  | 0, _, _ => rfl
  | n + 1, h, h2 => by
    unfold orA
    rw [orA_cong (fun i hi => h i (by omega)) (fun i hi => h2 i (by omega)), h n (by omega), h2 n (by omega)]
/-- a motion is permitted, with x counting as closed: its rows are f, its number of rows n -/
def pmI (f : Nat → Int32) (n : Nat) (x : Int32) : Bool := an (fun j => decide (f j &&& (x ^^^ (-1)) = 0)) n
theorem pmI_cong {f g : Nat → Int32} {n : Nat} {x : Int32} (h : ∀ i, i < n → f i = g i) : pmI f n x = pmI g n x := an_cong fun i hi => by rw [h i hi]
abbrev rw0 (ρ : pR) (m j : Nat) : Int32 := ρ 13 (m * 4 + j)
/-- the open ones of the row that has the fewest -/
def feA (f : Nat → Int32) (x : Int32) : Nat → Int32
  | 0 => f 0 &&& (x ^^^ (-1))
  | j + 1 => if bcI (f (j + 1) &&& (x ^^^ (-1))) < bcI (feA f x j) then f (j + 1) &&& (x ^^^ (-1)) else feA f x j
def loI (y b : Int32) : Int32 := fI (ff (bt (if y &&& b = 0 then y else y &&& b)) 16)
def begS (ρ : pR) (m : Nat) : pR := u2 (u2 (u2 ρ 12 0 (wI (ρ 12 0) m true)) 19 m (ρ 19 m + nI 1)) 20 m (nI 0)
/-- motion m is looked at -/
def suC (r : pR) (rc : Nat → Nat) (x : Int32) (m : Nat) : Bool := bt (r 12 0) m && !pmI (rw0 r m) (rc m) x
def suS (r : pR) (rc : Nat → Nat) (b x t : Int32) (m : Nat) : pR :=
  if suC r rc x m = true then u2 (u2 (u2 (u2 r 12 0 (wI (r 12 0) m false)) 16 m (loI (orA (rw0 r m) (fun _ => true) (rc m) &&& (x ^^^ (-1))) b)) 17 m t) 18 m (r 18 m + nI 1) else r
def suA (ρ : pR) (rc : Nat → Nat) (b x t : Int32) : Nat → pR
  | 0 => ρ
  | j + 1 => suS (suA ρ rc b x t j) rc b x t j
def suN (ρ : pR) (rc : Nat → Nat) (b x t : Int32) (j : Nat) : Bool := suC (suA ρ rc b x t j) rc x j
theorem suA_13 (ρ : pR) (rc : Nat → Nat) (b x t : Int32) : ∀ j, suA ρ rc b x t j 13 = ρ 13 ∧ suA ρ rc b x t j 14 = ρ 14
  | 0 => ⟨rfl, rfl⟩
  | j + 1 => by
    have h := suA_13 ρ rc b x t j
    show suS _ rc b x t j 13 = _ ∧ suS _ rc b x t j 14 = _
    unfold suS
    split
    · exact ⟨h.1, h.2⟩
    · exact h
theorem su_f1 {ρ : pR} {rc : Nat → Nat} {b x t : Int32} {j : Nat} (h : bt (suA ρ rc b x t j 12 0) j = false) : suN ρ rc b x t j = false ∧ suA ρ rc b x t (j + 1) = suA ρ rc b x t j := by
  have e : suC (suA ρ rc b x t j) rc x j = false := by
    unfold suC
    rw [h]
    rfl
  exact ⟨e, if_neg (by rw [e]; exact Bool.false_ne_true)⟩
theorem su_f2 {ρ : pR} {rc : Nat → Nat} {b x t : Int32} {j : Nat} (h : pmI (rw0 (suA ρ rc b x t j) j) (rc j) x = true) : suN ρ rc b x t j = false ∧ suA ρ rc b x t (j + 1) = suA ρ rc b x t j := by
  have e : suC (suA ρ rc b x t j) rc x j = false := by
    unfold suC
    rw [h, Bool.not_true, Bool.and_false]
  exact ⟨e, if_neg (by rw [e]; exact Bool.false_ne_true)⟩
theorem su_t {ρ : pR} {rc : Nat → Nat} {b x t : Int32} {j : Nat} (h : bt (suA ρ rc b x t j 12 0) j = true) (h2 : pmI (rw0 (suA ρ rc b x t j) j) (rc j) x = false) : suN ρ rc b x t j = true ∧ suA ρ rc b x t (j + 1) = u2 (u2 (u2 (u2 (suA ρ rc b x t j) 12 0 (wI (suA ρ rc b x t j 12 0) j false)) 16 j (loI (orA (rw0 (suA ρ rc b x t j) j) (fun _ => true) (rc j) &&& (x ^^^ (-1))) b)) 17 j t) 18 j (suA ρ rc b x t j 18 j + nI 1) := by
  have e : suC (suA ρ rc b x t j) rc x j = true := by
    unfold suC
    rw [h, h2]
    rfl
  exact ⟨e, if_pos e⟩
def ctS (r : pR) (m : Nat) : pR := if bt (r 12 0) m = true then u2 (u2 r 20 m (r 20 m + nI 1)) 21 m (r 21 m + nI 1) else r
def ctA (ρ : pR) : Nat → pR
  | 0 => ρ
  | j + 1 => ctS (ctA ρ j) j
theorem ctA_12 (ρ : pR) : ∀ j, ctA ρ j 12 = ρ 12
  | 0 => rfl
  | j + 1 => by
    have h := ctA_12 ρ j
    show ctS _ j 12 = _
    unfold ctS
    split
    · exact h
    · exact h
/-- what stands in a state's cells, and where -/
def StOK (sl : pS) (rf : pF) (a : Nat) : Prop := (1 ≤ a ∧ a ≤ 124) ∧ (SH sl)[a]? = some (2, 2) ∧ rf a 0 = some (a + 1) ∧ rf a 1 = some (a + 10) ∧ (SH sl)[a + 1]? = some (0, 13) ∧ (SH sl)[a + 10]? = some (1, 10) ∧ (∀ j, j < 8 → rf (a + 1) (5 + j) = some (a + 2 + j) ∧ (SH sl)[a + 2 + j]? = some (10, 16)) ∧ (∀ j, j < 9 → rf (a + 10) (1 + j) = some (a + 11 + j)) ∧ (SH sl)[a + 11]? = some (10, 24) ∧ ∀ j, j < 8 → (SH sl)[a + 12 + j]? = some (10, 6)
theorem StOK_2 {sl : pS} {rf : pF} (h : RFok rf) : StOK sl rf 2 := by
  refine ⟨by decide, rfl, rf_2_0 h, rf_2_1 h, rfl, rfl, fun j hj => ?_, fun j hj => ?_, rfl, fun j hj => ?_⟩
  · rcases (show j = 0 ∨ j = 1 ∨ j = 2 ∨ j = 3 ∨ j = 4 ∨ j = 5 ∨ j = 6 ∨ j = 7 by omega) with rfl | rfl | rfl | rfl | rfl | rfl | rfl | rfl
    · exact ⟨rf_3_5 h, rfl⟩
    · exact ⟨rf_3_6 h, rfl⟩
    · exact ⟨rf_3_7 h, rfl⟩
    · exact ⟨rf_3_8 h, rfl⟩
    · exact ⟨rf_3_9 h, rfl⟩
    · exact ⟨rf_3_10 h, rfl⟩
    · exact ⟨rf_3_11 h, rfl⟩
    · exact ⟨rf_3_12 h, rfl⟩
  · rcases (show j = 0 ∨ j = 1 ∨ j = 2 ∨ j = 3 ∨ j = 4 ∨ j = 5 ∨ j = 6 ∨ j = 7 ∨ j = 8 by omega) with rfl | rfl | rfl | rfl | rfl | rfl | rfl | rfl | rfl
    · exact rf_12_1 h
    · exact rf_12_2 h
    · exact rf_12_3 h
    · exact rf_12_4 h
    · exact rf_12_5 h
    · exact rf_12_6 h
    · exact rf_12_7 h
    · exact rf_12_8 h
    · exact rf_12_9 h
  · rcases (show j = 0 ∨ j = 1 ∨ j = 2 ∨ j = 3 ∨ j = 4 ∨ j = 5 ∨ j = 6 ∨ j = 7 by omega) with rfl | rfl | rfl | rfl | rfl | rfl | rfl | rfl <;> rfl
theorem StOK_23 {sl : pS} {rf : pF} (h : RFok rf) : StOK sl rf 23 := by
  refine ⟨by decide, rfl, rf_23_0 h, rf_23_1 h, rfl, rfl, fun j hj => ?_, fun j hj => ?_, rfl, fun j hj => ?_⟩
  · rcases (show j = 0 ∨ j = 1 ∨ j = 2 ∨ j = 3 ∨ j = 4 ∨ j = 5 ∨ j = 6 ∨ j = 7 by omega) with rfl | rfl | rfl | rfl | rfl | rfl | rfl | rfl
    · exact ⟨rf_24_5 h, rfl⟩
    · exact ⟨rf_24_6 h, rfl⟩
    · exact ⟨rf_24_7 h, rfl⟩
    · exact ⟨rf_24_8 h, rfl⟩
    · exact ⟨rf_24_9 h, rfl⟩
    · exact ⟨rf_24_10 h, rfl⟩
    · exact ⟨rf_24_11 h, rfl⟩
    · exact ⟨rf_24_12 h, rfl⟩
  · rcases (show j = 0 ∨ j = 1 ∨ j = 2 ∨ j = 3 ∨ j = 4 ∨ j = 5 ∨ j = 6 ∨ j = 7 ∨ j = 8 by omega) with rfl | rfl | rfl | rfl | rfl | rfl | rfl | rfl | rfl
    · exact rf_33_1 h
    · exact rf_33_2 h
    · exact rf_33_3 h
    · exact rf_33_4 h
    · exact rf_33_5 h
    · exact rf_33_6 h
    · exact rf_33_7 h
    · exact rf_33_8 h
    · exact rf_33_9 h
  · rcases (show j = 0 ∨ j = 1 ∨ j = 2 ∨ j = 3 ∨ j = 4 ∨ j = 5 ∨ j = 6 ∨ j = 7 by omega) with rfl | rfl | rfl | rfl | rfl | rfl | rfl | rfl <;> rfl
theorem StOK_43 {sl : pS} {rf : pF} (h : RFok rf) : StOK sl rf 43 := by
  refine ⟨by decide, rfl, rf_43_0 h, rf_43_1 h, rfl, rfl, fun j hj => ?_, fun j hj => ?_, rfl, fun j hj => ?_⟩
  · rcases (show j = 0 ∨ j = 1 ∨ j = 2 ∨ j = 3 ∨ j = 4 ∨ j = 5 ∨ j = 6 ∨ j = 7 by omega) with rfl | rfl | rfl | rfl | rfl | rfl | rfl | rfl
    · exact ⟨rf_44_5 h, rfl⟩
    · exact ⟨rf_44_6 h, rfl⟩
    · exact ⟨rf_44_7 h, rfl⟩
    · exact ⟨rf_44_8 h, rfl⟩
    · exact ⟨rf_44_9 h, rfl⟩
    · exact ⟨rf_44_10 h, rfl⟩
    · exact ⟨rf_44_11 h, rfl⟩
    · exact ⟨rf_44_12 h, rfl⟩
  · rcases (show j = 0 ∨ j = 1 ∨ j = 2 ∨ j = 3 ∨ j = 4 ∨ j = 5 ∨ j = 6 ∨ j = 7 ∨ j = 8 by omega) with rfl | rfl | rfl | rfl | rfl | rfl | rfl | rfl | rfl
    · exact rf_53_1 h
    · exact rf_53_2 h
    · exact rf_53_3 h
    · exact rf_53_4 h
    · exact rf_53_5 h
    · exact rf_53_6 h
    · exact rf_53_7 h
    · exact rf_53_8 h
    · exact rf_53_9 h
  · rcases (show j = 0 ∨ j = 1 ∨ j = 2 ∨ j = 3 ∨ j = 4 ∨ j = 5 ∨ j = 6 ∨ j = 7 by omega) with rfl | rfl | rfl | rfl | rfl | rfl | rfl | rfl <;> rfl
theorem StOK_63 {sl : pS} {rf : pF} (h : RFok rf) : StOK sl rf 63 := by
  refine ⟨by decide, rfl, rf_63_0 h, rf_63_1 h, rfl, rfl, fun j hj => ?_, fun j hj => ?_, rfl, fun j hj => ?_⟩
  · rcases (show j = 0 ∨ j = 1 ∨ j = 2 ∨ j = 3 ∨ j = 4 ∨ j = 5 ∨ j = 6 ∨ j = 7 by omega) with rfl | rfl | rfl | rfl | rfl | rfl | rfl | rfl
    · exact ⟨rf_64_5 h, rfl⟩
    · exact ⟨rf_64_6 h, rfl⟩
    · exact ⟨rf_64_7 h, rfl⟩
    · exact ⟨rf_64_8 h, rfl⟩
    · exact ⟨rf_64_9 h, rfl⟩
    · exact ⟨rf_64_10 h, rfl⟩
    · exact ⟨rf_64_11 h, rfl⟩
    · exact ⟨rf_64_12 h, rfl⟩
  · rcases (show j = 0 ∨ j = 1 ∨ j = 2 ∨ j = 3 ∨ j = 4 ∨ j = 5 ∨ j = 6 ∨ j = 7 ∨ j = 8 by omega) with rfl | rfl | rfl | rfl | rfl | rfl | rfl | rfl | rfl
    · exact rf_73_1 h
    · exact rf_73_2 h
    · exact rf_73_3 h
    · exact rf_73_4 h
    · exact rf_73_5 h
    · exact rf_73_6 h
    · exact rf_73_7 h
    · exact rf_73_8 h
    · exact rf_73_9 h
  · rcases (show j = 0 ∨ j = 1 ∨ j = 2 ∨ j = 3 ∨ j = 4 ∨ j = 5 ∨ j = 6 ∨ j = 7 by omega) with rfl | rfl | rfl | rfl | rfl | rfl | rfl | rfl <;> rfl
theorem StOK_83 {sl : pS} {rf : pF} (h : RFok rf) : StOK sl rf 83 := by
  refine ⟨by decide, rfl, rf_83_0 h, rf_83_1 h, rfl, rfl, fun j hj => ?_, fun j hj => ?_, rfl, fun j hj => ?_⟩
  · rcases (show j = 0 ∨ j = 1 ∨ j = 2 ∨ j = 3 ∨ j = 4 ∨ j = 5 ∨ j = 6 ∨ j = 7 by omega) with rfl | rfl | rfl | rfl | rfl | rfl | rfl | rfl
    · exact ⟨rf_84_5 h, rfl⟩
    · exact ⟨rf_84_6 h, rfl⟩
    · exact ⟨rf_84_7 h, rfl⟩
    · exact ⟨rf_84_8 h, rfl⟩
    · exact ⟨rf_84_9 h, rfl⟩
    · exact ⟨rf_84_10 h, rfl⟩
    · exact ⟨rf_84_11 h, rfl⟩
    · exact ⟨rf_84_12 h, rfl⟩
  · rcases (show j = 0 ∨ j = 1 ∨ j = 2 ∨ j = 3 ∨ j = 4 ∨ j = 5 ∨ j = 6 ∨ j = 7 ∨ j = 8 by omega) with rfl | rfl | rfl | rfl | rfl | rfl | rfl | rfl | rfl
    · exact rf_93_1 h
    · exact rf_93_2 h
    · exact rf_93_3 h
    · exact rf_93_4 h
    · exact rf_93_5 h
    · exact rf_93_6 h
    · exact rf_93_7 h
    · exact rf_93_8 h
    · exact rf_93_9 h
  · rcases (show j = 0 ∨ j = 1 ∨ j = 2 ∨ j = 3 ∨ j = 4 ∨ j = 5 ∨ j = 6 ∨ j = 7 by omega) with rfl | rfl | rfl | rfl | rfl | rfl | rfl | rfl <;> rfl
theorem StOK_104 {sl : pS} {rf : pF} (h : RFok rf) : StOK sl rf 104 := by
  refine ⟨by decide, rfl, rf_104_0 h, rf_104_1 h, rfl, rfl, fun j hj => ?_, fun j hj => ?_, rfl, fun j hj => ?_⟩
  · rcases (show j = 0 ∨ j = 1 ∨ j = 2 ∨ j = 3 ∨ j = 4 ∨ j = 5 ∨ j = 6 ∨ j = 7 by omega) with rfl | rfl | rfl | rfl | rfl | rfl | rfl | rfl
    · exact ⟨rf_105_5 h, rfl⟩
    · exact ⟨rf_105_6 h, rfl⟩
    · exact ⟨rf_105_7 h, rfl⟩
    · exact ⟨rf_105_8 h, rfl⟩
    · exact ⟨rf_105_9 h, rfl⟩
    · exact ⟨rf_105_10 h, rfl⟩
    · exact ⟨rf_105_11 h, rfl⟩
    · exact ⟨rf_105_12 h, rfl⟩
  · rcases (show j = 0 ∨ j = 1 ∨ j = 2 ∨ j = 3 ∨ j = 4 ∨ j = 5 ∨ j = 6 ∨ j = 7 ∨ j = 8 by omega) with rfl | rfl | rfl | rfl | rfl | rfl | rfl | rfl | rfl
    · exact rf_114_1 h
    · exact rf_114_2 h
    · exact rf_114_3 h
    · exact rf_114_4 h
    · exact rf_114_5 h
    · exact rf_114_6 h
    · exact rf_114_7 h
    · exact rf_114_8 h
    · exact rf_114_9 h
  · rcases (show j = 0 ∨ j = 1 ∨ j = 2 ∨ j = 3 ∨ j = 4 ∨ j = 5 ∨ j = 6 ∨ j = 7 by omega) with rfl | rfl | rfl | rfl | rfl | rfl | rfl | rfl <;> rfl
theorem StOK_124 {sl : pS} {rf : pF} (h : RFok rf) : StOK sl rf 124 := by
  refine ⟨by decide, rfl, rf_124_0 h, rf_124_1 h, rfl, rfl, fun j hj => ?_, fun j hj => ?_, rfl, fun j hj => ?_⟩
  · rcases (show j = 0 ∨ j = 1 ∨ j = 2 ∨ j = 3 ∨ j = 4 ∨ j = 5 ∨ j = 6 ∨ j = 7 by omega) with rfl | rfl | rfl | rfl | rfl | rfl | rfl | rfl
    · exact ⟨rf_125_5 h, rfl⟩
    · exact ⟨rf_125_6 h, rfl⟩
    · exact ⟨rf_125_7 h, rfl⟩
    · exact ⟨rf_125_8 h, rfl⟩
    · exact ⟨rf_125_9 h, rfl⟩
    · exact ⟨rf_125_10 h, rfl⟩
    · exact ⟨rf_125_11 h, rfl⟩
    · exact ⟨rf_125_12 h, rfl⟩
  · rcases (show j = 0 ∨ j = 1 ∨ j = 2 ∨ j = 3 ∨ j = 4 ∨ j = 5 ∨ j = 6 ∨ j = 7 ∨ j = 8 by omega) with rfl | rfl | rfl | rfl | rfl | rfl | rfl | rfl | rfl
    · exact rf_134_1 h
    · exact rf_134_2 h
    · exact rf_134_3 h
    · exact rf_134_4 h
    · exact rf_134_5 h
    · exact rf_134_6 h
    · exact rf_134_7 h
    · exact rf_134_8 h
    · exact rf_134_9 h
  · rcases (show j = 0 ∨ j = 1 ∨ j = 2 ∨ j = 3 ∨ j = 4 ∨ j = 5 ∨ j = 6 ∨ j = 7 by omega) with rfl | rfl | rfl | rfl | rfl | rfl | rfl | rfl <;> rfl
def cp0 (a b s : Nat) (r : pR) : pR := u2 r (a + 1) s (r (b + 1) s)
def cpA (a b f n : Nat) (r : pR) : pR := c2 r (b + f) (a + f) 0 0 n
/-- the inputs of the state at b into those of the state at a; the motions; both -/
def cpI (a b : Nat) (r : pR) : pR := cpA a b 9 16 (cpA a b 8 16 (cpA a b 7 16 (cpA a b 6 16 (cpA a b 5 16 (cpA a b 4 16 (cpA a b 3 16 (cpA a b 2 16 (cp0 a b 4 (cp0 a b 3 (cp0 a b 2 (cp0 a b 1 (cp0 a b 0 r))))))))))))
def cpM (a b : Nat) (r : pR) : pR := cpA a b 19 6 (cpA a b 18 6 (cpA a b 17 6 (cpA a b 16 6 (cpA a b 15 6 (cpA a b 14 6 (cpA a b 13 6 (cpA a b 12 6 (cpA a b 11 24 (u2 r (a + 10) 0 (r (b + 10) 0))))))))))
def cpS (a b : Nat) (r : pR) : pR := cpM a b (cpI a b r)
/-- two states hold the same -/
def VEq (ρ : pR) (b : Nat) (ρ' : pR) (a : Nat) : Prop := (∀ s, s < 5 → ρ' (a + 1) s = ρ (b + 1) s) ∧ (∀ f, 2 ≤ f → f < 10 → ∀ j, j < 16 → ρ' (a + f) j = ρ (b + f) j) ∧ ρ' (a + 10) 0 = ρ (b + 10) 0 ∧ (∀ j, j < 24 → ρ' (a + 11) j = ρ (b + 11) j) ∧ ∀ f, 12 ≤ f → f < 20 → ∀ j, j < 6 → ρ' (a + f) j = ρ (b + f) j
theorem VEq.refl (ρ : pR) (a : Nat) : VEq ρ a ρ a := ⟨fun _ _ => rfl, fun _ _ _ _ _ => rfl, rfl, fun _ _ => rfl, fun _ _ _ _ _ => rfl⟩
theorem VEq.trans {ρ ρ' ρ'' : pR} {a b c : Nat} (h : VEq ρ a ρ' b) (h2 : VEq ρ' b ρ'' c) : VEq ρ a ρ'' c := ⟨fun s hs => (h2.1 s hs).trans (h.1 s hs), fun f h1 h3 j hj => (h2.2.1 f h1 h3 j hj).trans (h.2.1 f h1 h3 j hj), h2.2.2.1.trans h.2.2.1, fun j hj => (h2.2.2.2.1 j hj).trans (h.2.2.2.1 j hj), fun f h1 h3 j hj => (h2.2.2.2.2 f h1 h3 j hj).trans (h.2.2.2.2 f h1 h3 j hj)⟩
theorem VEq.of {ρ ρ' : pR} {a : Nat} (h : ∀ k, a < k → k < a + 20 → ρ' k = ρ k) : VEq ρ a ρ' a := ⟨fun s hs => by rw [h _ (by omega) (by omega)], fun f h1 h3 j hj => by rw [h _ (by omega) (by omega)], by rw [h _ (by omega) (by omega)], fun j hj => by rw [h _ (by omega) (by omega)], fun f h1 h3 j hj => by rw [h _ (by omega) (by omega)]⟩
theorem cpA_out {a b f n k : Nat} {r : pR} (h : k ≠ a + f) : cpA a b f n r k = r k := if_neg h
theorem cpA_in {a b f n j : Nat} {r : pR} (hj : j < n) : cpA a b f n r (a + f) j = r (b + f) j := by
  show (if a + f = a + f then va_cpy (r (b + f)) (r (a + f)) 0 0 n else r (a + f)) j = _
  rw [if_pos rfl, pk_cpy_in (Nat.zero_le _) (by omega)]
  congr 1
  omega
theorem cp0_out {a b s k : Nat} {r : pR} (h : k ≠ a + 1) : cp0 a b s r k = r k := u2_ne h
theorem cp0_in {a b s : Nat} {r : pR} : cp0 a b s r (a + 1) s = r (b + 1) s := by
  show u2 r (a + 1) s (r (b + 1) s) (a + 1) s = _
  rw [u2_at]
  exact if_pos rfl
theorem cp0_oth {a b s t : Nat} {r : pR} (h : t ≠ s) : cp0 a b s r (a + 1) t = r (a + 1) t := by
  show u2 r (a + 1) s (r (b + 1) s) (a + 1) t = _
  rw [u2_at]
  exact if_neg h
theorem cpI_out {a b k : Nat} {r : pR} (h : k < a + 1 ∨ a + 10 ≤ k) : cpI a b r k = r k := by
  unfold cpI
  rw [cpA_out (by omega), cpA_out (by omega), cpA_out (by omega), cpA_out (by omega), cpA_out (by omega), cpA_out (by omega), cpA_out (by omega), cpA_out (by omega), cp0_out (by omega), cp0_out (by omega), cp0_out (by omega), cp0_out (by omega), cp0_out (by omega)]
theorem cpM_out {a b k : Nat} {r : pR} (h : k < a + 10 ∨ a + 20 ≤ k) : cpM a b r k = r k := by
  unfold cpM
  rw [cpA_out (by omega), cpA_out (by omega), cpA_out (by omega), cpA_out (by omega), cpA_out (by omega), cpA_out (by omega), cpA_out (by omega), cpA_out (by omega), cpA_out (by omega), u2_ne (by omega)]
theorem cpS_out {a b k : Nat} {r : pR} (h : k < a + 1 ∨ a + 20 ≤ k) : cpS a b r k = r k := by
  unfold cpS
  rw [cpM_out (by omega), cpI_out (by omega)]
theorem cpI_0 {a b s : Nat} {r : pR} (hd : a + 20 ≤ b ∨ b + 20 ≤ a) (hs : s < 5) : cpI a b r (a + 1) s = r (b + 1) s := by
  unfold cpI
  rw [cpA_out (by omega), cpA_out (by omega), cpA_out (by omega), cpA_out (by omega), cpA_out (by omega), cpA_out (by omega), cpA_out (by omega), cpA_out (by omega)]
  rcases (show s = 0 ∨ s = 1 ∨ s = 2 ∨ s = 3 ∨ s = 4 by omega) with rfl | rfl | rfl | rfl | rfl
  · rw [cp0_oth (by decide), cp0_oth (by decide), cp0_oth (by decide), cp0_oth (by decide), cp0_in]
  · rw [cp0_oth (by decide), cp0_oth (by decide), cp0_oth (by decide), cp0_in, cp0_out (by omega)]
  · rw [cp0_oth (by decide), cp0_oth (by decide), cp0_in, cp0_out (by omega), cp0_out (by omega)]
  · rw [cp0_oth (by decide), cp0_in, cp0_out (by omega), cp0_out (by omega), cp0_out (by omega)]
  · rw [cp0_in, cp0_out (by omega), cp0_out (by omega), cp0_out (by omega), cp0_out (by omega)]
theorem cpI_A {a b f j : Nat} {r : pR} (hd : a + 20 ≤ b ∨ b + 20 ≤ a) (h1 : 2 ≤ f) (h2 : f < 10) (hj : j < 16) : cpI a b r (a + f) j = r (b + f) j := by
  unfold cpI
  rcases (show f = 2 ∨ f = 3 ∨ f = 4 ∨ f = 5 ∨ f = 6 ∨ f = 7 ∨ f = 8 ∨ f = 9 by omega) with rfl | rfl | rfl | rfl | rfl | rfl | rfl | rfl
  · rw [cpA_out (by omega), cpA_out (by omega), cpA_out (by omega), cpA_out (by omega), cpA_out (by omega), cpA_out (by omega), cpA_out (by omega), cpA_in hj, cp0_out (by omega), cp0_out (by omega), cp0_out (by omega), cp0_out (by omega), cp0_out (by omega)]
  · rw [cpA_out (by omega), cpA_out (by omega), cpA_out (by omega), cpA_out (by omega), cpA_out (by omega), cpA_out (by omega), cpA_in hj, cpA_out (by omega), cp0_out (by omega), cp0_out (by omega), cp0_out (by omega), cp0_out (by omega), cp0_out (by omega)]
  · rw [cpA_out (by omega), cpA_out (by omega), cpA_out (by omega), cpA_out (by omega), cpA_out (by omega), cpA_in hj, cpA_out (by omega), cpA_out (by omega), cp0_out (by omega), cp0_out (by omega), cp0_out (by omega), cp0_out (by omega), cp0_out (by omega)]
  · rw [cpA_out (by omega), cpA_out (by omega), cpA_out (by omega), cpA_out (by omega), cpA_in hj, cpA_out (by omega), cpA_out (by omega), cpA_out (by omega), cp0_out (by omega), cp0_out (by omega), cp0_out (by omega), cp0_out (by omega), cp0_out (by omega)]
  · rw [cpA_out (by omega), cpA_out (by omega), cpA_out (by omega), cpA_in hj, cpA_out (by omega), cpA_out (by omega), cpA_out (by omega), cpA_out (by omega), cp0_out (by omega), cp0_out (by omega), cp0_out (by omega), cp0_out (by omega), cp0_out (by omega)]
  · rw [cpA_out (by omega), cpA_out (by omega), cpA_in hj, cpA_out (by omega), cpA_out (by omega), cpA_out (by omega), cpA_out (by omega), cpA_out (by omega), cp0_out (by omega), cp0_out (by omega), cp0_out (by omega), cp0_out (by omega), cp0_out (by omega)]
  · rw [cpA_out (by omega), cpA_in hj, cpA_out (by omega), cpA_out (by omega), cpA_out (by omega), cpA_out (by omega), cpA_out (by omega), cpA_out (by omega), cp0_out (by omega), cp0_out (by omega), cp0_out (by omega), cp0_out (by omega), cp0_out (by omega)]
  · rw [cpA_in hj, cpA_out (by omega), cpA_out (by omega), cpA_out (by omega), cpA_out (by omega), cpA_out (by omega), cpA_out (by omega), cpA_out (by omega), cp0_out (by omega), cp0_out (by omega), cp0_out (by omega), cp0_out (by omega), cp0_out (by omega)]
theorem cpM_0 {a b : Nat} {r : pR} : cpM a b r (a + 10) 0 = r (b + 10) 0 := by
  unfold cpM
  rw [cpA_out (by omega), cpA_out (by omega), cpA_out (by omega), cpA_out (by omega), cpA_out (by omega), cpA_out (by omega), cpA_out (by omega), cpA_out (by omega), cpA_out (by omega), u2_at]
  exact if_pos rfl
theorem cpM_11 {a b j : Nat} {r : pR} (hd : a + 20 ≤ b ∨ b + 20 ≤ a) (hj : j < 24) : cpM a b r (a + 11) j = r (b + 11) j := by
  unfold cpM
  rw [cpA_out (by omega), cpA_out (by omega), cpA_out (by omega), cpA_out (by omega), cpA_out (by omega), cpA_out (by omega), cpA_out (by omega), cpA_out (by omega), cpA_in hj, u2_ne (by omega)]
theorem cpM_A {a b f j : Nat} {r : pR} (hd : a + 20 ≤ b ∨ b + 20 ≤ a) (h1 : 12 ≤ f) (h2 : f < 20) (hj : j < 6) : cpM a b r (a + f) j = r (b + f) j := by
  unfold cpM
  rcases (show f = 12 ∨ f = 13 ∨ f = 14 ∨ f = 15 ∨ f = 16 ∨ f = 17 ∨ f = 18 ∨ f = 19 by omega) with rfl | rfl | rfl | rfl | rfl | rfl | rfl | rfl
  · rw [cpA_out (by omega), cpA_out (by omega), cpA_out (by omega), cpA_out (by omega), cpA_out (by omega), cpA_out (by omega), cpA_out (by omega), cpA_in hj, cpA_out (by omega), u2_ne (by omega)]
  · rw [cpA_out (by omega), cpA_out (by omega), cpA_out (by omega), cpA_out (by omega), cpA_out (by omega), cpA_out (by omega), cpA_in hj, cpA_out (by omega), cpA_out (by omega), u2_ne (by omega)]
  · rw [cpA_out (by omega), cpA_out (by omega), cpA_out (by omega), cpA_out (by omega), cpA_out (by omega), cpA_in hj, cpA_out (by omega), cpA_out (by omega), cpA_out (by omega), u2_ne (by omega)]
  · rw [cpA_out (by omega), cpA_out (by omega), cpA_out (by omega), cpA_out (by omega), cpA_in hj, cpA_out (by omega), cpA_out (by omega), cpA_out (by omega), cpA_out (by omega), u2_ne (by omega)]
  · rw [cpA_out (by omega), cpA_out (by omega), cpA_out (by omega), cpA_in hj, cpA_out (by omega), cpA_out (by omega), cpA_out (by omega), cpA_out (by omega), cpA_out (by omega), u2_ne (by omega)]
  · rw [cpA_out (by omega), cpA_out (by omega), cpA_in hj, cpA_out (by omega), cpA_out (by omega), cpA_out (by omega), cpA_out (by omega), cpA_out (by omega), cpA_out (by omega), u2_ne (by omega)]
  · rw [cpA_out (by omega), cpA_in hj, cpA_out (by omega), cpA_out (by omega), cpA_out (by omega), cpA_out (by omega), cpA_out (by omega), cpA_out (by omega), cpA_out (by omega), u2_ne (by omega)]
  · rw [cpA_in hj, cpA_out (by omega), cpA_out (by omega), cpA_out (by omega), cpA_out (by omega), cpA_out (by omega), cpA_out (by omega), cpA_out (by omega), cpA_out (by omega), u2_ne (by omega)]
theorem cpS_V {a b : Nat} {r : pR} (hd : a + 20 ≤ b ∨ b + 20 ≤ a) : VEq r b (cpS a b r) a := by
  unfold cpS
  refine ⟨fun s hs => ?_, fun f h1 h2 j hj => ?_, ?_, fun j hj => ?_, fun f h1 h2 j hj => ?_⟩
  · rw [cpM_out (by omega), cpI_0 hd hs]
  · rw [cpM_out (by omega), cpI_A hd h1 h2 hj]
  · rw [cpM_0, cpI_out (by omega)]
  · rw [cpM_11 hd hj, cpI_out (by omega)]
  · rw [cpM_A hd h1 h2 hj, cpI_out (by omega)]
section
variable {sl : pS} {ρ : pR} {rf : pF}
theorem m_least (x : Int32) : PC 82 [.int x] (HP sl ρ rf) (some (.int (fI (ff (bt x) 16)))) (HP sl ρ rf) := by
  have hl := down (n := 16) (P := fun j => (∀ i, i < j → bt x i = false) → PW p_c_X4_least 2 [some (.int x), some (.int (nI j))] [] (HP sl ρ rf) (fun zz => zz = ((some (.int (fI (ff (bt x) 16)))), HP sl ρ rf))) ?_ ?_
  · refine PC_of (cd := p_c_X4_least) (L0 := [some (.int x), none]) rfl rfl ?_
    refine R_n 0 rfl rfl ?_
    refine R_st1 rfl ?_
    exact hl 0 (Nat.zero_le _) (fun i hi => absurd hi (Nat.not_lt_zero _))
  · intro hno
    refine R_ld1 rfl ?_
    refine R_n 16 rfl rfl ?_
    refine N2_geT rfl (by omega) (by omega) (by omega) ?_
    refine R_i rfl ?_
    exact R_iret rfl (lf_i (by rw [ff_none hno]; rfl))
  · intro j hj hnext hno
    refine R_ld1 rfl ?_
    refine R_n 16 rfl rfl ?_
    refine N2_geF rfl (by omega) (by omega) (hj) ?_
    refine R_ld0 rfl ?_
    refine R_ld1 rfl ?_
    refine R_c0 rfl (m_has _ (by omega)) rfl rfl rfl ?_
    refine BB_eq rfl (fun h8 => ?_) (fun h8 => ?_)
    · refine R_in1 rfl rfl ?_
      refine R_goto rfl ?_
      refine hnext (fun i hi => ?_)
      by_cases hij : i = j
      · subst hij
        exact h8
      · exact hno i (by omega)
    · refine R_ld1 rfl ?_
      exact R_iret rfl (lf_i (by rw [ff_some h8 hno hj]; rfl))

theorem m_sum {o n : Nat} (hs : (SH sl)[o]? = some (10, n)) (hn : n ≤ 1000) : PC 83 [.ref o] (HP sl ρ rf) (some (.int (sI (ρ o) n))) (HP sl ρ rf) := by
  have hl := down (n := n) (P := fun j => ∀ w0 : Option Value, PW p_c_X4_sum 9 [some (.ref o), some (.int (sI (ρ o) j)), some (.ref o), some (.int (nI n)), some (.int (nI j)), w0] [] (HP sl ρ rf) (fun zz => zz = ((some (.int (sI (ρ o) n))), HP sl ρ rf))) ?_ ?_
  · refine PC_of (cd := p_c_X4_sum) (L0 := [some (.ref o), none, none, none, none, none]) rfl rfl ?_
    refine R_n 0 rfl rfl ?_
    refine R_st1 rfl ?_
    refine R_la0 rfl ?_
    refine R_sa2 rfl ?_
    refine R_la2 rfl ?_
    refine R_alen rfl hs (by decide) ?_
    refine R_st3 rfl ?_
    refine R_n 0 rfl rfl ?_
    refine R_st4 rfl ?_
    exact hl 0 (Nat.zero_le _) _
  · intro w0
    refine R_ld4 rfl ?_
    refine R_ld3 rfl ?_
    refine N2_geT rfl (by omega) (by omega) (by omega) ?_
    refine R_ld1 rfl ?_
    exact R_iret rfl (rfl)
  · intro j hj hnext w0
    refine R_ld4 rfl ?_
    refine R_ld3 rfl ?_
    refine N2_geF rfl (by omega) (by omega) (hj) ?_
    refine R_la2 rfl ?_
    refine R_ld4 rfl ?_
    refine R_ald rfl hs (by first | decide | omega) (by omega) rfl ?_
    refine R_st5 rfl ?_
    refine R_ld1 rfl ?_
    refine R_ld5 rfl ?_
    refine R_add rfl ?_
    refine R_st1 rfl ?_
    refine R_in4 rfl rfl ?_
    refine R_goto rfl ?_
    exact hnext _

theorem m_copyAll {o d n : Nat} (hs : (SH sl)[o]? = some (10, n)) (hd : (SH sl)[d]? = some (10, n)) (hn : n ≤ 1000) (h1 : 1 ≤ o ∧ 1 ≤ d) : PC 84 [.ref o, .ref d] (HP sl ρ rf) none (HP sl (c2 ρ o d 0 0 n) rf) := by
  refine PC_of (cd := p_c_X4_copyAll) (L0 := [some (.ref o), some (.ref d)]) rfl rfl ?_
  refine R_la0 rfl ?_
  refine R_n 0 rfl rfl ?_
  refine R_la1 rfl ?_
  refine R_n 0 rfl rfl ?_
  refine R_la0 rfl ?_
  refine R_alen rfl hs (by decide) ?_
  refine R_la1 rfl ?_
  refine R_alen rfl hd (by decide) ?_
  refine R_min rfl (by omega) (by omega) rfl ?_
  refine R_acp rfl hs hd (by omega) (by omega) (by omega) (by omega) (by omega) ?_
  exact R_ret rfl (by rw [Nat.min_self])

theorem m_copyI {a b : Nat} (ha : StOK sl rf a) (hb : StOK sl rf b) : PC 1 [.ref (a + 1), .ref (b + 1)] (HP sl ρ rf) none (HP sl (cpI a b ρ) rf) := by
  obtain ⟨a1, a2, a3, a4, a5, a6, a7, a8, a9, a10⟩ := ha
  obtain ⟨b1, b2, b3, b4, b5, b6, b7, b8, b9, b10⟩ := hb
  refine PC_of (cd := p_c_X0_copyFrom) (L0 := [some (.ref (a + 1)), some (.ref (b + 1))]) rfl rfl ?_
  refine R_la0 rfl ?_
  refine R_la1 rfl ?_
  refine R_getI rfl b5 (by simp only [Bool.and_eq_true, decide_eq_true_eq]; exact ⟨⟨by decide, rfl, by decide, by omega⟩, rfl⟩) rfl ?_
  refine R_putI rfl a5 (by simp only [Bool.and_eq_true, decide_eq_true_eq]; exact ⟨⟨by decide, rfl, by decide, by omega⟩, rfl, rfl⟩) ?_
  refine R_la0 rfl ?_
  refine R_la1 rfl ?_
  refine R_getI rfl b5 (by simp only [Bool.and_eq_true, decide_eq_true_eq]; exact ⟨⟨by decide, rfl, by decide, by omega⟩, rfl⟩) rfl ?_
  refine R_putI rfl a5 (by simp only [Bool.and_eq_true, decide_eq_true_eq]; exact ⟨⟨by decide, rfl, by decide, by omega⟩, rfl, rfl⟩) ?_
  refine R_la0 rfl ?_
  refine R_la1 rfl ?_
  refine R_getI rfl b5 (by simp only [Bool.and_eq_true, decide_eq_true_eq]; exact ⟨⟨by decide, rfl, by decide, by omega⟩, rfl⟩) rfl ?_
  refine R_putI rfl a5 (by simp only [Bool.and_eq_true, decide_eq_true_eq]; exact ⟨⟨by decide, rfl, by decide, by omega⟩, rfl, rfl⟩) ?_
  refine R_la0 rfl ?_
  refine R_la1 rfl ?_
  refine R_getI rfl b5 (by simp only [Bool.and_eq_true, decide_eq_true_eq]; exact ⟨⟨by decide, rfl, by decide, by omega⟩, rfl⟩) rfl ?_
  refine R_putI rfl a5 (by simp only [Bool.and_eq_true, decide_eq_true_eq]; exact ⟨⟨by decide, rfl, by decide, by omega⟩, rfl, rfl⟩) ?_
  refine R_la0 rfl ?_
  refine R_la1 rfl ?_
  refine R_getI rfl b5 (by simp only [Bool.and_eq_true, decide_eq_true_eq]; exact ⟨⟨by decide, rfl, by decide, by omega⟩, rfl⟩) rfl ?_
  refine R_putI rfl a5 (by simp only [Bool.and_eq_true, decide_eq_true_eq]; exact ⟨⟨by decide, rfl, by decide, by omega⟩, rfl, rfl⟩) ?_
  refine R_la1 rfl ?_
  refine R_getR rfl b5 (by simp only [Bool.and_eq_true, decide_eq_true_eq]; exact ⟨⟨by decide, rfl, by decide, by omega⟩, rfl⟩) ((b7 0 (by decide)).1) ?_
  refine R_la0 rfl ?_
  refine R_getR rfl a5 (by simp only [Bool.and_eq_true, decide_eq_true_eq]; exact ⟨⟨by decide, rfl, by decide, by omega⟩, rfl⟩) ((a7 0 (by decide)).1) ?_
  refine R_c0 rfl (m_copyAll (b7 0 (by decide)).2 (a7 0 (by decide)).2 (by decide) (by omega)) rfl rfl rfl ?_
  refine R_la1 rfl ?_
  refine R_getR rfl b5 (by simp only [Bool.and_eq_true, decide_eq_true_eq]; exact ⟨⟨by decide, rfl, by decide, by omega⟩, rfl⟩) ((b7 1 (by decide)).1) ?_
  refine R_la0 rfl ?_
  refine R_getR rfl a5 (by simp only [Bool.and_eq_true, decide_eq_true_eq]; exact ⟨⟨by decide, rfl, by decide, by omega⟩, rfl⟩) ((a7 1 (by decide)).1) ?_
  refine R_c0 rfl (m_copyAll (b7 1 (by decide)).2 (a7 1 (by decide)).2 (by decide) (by omega)) rfl rfl rfl ?_
  refine R_la1 rfl ?_
  refine R_getR rfl b5 (by simp only [Bool.and_eq_true, decide_eq_true_eq]; exact ⟨⟨by decide, rfl, by decide, by omega⟩, rfl⟩) ((b7 2 (by decide)).1) ?_
  refine R_la0 rfl ?_
  refine R_getR rfl a5 (by simp only [Bool.and_eq_true, decide_eq_true_eq]; exact ⟨⟨by decide, rfl, by decide, by omega⟩, rfl⟩) ((a7 2 (by decide)).1) ?_
  refine R_c0 rfl (m_copyAll (b7 2 (by decide)).2 (a7 2 (by decide)).2 (by decide) (by omega)) rfl rfl rfl ?_
  refine R_la1 rfl ?_
  refine R_getR rfl b5 (by simp only [Bool.and_eq_true, decide_eq_true_eq]; exact ⟨⟨by decide, rfl, by decide, by omega⟩, rfl⟩) ((b7 3 (by decide)).1) ?_
  refine R_la0 rfl ?_
  refine R_getR rfl a5 (by simp only [Bool.and_eq_true, decide_eq_true_eq]; exact ⟨⟨by decide, rfl, by decide, by omega⟩, rfl⟩) ((a7 3 (by decide)).1) ?_
  refine R_c0 rfl (m_copyAll (b7 3 (by decide)).2 (a7 3 (by decide)).2 (by decide) (by omega)) rfl rfl rfl ?_
  refine R_la1 rfl ?_
  refine R_getR rfl b5 (by simp only [Bool.and_eq_true, decide_eq_true_eq]; exact ⟨⟨by decide, rfl, by decide, by omega⟩, rfl⟩) ((b7 4 (by decide)).1) ?_
  refine R_la0 rfl ?_
  refine R_getR rfl a5 (by simp only [Bool.and_eq_true, decide_eq_true_eq]; exact ⟨⟨by decide, rfl, by decide, by omega⟩, rfl⟩) ((a7 4 (by decide)).1) ?_
  refine R_c0 rfl (m_copyAll (b7 4 (by decide)).2 (a7 4 (by decide)).2 (by decide) (by omega)) rfl rfl rfl ?_
  refine R_la1 rfl ?_
  refine R_getR rfl b5 (by simp only [Bool.and_eq_true, decide_eq_true_eq]; exact ⟨⟨by decide, rfl, by decide, by omega⟩, rfl⟩) ((b7 5 (by decide)).1) ?_
  refine R_la0 rfl ?_
  refine R_getR rfl a5 (by simp only [Bool.and_eq_true, decide_eq_true_eq]; exact ⟨⟨by decide, rfl, by decide, by omega⟩, rfl⟩) ((a7 5 (by decide)).1) ?_
  refine R_c0 rfl (m_copyAll (b7 5 (by decide)).2 (a7 5 (by decide)).2 (by decide) (by omega)) rfl rfl rfl ?_
  refine R_la1 rfl ?_
  refine R_getR rfl b5 (by simp only [Bool.and_eq_true, decide_eq_true_eq]; exact ⟨⟨by decide, rfl, by decide, by omega⟩, rfl⟩) ((b7 6 (by decide)).1) ?_
  refine R_la0 rfl ?_
  refine R_getR rfl a5 (by simp only [Bool.and_eq_true, decide_eq_true_eq]; exact ⟨⟨by decide, rfl, by decide, by omega⟩, rfl⟩) ((a7 6 (by decide)).1) ?_
  refine R_c0 rfl (m_copyAll (b7 6 (by decide)).2 (a7 6 (by decide)).2 (by decide) (by omega)) rfl rfl rfl ?_
  refine R_la1 rfl ?_
  refine R_getR rfl b5 (by simp only [Bool.and_eq_true, decide_eq_true_eq]; exact ⟨⟨by decide, rfl, by decide, by omega⟩, rfl⟩) ((b7 7 (by decide)).1) ?_
  refine R_la0 rfl ?_
  refine R_getR rfl a5 (by simp only [Bool.and_eq_true, decide_eq_true_eq]; exact ⟨⟨by decide, rfl, by decide, by omega⟩, rfl⟩) ((a7 7 (by decide)).1) ?_
  refine R_c0 rfl (m_copyAll (b7 7 (by decide)).2 (a7 7 (by decide)).2 (by decide) (by omega)) rfl rfl rfl ?_
  exact R_ret rfl rfl

theorem m_copyM {a b : Nat} (ha : StOK sl rf a) (hb : StOK sl rf b) : PC 18 [.ref (a + 10), .ref (b + 10)] (HP sl ρ rf) none (HP sl (cpM a b ρ) rf) := by
  obtain ⟨a1, a2, a3, a4, a5, a6, a7, a8, a9, a10⟩ := ha
  obtain ⟨b1, b2, b3, b4, b5, b6, b7, b8, b9, b10⟩ := hb
  refine PC_of (cd := p_c_X1_copyFrom) (L0 := [some (.ref (a + 10)), some (.ref (b + 10))]) rfl rfl ?_
  refine R_la0 rfl ?_
  refine R_la1 rfl ?_
  refine R_getI rfl b6 (by simp only [Bool.and_eq_true, decide_eq_true_eq]; exact ⟨⟨by decide, rfl, by decide, by omega⟩, rfl⟩) rfl ?_
  refine R_putI rfl a6 (by simp only [Bool.and_eq_true, decide_eq_true_eq]; exact ⟨⟨by decide, rfl, by decide, by omega⟩, rfl, rfl⟩) ?_
  refine R_la1 rfl ?_
  refine R_getR rfl b6 (by simp only [Bool.and_eq_true, decide_eq_true_eq]; exact ⟨⟨by decide, rfl, by decide, by omega⟩, rfl⟩) (b8 0 (by decide)) ?_
  refine R_la0 rfl ?_
  refine R_getR rfl a6 (by simp only [Bool.and_eq_true, decide_eq_true_eq]; exact ⟨⟨by decide, rfl, by decide, by omega⟩, rfl⟩) (a8 0 (by decide)) ?_
  refine R_c0 rfl (m_copyAll b9 a9 (by decide) (by omega)) rfl rfl rfl ?_
  refine R_la1 rfl ?_
  refine R_getR rfl b6 (by simp only [Bool.and_eq_true, decide_eq_true_eq]; exact ⟨⟨by decide, rfl, by decide, by omega⟩, rfl⟩) (b8 1 (by decide)) ?_
  refine R_la0 rfl ?_
  refine R_getR rfl a6 (by simp only [Bool.and_eq_true, decide_eq_true_eq]; exact ⟨⟨by decide, rfl, by decide, by omega⟩, rfl⟩) (a8 1 (by decide)) ?_
  refine R_c0 rfl (m_copyAll (b10 0 (by decide)) (a10 0 (by decide)) (by decide) (by omega)) rfl rfl rfl ?_
  refine R_la1 rfl ?_
  refine R_getR rfl b6 (by simp only [Bool.and_eq_true, decide_eq_true_eq]; exact ⟨⟨by decide, rfl, by decide, by omega⟩, rfl⟩) (b8 2 (by decide)) ?_
  refine R_la0 rfl ?_
  refine R_getR rfl a6 (by simp only [Bool.and_eq_true, decide_eq_true_eq]; exact ⟨⟨by decide, rfl, by decide, by omega⟩, rfl⟩) (a8 2 (by decide)) ?_
  refine R_c0 rfl (m_copyAll (b10 1 (by decide)) (a10 1 (by decide)) (by decide) (by omega)) rfl rfl rfl ?_
  refine R_la1 rfl ?_
  refine R_getR rfl b6 (by simp only [Bool.and_eq_true, decide_eq_true_eq]; exact ⟨⟨by decide, rfl, by decide, by omega⟩, rfl⟩) (b8 3 (by decide)) ?_
  refine R_la0 rfl ?_
  refine R_getR rfl a6 (by simp only [Bool.and_eq_true, decide_eq_true_eq]; exact ⟨⟨by decide, rfl, by decide, by omega⟩, rfl⟩) (a8 3 (by decide)) ?_
  refine R_c0 rfl (m_copyAll (b10 2 (by decide)) (a10 2 (by decide)) (by decide) (by omega)) rfl rfl rfl ?_
  refine R_la1 rfl ?_
  refine R_getR rfl b6 (by simp only [Bool.and_eq_true, decide_eq_true_eq]; exact ⟨⟨by decide, rfl, by decide, by omega⟩, rfl⟩) (b8 4 (by decide)) ?_
  refine R_la0 rfl ?_
  refine R_getR rfl a6 (by simp only [Bool.and_eq_true, decide_eq_true_eq]; exact ⟨⟨by decide, rfl, by decide, by omega⟩, rfl⟩) (a8 4 (by decide)) ?_
  refine R_c0 rfl (m_copyAll (b10 3 (by decide)) (a10 3 (by decide)) (by decide) (by omega)) rfl rfl rfl ?_
  refine R_la1 rfl ?_
  refine R_getR rfl b6 (by simp only [Bool.and_eq_true, decide_eq_true_eq]; exact ⟨⟨by decide, rfl, by decide, by omega⟩, rfl⟩) (b8 5 (by decide)) ?_
  refine R_la0 rfl ?_
  refine R_getR rfl a6 (by simp only [Bool.and_eq_true, decide_eq_true_eq]; exact ⟨⟨by decide, rfl, by decide, by omega⟩, rfl⟩) (a8 5 (by decide)) ?_
  refine R_c0 rfl (m_copyAll (b10 4 (by decide)) (a10 4 (by decide)) (by decide) (by omega)) rfl rfl rfl ?_
  refine R_la1 rfl ?_
  refine R_getR rfl b6 (by simp only [Bool.and_eq_true, decide_eq_true_eq]; exact ⟨⟨by decide, rfl, by decide, by omega⟩, rfl⟩) (b8 6 (by decide)) ?_
  refine R_la0 rfl ?_
  refine R_getR rfl a6 (by simp only [Bool.and_eq_true, decide_eq_true_eq]; exact ⟨⟨by decide, rfl, by decide, by omega⟩, rfl⟩) (a8 6 (by decide)) ?_
  refine R_c0 rfl (m_copyAll (b10 5 (by decide)) (a10 5 (by decide)) (by decide) (by omega)) rfl rfl rfl ?_
  refine R_la1 rfl ?_
  refine R_getR rfl b6 (by simp only [Bool.and_eq_true, decide_eq_true_eq]; exact ⟨⟨by decide, rfl, by decide, by omega⟩, rfl⟩) (b8 7 (by decide)) ?_
  refine R_la0 rfl ?_
  refine R_getR rfl a6 (by simp only [Bool.and_eq_true, decide_eq_true_eq]; exact ⟨⟨by decide, rfl, by decide, by omega⟩, rfl⟩) (a8 7 (by decide)) ?_
  refine R_c0 rfl (m_copyAll (b10 6 (by decide)) (a10 6 (by decide)) (by decide) (by omega)) rfl rfl rfl ?_
  refine R_la1 rfl ?_
  refine R_getR rfl b6 (by simp only [Bool.and_eq_true, decide_eq_true_eq]; exact ⟨⟨by decide, rfl, by decide, by omega⟩, rfl⟩) (b8 8 (by decide)) ?_
  refine R_la0 rfl ?_
  refine R_getR rfl a6 (by simp only [Bool.and_eq_true, decide_eq_true_eq]; exact ⟨⟨by decide, rfl, by decide, by omega⟩, rfl⟩) (a8 8 (by decide)) ?_
  refine R_c0 rfl (m_copyAll (b10 7 (by decide)) (a10 7 (by decide)) (by decide) (by omega)) rfl rfl rfl ?_
  exact R_ret rfl rfl

theorem m_copyS {a b : Nat} (ha : StOK sl rf a) (hb : StOK sl rf b) : PC 32 [.ref a, .ref b] (HP sl ρ rf) none (HP sl (cpS a b ρ) rf) := by
  have ha0 := ha
  have hb0 := hb
  obtain ⟨a1, a2, a3, a4, a5, a6, -⟩ := ha
  obtain ⟨b1, b2, b3, b4, b5, b6, -⟩ := hb
  refine PC_of (cd := p_c_X2_copyFrom) (L0 := [some (.ref a), some (.ref b)]) rfl rfl ?_
  refine R_la0 rfl ?_
  refine R_getR rfl a2 (by simp only [Bool.and_eq_true, decide_eq_true_eq]; exact ⟨⟨by decide, rfl, by decide, by omega⟩, rfl⟩) a3 ?_
  refine R_la1 rfl ?_
  refine R_getR rfl b2 (by simp only [Bool.and_eq_true, decide_eq_true_eq]; exact ⟨⟨by decide, rfl, by decide, by omega⟩, rfl⟩) b3 ?_
  refine R_c1 rfl (m_copyI ha0 hb0) rfl rfl rfl a5 (by simp only [Bool.and_eq_true, decide_eq_true_eq]; exact ⟨rfl, by omega, by decide⟩) rfl ?_
  refine R_la0 rfl ?_
  refine R_getR rfl a2 (by simp only [Bool.and_eq_true, decide_eq_true_eq]; exact ⟨⟨by decide, rfl, by decide, by omega⟩, rfl⟩) a4 ?_
  refine R_la1 rfl ?_
  refine R_getR rfl b2 (by simp only [Bool.and_eq_true, decide_eq_true_eq]; exact ⟨⟨by decide, rfl, by decide, by omega⟩, rfl⟩) b4 ?_
  refine R_c1 rfl (m_copyM ha0 hb0) rfl rfl rfl a6 (by simp only [Bool.and_eq_true, decide_eq_true_eq]; exact ⟨rfl, by omega, by decide⟩) rfl ?_
  exact R_ret rfl rfl

theorem m_rowAt (hrf : RFok rf) {m j : Nat} (hm : m < 6) (hj : j < 4) : PC 19 [.ref 12, .int (nI m), .int (nI j)] (HP sl ρ rf) (some (.int (rw0 ρ m j))) (HP sl ρ rf) := by
  refine PC_of (cd := p_c_X1_rowAt) (L0 := [some (.ref 12), some (.int (nI m)), some (.int (nI j))]) rfl rfl ?_
  refine R_la0 rfl ?_
  refine R_getR rfl sh_12 rfl (rf_12_1 hrf) ?_
  refine R_ld1 rfl ?_
  refine R_n 4 rfl rfl ?_
  refine R_mulN rfl ?_
  refine R_ld2 rfl ?_
  refine R_addN rfl ?_
  refine R_ald rfl sh_13 (by first | decide | omega) (by omega) rfl ?_
  exact R_iret rfl (rfl)

def arS (ρ : pR) (m r : Nat) (x : Int32) : pR := u2 (u2 ρ 13 (m * 4 + r) x) 14 m (nI (r + 1))
theorem m_addRow (hrf : RFok rf) {m r : Nat} (hm : m < 6) (hr : ρ 14 m = nI r) (hr4 : r < 4) (x : Int32) : PC 20 [.ref 12, .int (nI m), .int x] (HP sl ρ rf) (some (.int (nI (r + 1)))) (HP sl (arS ρ m r x) rf) := by
  refine PC_of (cd := p_c_X1_addRow) (L0 := [some (.ref 12), some (.int (nI m)), some (.int x)]) rfl rfl ?_
  refine R_la0 rfl ?_
  refine R_getR rfl sh_12 rfl (rf_12_1 hrf) ?_
  refine R_ld1 rfl ?_
  refine R_n 4 rfl rfl ?_
  refine R_mulN rfl ?_
  refine R_la0 rfl ?_
  refine R_getR rfl sh_12 rfl (rf_12_2 hrf) ?_
  refine R_ld1 rfl ?_
  refine R_ald rfl sh_14 (by first | decide | omega) (by omega) hr ?_
  refine R_addN rfl ?_
  refine R_ld2 rfl ?_
  refine R_ast rfl sh_13 (by decide) (by omega) ?_
  refine R_la0 rfl ?_
  refine R_getR rfl sh_12 rfl (rf_12_2 hrf) ?_
  refine R_ld1 rfl ?_
  refine R_dup2 rfl ?_
  refine R_ald rfl sh_14 (by first | decide | omega) (by omega) (show _ = nI r from hr) ?_
  refine R_n 1 rfl rfl ?_
  refine R_addN rfl ?_
  refine R_ast rfl sh_14 (by decide) (by omega) ?_
  refine R_la0 rfl ?_
  refine R_getR rfl sh_12 rfl (rf_12_2 hrf) ?_
  refine R_ld1 rfl ?_
  refine R_ald rfl sh_14 (by first | decide | omega) (by omega) (show _ = nI (r + 1) from if_pos rfl) ?_
  exact R_iret rfl (rfl)

theorem m_inputsOfRows (hrf : RFok rf) {m r : Nat} (hm : m < 6) (hr : ρ 14 m = nI r) (hr4 : r ≤ 4) (x : Int32) : PC 22 [.ref 12, .int (nI m), .int x] (HP sl ρ rf) (some (.int (orA (rw0 ρ m) (bt x) r))) (HP sl ρ rf) := by
  have hl := down (n := r) (P := fun j => PW p_c_X1_inputsOfRows 4 [some (.ref 12), some (.int (nI m)), some (.int x), some (.int (orA (rw0 ρ m) (bt x) j)), some (.int (nI j))] [] (HP sl ρ rf) (fun zz => zz = ((some (.int (orA (rw0 ρ m) (bt x) r))), HP sl ρ rf))) ?_ ?_
  · refine PC_of (cd := p_c_X1_inputsOfRows) (L0 := [some (.ref 12), some (.int (nI m)), some (.int x), none, none]) rfl rfl ?_
    refine R_n 0 rfl rfl ?_
    refine R_st3 rfl ?_
    refine R_n 0 rfl rfl ?_
    refine R_st4 rfl ?_
    exact hl 0 (Nat.zero_le _)
  · refine R_ld4 rfl ?_
    refine R_la0 rfl ?_
    refine R_getR rfl sh_12 rfl (rf_12_2 hrf) ?_
    refine R_ld1 rfl ?_
    refine R_ald rfl sh_14 (by first | decide | omega) (by omega) hr ?_
    refine N2_geT rfl (by omega) (by omega) (by omega) ?_
    refine R_ld3 rfl ?_
    exact R_iret rfl (rfl)
  · intro j hj hnext
    refine R_ld4 rfl ?_
    refine R_la0 rfl ?_
    refine R_getR rfl sh_12 rfl (rf_12_2 hrf) ?_
    refine R_ld1 rfl ?_
    refine R_ald rfl sh_14 (by first | decide | omega) (by omega) hr ?_
    refine N2_geF rfl (by omega) (by omega) (hj) ?_
    refine R_ld2 rfl ?_
    refine R_ld4 rfl ?_
    refine R_c0 rfl (m_has _ (by omega)) rfl rfl rfl ?_
    refine BB_eq rfl (fun h13 => ?_) (fun h13 => ?_)
    · refine R_in4 rfl rfl ?_
      refine R_goto rfl ?_
      first | rw [orA_f h13] at hnext | rw [orA_t h13] at hnext
      exact hnext
    · refine R_ld3 rfl ?_
      refine R_la0 rfl ?_
      refine R_ld1 rfl ?_
      refine R_ld4 rfl ?_
      refine R_c1 rfl (m_rowAt hrf hm (by omega)) rfl rfl rfl sh_12 rfl rfl ?_
      refine R_or rfl ?_
      refine R_st3 rfl ?_
      refine R_in4 rfl rfl ?_
      refine R_goto rfl ?_
      first | rw [orA_f h13] at hnext | rw [orA_t h13] at hnext
      exact hnext

theorem m_inputsOf (hrf : RFok rf) {m r : Nat} (hm : m < 6) (hr : ρ 14 m = nI r) (hr4 : r ≤ 4) : PC 21 [.ref 12, .int (nI m)] (HP sl ρ rf) (some (.int (orA (rw0 ρ m) (fun _ => true) r))) (HP sl ρ rf) := by
  refine PC_of (cd := p_c_X1_inputsOf) (L0 := [some (.ref 12), some (.int (nI m))]) rfl rfl ?_
  refine R_la0 rfl ?_
  refine R_ld1 rfl ?_
  refine R_n 1 rfl rfl ?_
  refine R_la0 rfl ?_
  refine R_getR rfl sh_12 rfl (rf_12_2 hrf) ?_
  refine R_ld1 rfl ?_
  refine R_ald rfl sh_14 (by first | decide | omega) (by omega) hr ?_
  refine R_shl rfl ?_
  refine R_n 1 rfl rfl ?_
  refine R_sub rfl ?_
  refine R_c1 rfl (m_inputsOfRows hrf hm hr hr4 _) rfl rfl rfl sh_12 rfl rfl ?_
  exact R_iret rfl (lf_i (orA_cong (fun _ _ => rfl) (fun i hi => by rw [show ((nI 1) <<< (nI r &&& 31)) - nI 1 = M (fun i => decide (i < r)) from M_low r (by omega), M_bt _ (by omega)]; simp [show i < 16 by omega, hi])))

theorem m_isPerm (hrf : RFok rf) {m r : Nat} (hm : m < 6) (hr : ρ 14 m = nI r) (hr4 : r ≤ 4) (x : Int32) : PC 23 [.ref 12, .int (nI m), .int x] (HP sl ρ rf) (some (.int (bI (pmI (rw0 ρ m) r x)))) (HP sl ρ rf) := by
  have hl := down (n := r) (P := fun j => (∀ i, i < j → (fun j => decide (rw0 ρ m j &&& (x ^^^ (-1)) = 0)) i = false) → PW p_c_X1_isPermitted 2 [some (.ref 12), some (.int (nI m)), some (.int x), some (.int (nI j))] [] (HP sl ρ rf) (fun zz => zz = ((some (.int (bI (pmI (rw0 ρ m) r x)))), HP sl ρ rf))) ?_ ?_
  · refine PC_of (cd := p_c_X1_isPermitted) (L0 := [some (.ref 12), some (.int (nI m)), some (.int x), none]) rfl rfl ?_
    refine R_n 0 rfl rfl ?_
    refine R_st3 rfl ?_
    exact hl 0 (Nat.zero_le _) (fun i hi => absurd hi (Nat.not_lt_zero _))
  · intro hno
    refine R_ld3 rfl ?_
    refine R_la0 rfl ?_
    refine R_getR rfl sh_12 rfl (rf_12_2 hrf) ?_
    refine R_ld1 rfl ?_
    refine R_ald rfl sh_14 (by first | decide | omega) (by omega) hr ?_
    refine N2_geT rfl (by omega) (by omega) (by omega) ?_
    refine R_n 0 rfl rfl ?_
    exact R_zret0 rfl (lf_0 (an_f hno))
  · intro j hj hnext hno
    refine R_ld3 rfl ?_
    refine R_la0 rfl ?_
    refine R_getR rfl sh_12 rfl (rf_12_2 hrf) ?_
    refine R_ld1 rfl ?_
    refine R_ald rfl sh_14 (by first | decide | omega) (by omega) hr ?_
    refine N2_geF rfl (by omega) (by omega) (hj) ?_
    refine R_la0 rfl ?_
    refine R_ld1 rfl ?_
    refine R_ld3 rfl ?_
    refine R_c1 rfl (m_rowAt hrf hm (by omega)) rfl rfl rfl sh_12 rfl rfl ?_
    refine R_ld2 rfl ?_
    refine R_i rfl ?_
    refine R_xor rfl ?_
    refine R_and rfl ?_
    refine B1_ne rfl (fun h16 => ?_) (fun h16 => ?_)
    · refine R_in3 rfl rfl ?_
      refine R_goto rfl ?_
      refine hnext (fun i hi => ?_)
      by_cases hij : i = j
      · subst hij
        exact decide_eq_false h16
      · exact hno i (by omega)
    · refine R_n 1 rfl rfl ?_
      exact R_zret1 rfl (lf_1 (an_t (p := fun j => decide (rw0 ρ m j &&& (x ^^^ (-1)) = 0)) (decide_eq_true h16) hj))

theorem m_permitted (hrf : RFok rf) {rc : Nat → Nat} (hr : ∀ m, m < 6 → ρ 14 m = nI (rc m) ∧ rc m ≤ 4) (x : Int32) : PC 24 [.ref 12, .int x] (HP sl ρ rf) (some (.int (nI (fb_ct (fun m => pmI (rw0 ρ m) (rc m) x) 6)))) (HP sl ρ rf) := by
  have hl := down (n := 6) (P := fun j => PW p_c_X1_permittedOnes 4 [some (.ref 12), some (.int x), some (.int (nI (fb_ct (fun m => pmI (rw0 ρ m) (rc m) x) j))), some (.int (nI j))] [] (HP sl ρ rf) (fun zz => zz = ((some (.int (nI (fb_ct (fun m => pmI (rw0 ρ m) (rc m) x) 6)))), HP sl ρ rf))) ?_ ?_
  · refine PC_of (cd := p_c_X1_permittedOnes) (L0 := [some (.ref 12), some (.int x), none, none]) rfl rfl ?_
    refine R_n 0 rfl rfl ?_
    refine R_st2 rfl ?_
    refine R_n 0 rfl rfl ?_
    refine R_st3 rfl ?_
    exact hl 0 (Nat.zero_le _)
  · refine R_ld3 rfl ?_
    refine R_n 6 rfl rfl ?_
    refine N2_geT rfl (by omega) (by omega) (by omega) ?_
    refine R_ld2 rfl ?_
    exact R_iret rfl (rfl)
  · intro j hj hnext
    refine R_ld3 rfl ?_
    refine R_n 6 rfl rfl ?_
    refine N2_geF rfl (by omega) (by omega) (hj) ?_
    refine R_la0 rfl ?_
    refine R_ld3 rfl ?_
    refine R_ld1 rfl ?_
    refine R_c1 rfl (m_isPerm hrf hj (hr j hj).1 (hr j hj).2 x) rfl rfl rfl sh_12 rfl rfl ?_
    refine BB_eq rfl (fun h11 => ?_) (fun h11 => ?_)
    · refine R_in3 rfl rfl ?_
      refine R_goto rfl ?_
      first | rw [ct_f (f := fun m => pmI (rw0 ρ m) (rc m) x) h11] at hnext | rw [ct_t (f := fun m => pmI (rw0 ρ m) (rc m) x) h11] at hnext
      exact hnext
    · refine R_in2 rfl rfl ?_
      refine R_in3 rfl rfl ?_
      refine R_goto rfl ?_
      first | rw [ct_f (f := fun m => pmI (rw0 ρ m) (rc m) x) h11] at hnext | rw [ct_t (f := fun m => pmI (rw0 ρ m) (rc m) x) h11] at hnext
      exact hnext

theorem m_withFirst (hrf : RFok rf) : PC 25 [.ref 12] (HP sl ρ rf) (some (.int (nI (fb_ct (fun m => decide (¬ ρ 16 m = -1)) 6)))) (HP sl ρ rf) := by
  have hl := down (n := 6) (P := fun j => PW p_c_X1_withFirstOut 4 [some (.ref 12), some (.int (nI (fb_ct (fun m => decide (¬ ρ 16 m = -1)) j))), some (.int (nI j))] [] (HP sl ρ rf) (fun zz => zz = ((some (.int (nI (fb_ct (fun m => decide (¬ ρ 16 m = -1)) 6)))), HP sl ρ rf))) ?_ ?_
  · refine PC_of (cd := p_c_X1_withFirstOut) (L0 := [some (.ref 12), none, none]) rfl rfl ?_
    refine R_n 0 rfl rfl ?_
    refine R_st1 rfl ?_
    refine R_n 0 rfl rfl ?_
    refine R_st2 rfl ?_
    exact hl 0 (Nat.zero_le _)
  · refine R_ld2 rfl ?_
    refine R_n 6 rfl rfl ?_
    refine N2_geT rfl (by omega) (by omega) (by omega) ?_
    refine R_ld1 rfl ?_
    exact R_iret rfl (rfl)
  · intro j hj hnext
    refine R_ld2 rfl ?_
    refine R_n 6 rfl rfl ?_
    refine N2_geF rfl (by omega) (by omega) (hj) ?_
    refine R_la0 rfl ?_
    refine R_getR rfl sh_12 rfl (rf_12_4 hrf) ?_
    refine R_ld2 rfl ?_
    refine R_ald rfl sh_16 (by first | decide | omega) (by omega) rfl ?_
    refine R_i rfl ?_
    refine B2_eq rfl (fun h12 => ?_) (fun h12 => ?_)
    · refine R_in2 rfl rfl ?_
      refine R_goto rfl ?_
      first | rw [ct_f (show (fun m => decide (¬ ρ 16 m = -1)) j = false from decide_eq_false (fun q => q h12))] at hnext | rw [ct_t (show (fun m => decide (¬ ρ 16 m = -1)) j = true from decide_eq_true h12)] at hnext
      exact hnext
    · refine R_in1 rfl rfl ?_
      refine R_in2 rfl rfl ?_
      refine R_goto rfl ?_
      first | rw [ct_f (show (fun m => decide (¬ ρ 16 m = -1)) j = false from decide_eq_false (fun q => q h12))] at hnext | rw [ct_t (show (fun m => decide (¬ ρ 16 m = -1)) j = true from decide_eq_true h12)] at hnext
      exact hnext

theorem m_fewest (hrf : RFok rf) {m r : Nat} (hm : m < 6) (hr : ρ 14 m = nI r) (hr4 : r ≤ 4) (h1 : 1 ≤ r) (x0 : Int32) : PC 26 [.ref 12, .int (nI m), .int x0] (HP sl ρ rf) (some (.int (feA (rw0 ρ m) x0 (r - 1)))) (HP sl ρ rf) := by
  have hl := down (n := r - 1) (P := fun j => ∀ w : Option Value, PW p_c_X1_fewestOpen 11 [some (.ref 12), some (.int (nI m)), some (.int x0), some (.int (feA (rw0 ρ m) x0 j)), some (.int (nI (j + 1))), w] [] (HP sl ρ rf) (fun y => y = (some (.int (feA (rw0 ρ m) x0 (r - 1))), HP sl ρ rf))) ?_ ?_
  · refine PC_of (cd := p_c_X1_fewestOpen) (L0 := [some (.ref 12), some (.int (nI m)), some (.int x0), none, none, none]) rfl rfl ?_
    refine R_la0 rfl ?_
    refine R_ld1 rfl ?_
    refine R_n 0 rfl rfl ?_
    refine R_c1 rfl (m_rowAt hrf hm (by omega)) rfl rfl rfl sh_12 rfl rfl ?_
    refine R_ld2 rfl ?_
    refine R_i rfl ?_
    refine R_xor rfl ?_
    refine R_and rfl ?_
    refine R_st3 rfl ?_
    refine R_n 1 rfl rfl ?_
    refine R_st4 rfl ?_
    exact hl 0 (Nat.zero_le _) _
  · intro w
    refine R_ld4 rfl ?_
    refine R_la0 rfl ?_
    refine R_getR rfl sh_12 rfl (rf_12_2 hrf) ?_
    refine R_ld1 rfl ?_
    refine R_ald rfl sh_14 (by first | decide | omega) (by omega) hr ?_
    refine N2_geT rfl (by omega) (by omega) (by omega) ?_
    refine R_ld3 rfl ?_
    exact R_iret rfl (rfl)
  · intro j hj hnext w
    have e : feA (rw0 ρ m) x0 (j + 1) = if bcI (rw0 ρ m (j + 1) &&& (x0 ^^^ (-1))) < bcI (feA (rw0 ρ m) x0 j) then rw0 ρ m (j + 1) &&& (x0 ^^^ (-1)) else feA (rw0 ρ m) x0 j := rfl
    rw [e] at hnext
    refine R_ld4 rfl ?_
    refine R_la0 rfl ?_
    refine R_getR rfl sh_12 rfl (rf_12_2 hrf) ?_
    refine R_ld1 rfl ?_
    refine R_ald rfl sh_14 (by first | decide | omega) (by omega) hr ?_
    refine N2_geF rfl (by omega) (by omega) (by omega) ?_
    refine R_la0 rfl ?_
    refine R_ld1 rfl ?_
    refine R_ld4 rfl ?_
    refine R_c1 rfl (m_rowAt hrf hm (by omega)) rfl rfl rfl sh_12 rfl rfl ?_
    refine R_ld2 rfl ?_
    refine R_i rfl ?_
    refine R_xor rfl ?_
    refine R_and rfl ?_
    refine R_st5 rfl ?_
    refine R_ld5 rfl ?_
    refine R_c0 rfl (m_bc _) rfl rfl rfl ?_
    refine R_ld3 rfl ?_
    refine R_c0 rfl (m_bc _) rfl rfl rfl ?_
    refine B2_ge rfl (fun h30 => ?_) (fun h30 => ?_)
    · refine R_in4 rfl rfl ?_
      refine R_goto rfl ?_
      first | (rw [if_neg (Int32.not_lt.mpr h30)] at hnext; exact hnext _) | (rw [if_pos (Int32.not_le.mp h30)] at hnext; exact hnext _)
    · refine R_ld5 rfl ?_
      refine R_st3 rfl ?_
      refine R_in4 rfl rfl ?_
      refine R_goto rfl ?_
      first | (rw [if_neg (Int32.not_lt.mpr h30)] at hnext; exact hnext _) | (rw [if_pos (Int32.not_le.mp h30)] at hnext; exact hnext _)

theorem m_begin (hrf : RFok rf) {m : Nat} (hm : m < 6) : PC 27 [.ref 12, .int (nI m)] (HP sl ρ rf) none (HP sl (begS ρ m) rf) := by
  refine PC_of (cd := p_c_X1_begin) (L0 := [some (.ref 12), some (.int (nI m))]) rfl rfl ?_
  refine R_la0 rfl ?_
  refine R_la0 rfl ?_
  refine R_getI rfl sh_12 rfl rfl ?_
  refine R_ld1 rfl ?_
  refine R_n 1 rfl rfl ?_
  refine R_c0 rfl (m_with _ _ true) rfl rfl rfl ?_
  refine R_putI rfl sh_12 rfl ?_
  refine R_la0 rfl ?_
  refine R_getR rfl sh_12 rfl (rf_12_7 hrf) ?_
  refine R_ld1 rfl ?_
  refine R_dup2 rfl ?_
  refine R_ald rfl sh_19 (by first | decide | omega) (by omega) (show _ = ρ 19 m from rfl) ?_
  refine R_n 1 rfl rfl ?_
  refine R_add rfl ?_
  refine R_ast rfl sh_19 (by decide) (by omega) ?_
  refine R_la0 rfl ?_
  refine R_getR rfl sh_12 rfl (rf_12_8 hrf) ?_
  refine R_ld1 rfl ?_
  refine R_n 0 rfl rfl ?_
  refine R_ast rfl sh_20 (by decide) (by omega) ?_
  exact R_ret rfl (rfl)

theorem m_leastOpened (y b : Int32) : PC 29 [.int y, .int b] (HP sl ρ rf) (some (.int (loI y b))) (HP sl ρ rf) := by
  refine PC_of (cd := p_c_X1_leastOpened) (L0 := [some (.int y), some (.int b), none]) rfl rfl ?_
  refine R_ld0 rfl ?_
  refine R_ld1 rfl ?_
  refine R_and rfl ?_
  refine R_st2 rfl ?_
  refine R_ld2 rfl ?_
  refine B1_eq rfl (fun h5 => ?_) (fun h5 => ?_)
  · refine R_ld0 rfl ?_
    refine R_c0 rfl (m_least _) rfl rfl rfl ?_
    exact R_iret rfl (lf_i (by unfold loI; first | rw [if_pos h5] | rw [if_neg h5]))
  · refine R_ld2 rfl ?_
    refine R_goto rfl ?_
    refine R_c0 rfl (m_least _) rfl rfl rfl ?_
    exact R_iret rfl (lf_i (by unfold loI; first | rw [if_pos h5] | rw [if_neg h5]))

theorem m_stopUn (hrf : RFok rf) {rc : Nat → Nat} (hr : ∀ m, m < 6 → ρ 14 m = nI (rc m) ∧ rc m ≤ 4) (b x t : Int32) : PC 28 [.ref 12, .int b, .int x, .int t] (HP sl ρ rf) (some (.int (nI (fb_ct (suN ρ rc b x t) 6)))) (HP sl (suA ρ rc b x t 6) rf) := by
  have hl := down (n := 6) (P := fun j => PW p_c_X1_stopUnpermitted 4 [some (.ref 12), some (.int b), some (.int x), some (.int t), some (.int (nI (fb_ct (suN ρ rc b x t) j))), some (.int (nI j))] [] (HP sl (suA ρ rc b x t (j)) rf) (fun zz => zz = ((some (.int (nI (fb_ct (suN ρ rc b x t) 6)))), HP sl (suA ρ rc b x t 6) rf))) ?_ ?_
  · refine PC_of (cd := p_c_X1_stopUnpermitted) (L0 := [some (.ref 12), some (.int b), some (.int x), some (.int t), none, none]) rfl rfl ?_
    refine R_n 0 rfl rfl ?_
    refine R_st4 rfl ?_
    refine R_n 0 rfl rfl ?_
    refine R_st5 rfl ?_
    exact hl 0 (Nat.zero_le _)
  · refine R_ld5 rfl ?_
    refine R_n 6 rfl rfl ?_
    refine N2_geT rfl (by omega) (by omega) (by omega) ?_
    refine R_ld4 rfl ?_
    exact R_iret rfl (rfl)
  · intro j hj hnext
    refine R_ld5 rfl ?_
    refine R_n 6 rfl rfl ?_
    refine N2_geF rfl (by omega) (by omega) (hj) ?_
    refine R_la0 rfl ?_
    refine R_getI rfl sh_12 rfl rfl ?_
    refine R_ld5 rfl ?_
    refine R_c0 rfl (m_has _ (by omega)) rfl rfl rfl ?_
    refine BB_eq rfl (fun h11 => ?_) (fun h11 => ?_)
    · refine R_in5 rfl rfl ?_
      refine R_goto rfl ?_
      first | (obtain ⟨e0, e1⟩ := su_f1 h11; rw [ct_f e0, e1] at hnext; exact hnext) | (obtain ⟨e0, e1⟩ := su_f2 h16; rw [ct_f e0, e1] at hnext; exact hnext) | (obtain ⟨e0, e1⟩ := su_t h11 h16; rw [ct_t e0, e1] at hnext; exact hnext)
    · refine R_la0 rfl ?_
      refine R_ld5 rfl ?_
      refine R_ld2 rfl ?_
      refine R_c1 rfl (m_isPerm hrf hj (show (suA ρ rc b x t j) 14 j = nI (rc j) by rw [(suA_13 ρ rc b x t j).2]; exact (hr j hj).1) (hr j hj).2 x) rfl rfl rfl sh_12 rfl rfl ?_
      refine BB_ne rfl (fun h16 => ?_) (fun h16 => ?_)
      · refine R_in5 rfl rfl ?_
        refine R_goto rfl ?_
        first | (obtain ⟨e0, e1⟩ := su_f1 h11; rw [ct_f e0, e1] at hnext; exact hnext) | (obtain ⟨e0, e1⟩ := su_f2 h16; rw [ct_f e0, e1] at hnext; exact hnext) | (obtain ⟨e0, e1⟩ := su_t h11 h16; rw [ct_t e0, e1] at hnext; exact hnext)
      · refine R_la0 rfl ?_
        refine R_la0 rfl ?_
        refine R_getI rfl sh_12 rfl rfl ?_
        refine R_ld5 rfl ?_
        refine R_n 0 rfl rfl ?_
        refine R_c0 rfl (m_with _ _ false) rfl rfl rfl ?_
        refine R_putI rfl sh_12 rfl ?_
        refine R_la0 rfl ?_
        refine R_getR rfl sh_12 rfl (rf_12_4 hrf) ?_
        refine R_ld5 rfl ?_
        refine R_la0 rfl ?_
        refine R_ld5 rfl ?_
        refine R_c1 rfl (m_inputsOf hrf hj (show (u2 (suA ρ rc b x t j) 12 0 (wI (suA ρ rc b x t j 12 0) j false)) 14 j = nI (rc j) from (by rw [u2_ne (by decide), (suA_13 ρ rc b x t j).2]; exact (hr j hj).1)) (hr j hj).2) rfl rfl rfl sh_12 rfl rfl ?_
        refine R_ld2 rfl ?_
        refine R_i rfl ?_
        refine R_xor rfl ?_
        refine R_and rfl ?_
        refine R_ld1 rfl ?_
        refine R_c0 rfl (m_leastOpened _ _) rfl rfl rfl ?_
        refine R_ast rfl sh_16 (by decide) (by omega) ?_
        refine R_la0 rfl ?_
        refine R_getR rfl sh_12 rfl (rf_12_5 hrf) ?_
        refine R_ld5 rfl ?_
        refine R_ld3 rfl ?_
        refine R_ast rfl sh_17 (by decide) (by omega) ?_
        refine R_la0 rfl ?_
        refine R_getR rfl sh_12 rfl (rf_12_6 hrf) ?_
        refine R_ld5 rfl ?_
        refine R_dup2 rfl ?_
        refine R_ald rfl sh_18 (by first | decide | omega) (by omega) (show _ = suA ρ rc b x t j 18 j from rfl) ?_
        refine R_n 1 rfl rfl ?_
        refine R_add rfl ?_
        refine R_ast rfl sh_18 (by decide) (by omega) ?_
        refine R_in4 rfl rfl ?_
        refine R_in5 rfl rfl ?_
        refine R_goto rfl ?_
        first | (obtain ⟨e0, e1⟩ := su_f1 h11; rw [ct_f e0, e1] at hnext; exact hnext) | (obtain ⟨e0, e1⟩ := su_f2 h16; rw [ct_f e0, e1] at hnext; exact hnext) | (obtain ⟨e0, e1⟩ := su_t h11 h16; rw [ct_t e0, e1] at hnext; exact hnext)

theorem m_countTick (hrf : RFok rf) : PC 30 [.ref 12] (HP sl ρ rf) none (HP sl (ctA ρ 6) rf) := by
  have hl := down (n := 6) (P := fun j => PW p_c_X1_countTick 2 [some (.ref 12), some (.int (nI j))] [] (HP sl (ctA ρ (j)) rf) (fun zz => zz = (none, HP sl (ctA ρ 6) rf))) ?_ ?_
  · refine PC_of (cd := p_c_X1_countTick) (L0 := [some (.ref 12), none]) rfl rfl ?_
    refine R_n 0 rfl rfl ?_
    refine R_st1 rfl ?_
    exact hl 0 (Nat.zero_le _)
  · refine R_ld1 rfl ?_
    refine R_n 6 rfl rfl ?_
    refine N2_geT rfl (by omega) (by omega) (by omega) ?_
    exact R_ret rfl (rfl)
  · intro j hj hnext
    refine R_ld1 rfl ?_
    refine R_n 6 rfl rfl ?_
    refine N2_geF rfl (by omega) (by omega) (hj) ?_
    refine R_la0 rfl ?_
    refine R_getI rfl sh_12 rfl rfl ?_
    refine R_ld1 rfl ?_
    refine R_c0 rfl (m_has _ (by omega)) rfl rfl rfl ?_
    refine BB_eq rfl (fun h9 => ?_) (fun h9 => ?_)
    · refine R_in1 rfl rfl ?_
      refine R_goto rfl ?_
      first | (rw [show ctA ρ (j + 1) = ctA ρ j from if_neg (by rw [h9]; exact Bool.false_ne_true)] at hnext; exact hnext) | (rw [show ctA ρ (j + 1) = _ from if_pos h9] at hnext; exact hnext)
    · refine R_la0 rfl ?_
      refine R_getR rfl sh_12 rfl (rf_12_8 hrf) ?_
      refine R_ld1 rfl ?_
      refine R_dup2 rfl ?_
      refine R_ald rfl sh_20 (by first | decide | omega) (by omega) rfl ?_
      refine R_n 1 rfl rfl ?_
      refine R_add rfl ?_
      refine R_ast rfl sh_20 (by decide) (by omega) ?_
      refine R_la0 rfl ?_
      refine R_getR rfl sh_12 rfl (rf_12_9 hrf) ?_
      refine R_ld1 rfl ?_
      refine R_dup2 rfl ?_
      refine R_ald rfl sh_21 (by first | decide | omega) (by omega) rfl ?_
      refine R_n 1 rfl rfl ?_
      refine R_add rfl ?_
      refine R_ast rfl sh_21 (by decide) (by omega) ?_
      refine R_in1 rfl rfl ?_
      refine R_goto rfl ?_
      first | (rw [show ctA ρ (j + 1) = ctA ρ j from if_neg (by rw [h9]; exact Bool.false_ne_true)] at hnext; exact hnext) | (rw [show ctA ρ (j + 1) = _ from if_pos h9] at hnext; exact hnext)

end
