/-! one call in both, on: ways, waysAgain -/

theorem land_e (x y : Nat) {e f : Nat} (he : e < 2) (hf : f < 2) : (2 * x + e) &&& (2 * y + f) = 2 * (x &&& y) + e * f := by
  have hef : e * f < 2 := by
    rcases (show e = 0 ∨ e = 1 by omega) with rfl | rfl <;> omega
  apply Nat.eq_of_testBit_eq
  intro i
  cases i with
  | zero =>
    rw [Nat.testBit_and, Nat.testBit_zero, Nat.testBit_zero, Nat.testBit_zero]
    rcases (show e = 0 ∨ e = 1 by omega) with rfl | rfl <;> rcases (show f = 0 ∨ f = 1 by omega) with rfl | rfl <;> simp <;> omega
  | succ i =>
    rw [Nat.testBit_and, Nat.testBit_succ, Nat.testBit_succ, Nat.testBit_succ, show (2 * x + e) / 2 = x by omega, show (2 * y + f) / 2 = y by omega, show (2 * (x &&& y) + e * f) / 2 = x &&& y by omega, Nat.testBit_and]
/-- the j-th of the sets of members of a, upwards -/
def dep : Nat → Nat → Nat → Nat
  | 0, _, _ => 0
  | k + 1, a, j => if a % 2 = 1 then 2 * dep k (a / 2) (j / 2) + j % 2 else 2 * dep k (a / 2) j
theorem dep_o {k b j : Nat} : dep (k + 1) (2 * b + 1) j = 2 * dep k b (j / 2) + j % 2 := by
  show (if _ then _ else _) = _
  rw [if_pos (by omega), show (2 * b + 1) / 2 = b by omega]
theorem dep_e {k b j : Nat} : dep (k + 1) (2 * b) j = 2 * dep k b j := by
  show (if _ then _ else _) = _
  rw [if_neg (by omega), show 2 * b / 2 = b by omega]
theorem dep_0 : ∀ k a, dep k a 0 = 0
  | 0, _ => rfl
  | k + 1, a => by
    unfold dep
    split
    · rw [show 0 / 2 = 0 from rfl, dep_0 k]
    · rw [dep_0 k]
theorem pop_o (k b : Nat) : popN (k + 1) (2 * b + 1) = popN k b + 1 := by
  show (2 * b + 1) % 2 + popN k ((2 * b + 1) / 2) = _
  rw [show (2 * b + 1) / 2 = b by omega]
  omega
theorem pop_e (k b : Nat) : popN (k + 1) (2 * b) = popN k b := by
  show 2 * b % 2 + popN k (2 * b / 2) = _
  rw [show 2 * b / 2 = b by omega]
  omega
theorem par (a : Nat) : ∃ b, a = 2 * b ∨ a = 2 * b + 1 := ⟨a / 2, by omega⟩
theorem dep_sub : ∀ k a j, dep k a j &&& a = dep k a j
  | 0, a, j => Nat.zero_and a
  | k + 1, a, j => by
    obtain ⟨b, rfl | rfl⟩ := par a
    · rw [dep_e]
      have := land_e (dep k b j) b (e := 0) (f := 0) (by decide) (by decide)
      rw [dep_sub k b j] at this
      exact this
    · rw [dep_o, land_e _ _ (by omega) (by decide), dep_sub k b]
      omega
theorem dep_full : ∀ k a, a < 2 ^ k → dep k a (2 ^ popN k a - 1) = a
  | 0, a, h => by
    have : a = 0 := by simpa using h
    rw [this]
    rfl
  | k + 1, a, h => by
    rw [Nat.pow_succ] at h
    obtain ⟨b, rfl | rfl⟩ := par a
    · rw [dep_e, pop_e, dep_full k b (by omega)]
    · have hp : 1 ≤ 2 ^ popN k b := Nat.one_le_two_pow
      rw [dep_o, pop_o, Nat.pow_succ, show (2 ^ popN k b * 2 - 1) / 2 = 2 ^ popN k b - 1 by omega, show (2 ^ popN k b * 2 - 1) % 2 = 1 by omega, dep_full k b (by omega)]
theorem dep_pos : ∀ k a j, 0 < j → j < 2 ^ popN k a → 0 < dep k a j
  | 0, a, j, h, h2 => by
    have : j < 1 := h2
    omega
  | k + 1, a, j, h, h2 => by
    obtain ⟨b, rfl | rfl⟩ := par a
    · rw [pop_e] at h2
      rw [dep_e]
      have := dep_pos k b j h h2
      omega
    · rw [pop_o, Nat.pow_succ] at h2
      rw [dep_o]
      by_cases e : j / 2 = 0
      · omega
      · have := dep_pos k b (j / 2) (by omega) (by omega)
        omega
theorem dep_dn : ∀ k a j, 0 < j → j < 2 ^ popN k a → (dep k a j - 1) &&& a = dep k a (j - 1)
  | 0, a, j, h, h2 => by
    have : j < 1 := h2
    omega
  | k + 1, a, j, h, h2 => by
    obtain ⟨b, rfl | rfl⟩ := par a
    · rw [pop_e] at h2
      rw [dep_e, dep_e]
      have hp := dep_pos k b j h h2
      have := land_e (dep k b j - 1) b (e := 1) (f := 0) (by decide) (by decide)
      rw [dep_dn k b j h h2] at this
      rw [show 2 * dep k b j - 1 = 2 * (dep k b j - 1) + 1 by omega]
      exact this
    · rw [pop_o, Nat.pow_succ] at h2
      rw [dep_o, dep_o]
      by_cases e : j % 2 = 1
      · rw [e, show (j - 1) / 2 = j / 2 by omega, show (j - 1) % 2 = 0 by omega]
        have := land_e (dep k b (j / 2)) b (e := 0) (f := 1) (by decide) (by decide)
        rw [dep_sub] at this
        exact this
      · have hp := dep_pos k b (j / 2) (by omega) (by omega)
        have := land_e (dep k b (j / 2) - 1) b (e := 1) (f := 1) (by decide) (by decide)
        rw [dep_dn k b (j / 2) (by omega) (by omega)] at this
        rw [show 2 * dep k b (j / 2) + j % 2 - 1 = 2 * (dep k b (j / 2) - 1) + 1 by omega, show (j - 1) / 2 = j / 2 - 1 by omega, show (j - 1) % 2 = 1 by omega]
        exact this
theorem dep_c : ∀ k a j K, a < 2 ^ k → k ≤ K → (dep k a j + (2 ^ K - 1 - a)) &&& a = dep k a j
  | 0, a, j, K, h, _ => by
    have : a = 0 := by simpa using h
    rw [this]
    exact Nat.and_zero _
  | k + 1, a, j, K, h, hK => by
    obtain ⟨K', rfl⟩ : ∃ K', K = K' + 1 := ⟨K - 1, by omega⟩
    have hp : 2 ^ k ≤ 2 ^ K' := Nat.pow_le_pow_right (by decide) (by omega)
    rw [Nat.pow_succ] at h
    obtain ⟨b, rfl | rfl⟩ := par a
    · rw [dep_e, Nat.pow_succ]
      have := land_e (dep k b j + (2 ^ K' - 1 - b)) b (e := 1) (f := 0) (by decide) (by decide)
      rw [dep_c k b j K' (by omega) (by omega)] at this
      rw [show 2 * dep k b j + (2 ^ K' * 2 - 1 - 2 * b) = 2 * (dep k b j + (2 ^ K' - 1 - b)) + 1 by omega]
      exact this
    · rw [dep_o, Nat.pow_succ]
      have := land_e (dep k b (j / 2) + (2 ^ K' - 1 - b)) b (e := j % 2) (f := 1) (by omega) (by decide)
      rw [dep_c k b (j / 2) K' (by omega) (by omega)] at this
      rw [show 2 * dep k b (j / 2) + j % 2 + (2 ^ K' * 2 - 1 - (2 * b + 1)) = 2 * (dep k b (j / 2) + (2 ^ K' - 1 - b)) + j % 2 by omega, this, Nat.mul_one]
theorem dep_up : ∀ k a j K, a < 2 ^ k → k ≤ K → j + 1 < 2 ^ popN k a → (dep k a j + (2 ^ K - a)) &&& a = dep k a (j + 1)
  | 0, a, j, K, h, _, h2 => by
    have : j + 1 < 1 := h2
    omega
  | k + 1, a, j, K, h, hK, h2 => by
    obtain ⟨K', rfl⟩ : ∃ K', K = K' + 1 := ⟨K - 1, by omega⟩
    have hp : 2 ^ k ≤ 2 ^ K' := Nat.pow_le_pow_right (by decide) (by omega)
    rw [Nat.pow_succ] at h
    obtain ⟨b, rfl | rfl⟩ := par a
    · rw [pop_e] at h2
      rw [dep_e, dep_e, Nat.pow_succ]
      have := land_e (dep k b j + (2 ^ K' - b)) b (e := 0) (f := 0) (by decide) (by decide)
      rw [dep_up k b j K' (by omega) (by omega) h2] at this
      rw [show 2 * dep k b j + (2 ^ K' * 2 - 2 * b) = 2 * (dep k b j + (2 ^ K' - b)) + 0 by omega]
      exact this
    · rw [pop_o, Nat.pow_succ] at h2
      rw [dep_o, dep_o, Nat.pow_succ]
      by_cases e : j % 2 = 1
      · have := land_e (dep k b (j / 2) + (2 ^ K' - b)) b (e := 0) (f := 1) (by decide) (by decide)
        rw [dep_up k b (j / 2) K' (by omega) (by omega) (by omega)] at this
        rw [show 2 * dep k b (j / 2) + j % 2 + (2 ^ K' * 2 - (2 * b + 1)) = 2 * (dep k b (j / 2) + (2 ^ K' - b)) + 0 by omega, this, show (j + 1) / 2 = j / 2 + 1 by omega, show (j + 1) % 2 = 0 by omega]
      · have := land_e (dep k b (j / 2) + (2 ^ K' - 1 - b)) b (e := 1) (f := 1) (by decide) (by decide)
        rw [dep_c k b (j / 2) K' (by omega) (by omega)] at this
        rw [show 2 * dep k b (j / 2) + j % 2 + (2 ^ K' * 2 - (2 * b + 1)) = 2 * (dep k b (j / 2) + (2 ^ K' - 1 - b)) + 1 by omega, this, show (j + 1) / 2 = j / 2 by omega, show (j + 1) % 2 = 1 by omega]
theorem nI_sub32 {s a : Nat} (ha : a ≤ 2 ^ 32) : nI s - nI a = nI (s + (2 ^ 32 - a)) := by
  rw [← nI_add]
  have h : nI (2 ^ 32 - a) + nI a = 0 := by
    rw [nI_add, show 2 ^ 32 - a + a = 2 ^ 32 by omega]
    decide
  have h2 : nI s - nI a = nI s - nI a + (nI (2 ^ 32 - a) + nI a) := by rw [h, Int32.add_zero]
  rw [h2, Int32.add_comm (nI (2 ^ 32 - a)) (nI a), ← Int32.add_assoc, Int32.sub_add_cancel]
theorem sb_dep {a : Nat} (ha : a < 65536) : ∀ j, j < 2 ^ popN 16 a → sbA (nI a) j = nI (dep 16 a j)
  | 0, _ => by rw [dep_0]; rfl
  | j + 1, h => by
    show (sbA (nI a) j - nI a) &&& nI a = _
    rw [sb_dep ha j (by omega), nI_sub32 (by omega), nI_and, dep_up 16 a j 32 ha (by decide) h]
theorem ct_rev (p : Nat → Bool) : ∀ n, fb_ct (fun j => p (n - 1 - j)) n = fb_ct p n := fun n => by
  have h : ∀ k, k ≤ n → fb_ct (fun j => p (n - 1 - j)) k + fb_ct p (n - k) = fb_ct p n := fun k => by
    induction k with
    | zero => intro _; show 0 + fb_ct p (n - 0) = _; rw [Nat.zero_add, Nat.sub_zero]
    | succ k ih =>
      intro hk
      rw [← ih (by omega), fb_ct_succ, show n - k = (n - (k + 1)) + 1 by omega, fb_ct_succ, show n - 1 - k = n - (k + 1) by omega]
      omega
  have := h n (Nat.le_refl _)
  rw [Nat.sub_self] at this
  exact this
section
variable {sl : Nat} {s : Nat → Int32} {ρ ρr ρn ρt σ : pR} {rf : pF} {n : Nat} {rc : Nat → Nat}
theorem x_ways_bad (x : Int32) (h : inR 6 x = false) : PC 147 [.ref 146, .int x] (HP sl ρ rf) (some (.int (-1))) (HP sl ρ rf) := by
  refine PC_of (cd := p_c_X5_ways) (L0 := [some (.ref 146), some (.int x), none, none, none, none]) rfl rfl ?_
  refine R_ld1 rfl ?_
  refine R_c0 rfl (x_isMotion _) rfl rfl rfl ?_
  refine BB_ne rfl (fun g2 => ?_) (fun g2 => ?_)
  · revert h; simp_all
  · refine R_i rfl ?_
    exact R_iret rfl (rfl)

theorem x_wag_bad (x : Int32) (h : inR 6 x = false) : PC 148 [.ref 146, .int x] (HP sl ρ rf) (some (.int (-1))) (HP sl ρ rf) := by
  refine PC_of (cd := p_c_X5_waysAgain) (L0 := [some (.ref 146), some (.int x), none, none, none, none, none]) rfl rfl ?_
  refine R_ld1 rfl ?_
  refine R_c0 rfl (x_isMotion _) rfl rfl rfl ?_
  refine BB_ne rfl (fun g2 => ?_) (fun g2 => ?_)
  · revert h; simp_all
  · refine R_i rfl ?_
    exact R_iret rfl (rfl)

theorem x_ways_full (hrf : RFok rf) (hR : Rel σ (ρ 147) n rc) {m : Nat} (hm : m < 6) {a p : Nat} (ha : a < 65536) (hA : (orA (rw0 σ m) (fun _ => true) (rc m)) = nI a) (hp : popN 16 a = p) (h : 12 < p) (h2 : p ≤ 16) : PC 147 [.ref 146, .int (nI m)] (HP sl ρ rf) (some (.int (-3))) (HP sl ρ rf) := by
  have h16 := hR.b.1
  refine PC_of (cd := p_c_X5_ways) (L0 := [some (.ref 146), some (.int (nI m)), none, none, none, none]) rfl rfl ?_
  refine R_ld1 rfl ?_
  refine R_c0 rfl (x_isMotion _) rfl rfl rfl ?_
  refine BB_neT rfl (inR_N hm (by omega)) ?_
  refine R_la0 rfl ?_
  refine R_ld1 rfl ?_
  refine R_c1 rfl (x_inputsOf hrf hR hm) rfl rfl rfl sh_146 rfl rfl ?_
  rw [hA]
  show PW _ _ _ (.int (nI a) :: _) _ _
  refine R_st2 rfl ?_
  refine R_ld2 rfl ?_
  refine R_c0 rfl (x_bitsN ha) rfl rfl rfl ?_
  rw [hp]
  refine R_n 12 rfl rfl ?_
  refine N2_leF rfl (by omega) (by omega) (by omega) ?_
  refine R_i rfl ?_
  exact R_iret rfl (rfl)

theorem x_wag_full (hrf : RFok rf) (hR : Rel σ (ρ 147) n rc) {m : Nat} (hm : m < 6) {a p : Nat} (ha : a < 65536) (hA : (orA (rw0 σ m) (fun _ => true) (rc m)) = nI a) (hp : popN 16 a = p) (h : 12 < p) (h2 : p ≤ 16) : PC 148 [.ref 146, .int (nI m)] (HP sl ρ rf) (some (.int (-3))) (HP sl ρ rf) := by
  have h16 := hR.b.1
  refine PC_of (cd := p_c_X5_waysAgain) (L0 := [some (.ref 146), some (.int (nI m)), none, none, none, none, none]) rfl rfl ?_
  refine R_ld1 rfl ?_
  refine R_c0 rfl (x_isMotion _) rfl rfl rfl ?_
  refine BB_neT rfl (inR_N hm (by omega)) ?_
  refine R_la0 rfl ?_
  refine R_ld1 rfl ?_
  refine R_c1 rfl (x_inputsOf hrf hR hm) rfl rfl rfl sh_146 rfl rfl ?_
  rw [hA]
  show PW _ _ _ (.int (nI a) :: _) _ _
  refine R_c0 rfl (x_bitsN ha) rfl rfl rfl ?_
  rw [hp]
  refine R_st2 rfl ?_
  refine R_ld2 rfl ?_
  refine R_n 12 rfl rfl ?_
  refine N2_leF rfl (by omega) (by omega) (by omega) ?_
  refine R_i rfl ?_
  exact R_iret rfl (rfl)

theorem ways_n {a j : Nat} (ha : a < 65536) (hj : j < 2 ^ popN 16 a) (h0 : 0 < j) : ¬ nI (dep 16 a j) = 0 := by
  have h1 := dep_pos 16 a j h0 hj
  have h2 : dep 16 a j ≤ a := by
    have := dep_sub 16 a j
    rw [← this]
    exact Nat.and_le_right
  exact nI_ne0 h1 (by omega)
theorem ways_p {a j P : Nat} (hj : j < P) (h : ¬ nI (dep 16 a (P - 1 - j)) = 0) : j + 1 < P := by
  by_cases e : j + 1 < P
  · exact e
  · exfalso
    rw [show P - 1 - j = 0 by omega, dep_0] at h
    exact h rfl
theorem x_ways_ok (hrf : RFok rf) (hR : Rel σ (ρ 147) n rc) {m : Nat} (hm : m < 6) {a p : Nat} (ha : a < 65536) (hA : (orA (rw0 σ m) (fun _ => true) (rc m)) = nI a) (hp : popN 16 a = p) (h : p ≤ 12) {P : Nat} (hP : 2 ^ p = P) (hP2 : P ≤ 4096) (hP0 : 0 < P) : PC 147 [.ref 146, .int (nI m)] (HP sl ρ rf) (some (.int (nI (fb_ct (fun j => (fun t => pmI (rw0 σ m) (rc m) (nI (dep 16 a t))) (P - 1 - j)) P)))) (HP sl ρ rf) := by
  have hl := down (n := P) (P := fun j => ∀ x : Int32, (j < P → x = nI (dep 16 a (P - 1 - j))) → PW p_c_X5_ways 21 [some (.ref 146), some (.int (nI m)), some (.int (nI a)), some (.int (nI (fb_ct (fun j => (fun t => pmI (rw0 σ m) (rc m) (nI (dep 16 a t))) (P - 1 - j)) (j)))), some (.int x), some (.int (if j < P then nI 1 else nI 0))] [] (HP sl ρ rf) (fun zz => zz = (some (.int (nI (fb_ct (fun j => (fun t => pmI (rw0 σ m) (rc m) (nI (dep 16 a t))) (P - 1 - j)) P))), HP sl ρ rf))) ?_ ?_
  · refine PC_of (cd := p_c_X5_ways) (L0 := [some (.ref 146), some (.int (nI m)), none, none, none, none]) rfl rfl ?_
    refine R_ld1 rfl ?_
    refine R_c0 rfl (x_isMotion _) rfl rfl rfl ?_
    refine BB_neT rfl (inR_N hm (by omega)) ?_
    refine R_la0 rfl ?_
    refine R_ld1 rfl ?_
    refine R_c1 rfl (x_inputsOf hrf hR hm) rfl rfl rfl sh_146 rfl rfl ?_
    rw [hA]
    show PW _ _ _ (.int (nI a) :: _) _ _
    refine R_st2 rfl ?_
    refine R_ld2 rfl ?_
    refine R_c0 rfl (x_bitsN ha) rfl rfl rfl ?_
    rw [hp]
    refine R_n 12 rfl rfl ?_
    refine N2_leT rfl (by omega) (by omega) (by omega) ?_
    refine R_n 0 rfl rfl ?_
    refine R_st3 rfl ?_
    refine R_ld2 rfl ?_
    refine R_st4 rfl ?_
    refine R_n 1 rfl rfl ?_
    refine R_st5 rfl ?_
    have h0 := hl 0 (Nat.zero_le _) (nI a) (fun _ => by rw [← hP, ← hp, Nat.sub_zero, dep_full 16 a ha])
    rw [if_pos (by omega)] at h0
    exact h0
  · intro x _
    rw [if_neg (Nat.lt_irrefl P)]
    refine R_ld5 rfl ?_
    refine B1_eqT rfl (rfl) ?_
    refine R_ld3 rfl ?_
    exact R_iret rfl (rfl)
  · intro j hj hnext x hx
    rw [hx hj, if_pos hj]
    refine R_ld5 rfl ?_
    refine B1_eqF rfl (by decide) ?_
    refine R_ld3 rfl ?_
    refine R_la0 rfl ?_
    refine R_ld1 rfl ?_
    refine R_ld4 rfl ?_
    refine R_c1 rfl (x_isPerm hrf hR hm _) rfl rfl rfl sh_146 rfl rfl ?_
    refine BB_eq rfl (fun h28 => ?_) (fun h28 => ?_)
    · refine R_n 0 rfl rfl ?_
      refine R_addN rfl ?_
      refine R_st3 rfl ?_
      refine R_ld4 rfl ?_
      refine B1_eq rfl (fun h35 => ?_) (fun h35 => ?_)
      · refine R_n 0 rfl rfl ?_
        refine R_st5 rfl ?_
        refine R_ld4 rfl ?_
        refine R_n 1 rfl rfl ?_
        refine R_sub rfl ?_
        skip
        refine R_ld2 rfl ?_
        refine R_and rfl ?_
        refine R_st4 rfl ?_
        refine R_goto rfl ?_
        first
          | rw [show fb_ct (fun j => (fun t => pmI (rw0 σ m) (rc m) (nI (dep 16 a t))) (P - 1 - j)) (j + 1) = fb_ct (fun j => (fun t => pmI (rw0 σ m) (rc m) (nI (dep 16 a t))) (P - 1 - j)) j + 1 from ct_t (f := (fun j => (fun t => pmI (rw0 σ m) (rc m) (nI (dep 16 a t))) (P - 1 - j))) h28] at hnext
          | rw [show fb_ct (fun j => (fun t => pmI (rw0 σ m) (rc m) (nI (dep 16 a t))) (P - 1 - j)) (j + 1) = fb_ct (fun j => (fun t => pmI (rw0 σ m) (rc m) (nI (dep 16 a t))) (P - 1 - j)) j from ct_f (f := (fun j => (fun t => pmI (rw0 σ m) (rc m) (nI (dep 16 a t))) (P - 1 - j))) h28] at hnext
        first
          | (have hP1 : ¬ j + 1 < P := fun q => ways_n ha (by rw [hp, hP]; omega) (by omega) h35
             have hn := hnext ((nI (dep 16 a (P - 1 - j)) - nI 1) &&& nI a) (fun q => absurd q hP1)
             rw [if_neg hP1] at hn
             exact hn)
          | (have hP1 : j + 1 < P := ways_p hj h35
             have hd := dep_dn 16 a (P - 1 - j) (by omega) (by rw [hp, hP]; omega)
             have hpos := dep_pos 16 a (P - 1 - j) (by omega) (by rw [hp, hP]; omega)
             have hn := hnext ((nI (dep 16 a (P - 1 - j)) - nI 1) &&& nI a) (fun _ => by rw [show nI (dep 16 a (P - 1 - j)) - nI 1 = nI (dep 16 a (P - 1 - j) - 1) from pk_sub hpos, nI_and, hd, show P - 1 - (j + 1) = P - 1 - j - 1 by omega])
             rw [if_pos hP1] at hn
             exact hn)
      · refine R_n 1 rfl rfl ?_
        refine R_goto rfl ?_
        refine R_st5 rfl ?_
        refine R_ld4 rfl ?_
        refine R_n 1 rfl rfl ?_
        refine R_sub rfl ?_
        skip
        refine R_ld2 rfl ?_
        refine R_and rfl ?_
        refine R_st4 rfl ?_
        refine R_goto rfl ?_
        first
          | rw [show fb_ct (fun j => (fun t => pmI (rw0 σ m) (rc m) (nI (dep 16 a t))) (P - 1 - j)) (j + 1) = fb_ct (fun j => (fun t => pmI (rw0 σ m) (rc m) (nI (dep 16 a t))) (P - 1 - j)) j + 1 from ct_t (f := (fun j => (fun t => pmI (rw0 σ m) (rc m) (nI (dep 16 a t))) (P - 1 - j))) h28] at hnext
          | rw [show fb_ct (fun j => (fun t => pmI (rw0 σ m) (rc m) (nI (dep 16 a t))) (P - 1 - j)) (j + 1) = fb_ct (fun j => (fun t => pmI (rw0 σ m) (rc m) (nI (dep 16 a t))) (P - 1 - j)) j from ct_f (f := (fun j => (fun t => pmI (rw0 σ m) (rc m) (nI (dep 16 a t))) (P - 1 - j))) h28] at hnext
        first
          | (have hP1 : ¬ j + 1 < P := fun q => ways_n ha (by rw [hp, hP]; omega) (by omega) h35
             have hn := hnext ((nI (dep 16 a (P - 1 - j)) - nI 1) &&& nI a) (fun q => absurd q hP1)
             rw [if_neg hP1] at hn
             exact hn)
          | (have hP1 : j + 1 < P := ways_p hj h35
             have hd := dep_dn 16 a (P - 1 - j) (by omega) (by rw [hp, hP]; omega)
             have hpos := dep_pos 16 a (P - 1 - j) (by omega) (by rw [hp, hP]; omega)
             have hn := hnext ((nI (dep 16 a (P - 1 - j)) - nI 1) &&& nI a) (fun _ => by rw [show nI (dep 16 a (P - 1 - j)) - nI 1 = nI (dep 16 a (P - 1 - j) - 1) from pk_sub hpos, nI_and, hd, show P - 1 - (j + 1) = P - 1 - j - 1 by omega])
             rw [if_pos hP1] at hn
             exact hn)
    · refine R_n 1 rfl rfl ?_
      refine R_goto rfl ?_
      refine R_addN rfl ?_
      refine R_st3 rfl ?_
      refine R_ld4 rfl ?_
      refine B1_eq rfl (fun h35 => ?_) (fun h35 => ?_)
      · refine R_n 0 rfl rfl ?_
        refine R_st5 rfl ?_
        refine R_ld4 rfl ?_
        refine R_n 1 rfl rfl ?_
        refine R_sub rfl ?_
        skip
        refine R_ld2 rfl ?_
        refine R_and rfl ?_
        refine R_st4 rfl ?_
        refine R_goto rfl ?_
        first
          | rw [show fb_ct (fun j => (fun t => pmI (rw0 σ m) (rc m) (nI (dep 16 a t))) (P - 1 - j)) (j + 1) = fb_ct (fun j => (fun t => pmI (rw0 σ m) (rc m) (nI (dep 16 a t))) (P - 1 - j)) j + 1 from ct_t (f := (fun j => (fun t => pmI (rw0 σ m) (rc m) (nI (dep 16 a t))) (P - 1 - j))) h28] at hnext
          | rw [show fb_ct (fun j => (fun t => pmI (rw0 σ m) (rc m) (nI (dep 16 a t))) (P - 1 - j)) (j + 1) = fb_ct (fun j => (fun t => pmI (rw0 σ m) (rc m) (nI (dep 16 a t))) (P - 1 - j)) j from ct_f (f := (fun j => (fun t => pmI (rw0 σ m) (rc m) (nI (dep 16 a t))) (P - 1 - j))) h28] at hnext
        first
          | (have hP1 : ¬ j + 1 < P := fun q => ways_n ha (by rw [hp, hP]; omega) (by omega) h35
             have hn := hnext ((nI (dep 16 a (P - 1 - j)) - nI 1) &&& nI a) (fun q => absurd q hP1)
             rw [if_neg hP1] at hn
             exact hn)
          | (have hP1 : j + 1 < P := ways_p hj h35
             have hd := dep_dn 16 a (P - 1 - j) (by omega) (by rw [hp, hP]; omega)
             have hpos := dep_pos 16 a (P - 1 - j) (by omega) (by rw [hp, hP]; omega)
             have hn := hnext ((nI (dep 16 a (P - 1 - j)) - nI 1) &&& nI a) (fun _ => by rw [show nI (dep 16 a (P - 1 - j)) - nI 1 = nI (dep 16 a (P - 1 - j) - 1) from pk_sub hpos, nI_and, hd, show P - 1 - (j + 1) = P - 1 - j - 1 by omega])
             rw [if_pos hP1] at hn
             exact hn)
      · refine R_n 1 rfl rfl ?_
        refine R_goto rfl ?_
        refine R_st5 rfl ?_
        refine R_ld4 rfl ?_
        refine R_n 1 rfl rfl ?_
        refine R_sub rfl ?_
        skip
        refine R_ld2 rfl ?_
        refine R_and rfl ?_
        refine R_st4 rfl ?_
        refine R_goto rfl ?_
        first
          | rw [show fb_ct (fun j => (fun t => pmI (rw0 σ m) (rc m) (nI (dep 16 a t))) (P - 1 - j)) (j + 1) = fb_ct (fun j => (fun t => pmI (rw0 σ m) (rc m) (nI (dep 16 a t))) (P - 1 - j)) j + 1 from ct_t (f := (fun j => (fun t => pmI (rw0 σ m) (rc m) (nI (dep 16 a t))) (P - 1 - j))) h28] at hnext
          | rw [show fb_ct (fun j => (fun t => pmI (rw0 σ m) (rc m) (nI (dep 16 a t))) (P - 1 - j)) (j + 1) = fb_ct (fun j => (fun t => pmI (rw0 σ m) (rc m) (nI (dep 16 a t))) (P - 1 - j)) j from ct_f (f := (fun j => (fun t => pmI (rw0 σ m) (rc m) (nI (dep 16 a t))) (P - 1 - j))) h28] at hnext
        first
          | (have hP1 : ¬ j + 1 < P := fun q => ways_n ha (by rw [hp, hP]; omega) (by omega) h35
             have hn := hnext ((nI (dep 16 a (P - 1 - j)) - nI 1) &&& nI a) (fun q => absurd q hP1)
             rw [if_neg hP1] at hn
             exact hn)
          | (have hP1 : j + 1 < P := ways_p hj h35
             have hd := dep_dn 16 a (P - 1 - j) (by omega) (by rw [hp, hP]; omega)
             have hpos := dep_pos 16 a (P - 1 - j) (by omega) (by rw [hp, hP]; omega)
             have hn := hnext ((nI (dep 16 a (P - 1 - j)) - nI 1) &&& nI a) (fun _ => by rw [show nI (dep 16 a (P - 1 - j)) - nI 1 = nI (dep 16 a (P - 1 - j) - 1) from pk_sub hpos, nI_and, hd, show P - 1 - (j + 1) = P - 1 - j - 1 by omega])
             rw [if_pos hP1] at hn
             exact hn)
theorem PW_or0 {c : List pI} {i : Nat} {a0 a1 a2 a3 a4 a6 : Option Value} {u : Int32} {h : pH} {Q : Option Value × pH → Prop} (k : PW c i [a0, a1, a2, a3, a4, some (.int u), a6] [] h Q) : PW c i [a0, a1, a2, a3, a4, some (.int (u ||| nI 0)), a6] [] h Q := by
  rw [show u ||| nI 0 = u from Int32.or_zero]
  exact k
theorem wag_in (hrf : RFok rf) (hR : Rel σ (ρ 147) n rc) {m : Nat} (hm : m < 6) {p i : Nat} {sm : Int32} {Q : Option Value × pH → Prop} (k : PW p_c_X5_waysAgain 57 [some (.ref 146), some (.int (nI m)), some (.int (nI p)), some (.int sm), some (.int (nI i)), some (.int (orA (rw0 σ m) (bt (nI i)) (rc m))), some (.int (nI (rc m)))] [] (HP sl ρ rf) Q) : PW p_c_X5_waysAgain 31 [some (.ref 146), some (.int (nI m)), some (.int (nI p)), some (.int sm), some (.int (nI i)), some (.int (nI 0)), some (.int (nI 0))] [] (HP sl ρ rf) Q := by
  have h4 := (hR.m hm).1
  have hl := down (n := rc m) (P := fun j => PW p_c_X5_waysAgain 31 [some (.ref 146), some (.int (nI m)), some (.int (nI p)), some (.int sm), some (.int (nI i)), some (.int (orA (rw0 σ m) (bt (nI i)) j)), some (.int (nI j))] [] (HP sl ρ rf) Q) ?_ ?_
  · exact hl 0 (Nat.zero_le _)
  · refine R_ld6 rfl ?_
    refine R_la0 rfl ?_
    refine R_ld1 rfl ?_
    refine R_n 0 rfl rfl ?_
    refine R_c1 rfl (xo_rows hrf hR hm) rfl rfl rfl sh_146 rfl rfl ?_
    refine N2_geT rfl (by omega) (by omega) (by omega) ?_
    exact k
  · intro j hj hnext
    refine R_ld6 rfl ?_
    refine R_la0 rfl ?_
    refine R_ld1 rfl ?_
    refine R_n 0 rfl rfl ?_
    refine R_c1 rfl (xo_rows hrf hR hm) rfl rfl rfl sh_146 rfl rfl ?_
    refine N2_geF rfl (by first | omega) (by first | omega) (hj) ?_
    refine R_ld5 rfl ?_
    refine R_ld4 rfl ?_
    refine R_ld6 rfl ?_
    refine R_shr rfl ?_
    refine R_n 1 rfl rfl ?_
    refine R_and rfl ?_
    refine PW_top (show _ = bI (bt (nI i) j) from bit_of _ (by omega)) ?_
    refine R_n 1 rfl rfl ?_
    refine B2_ne rfl (fun h44 => ?_) (fun h44 => ?_)
    · refine R_n 0 rfl rfl ?_
      refine R_or rfl ?_
      refine R_st5 rfl ?_
      refine R_in6 rfl rfl ?_
      refine R_goto rfl ?_
      first
        | (rw [orA_t (s := bt (nI i)) (bIt.mp h44)] at hnext; exact hnext)
        | (rw [orA_f (s := bt (nI i)) (bIf.mp h44)] at hnext; exact PW_or0 hnext)
    · refine R_la0 rfl ?_
      refine R_ld1 rfl ?_
      refine R_n 1 rfl rfl ?_
      refine R_ld6 rfl ?_
      refine R_addN rfl ?_
      refine R_c1 rfl (xo_mask hrf hR hm (by omega)) rfl rfl rfl sh_146 rfl rfl ?_
      refine R_goto rfl ?_
      refine R_or rfl ?_
      refine R_st5 rfl ?_
      refine R_in6 rfl rfl ?_
      refine R_goto rfl ?_
      first
        | (rw [orA_t (s := bt (nI i)) (bIt.mp h44)] at hnext; exact hnext)
        | (rw [orA_f (s := bt (nI i)) (bIf.mp h44)] at hnext; exact PW_or0 hnext)
theorem bc_ct {x : Int32} (h : is16 x) : bcI x = nI (fb_ct (bt x) 16) := by
  obtain ⟨w, hw, e⟩ := h
  rw [bc_is hw e, popN_ct]
  congr 1
  exact fb_ct_cong fun i hi => by rw [e, b_nI i (by omega)]
theorem ct_part {p q r : Nat → Bool} (h : ∀ i, p i = (q i || r i)) (h2 : ∀ i, (q i && r i) = false) : ∀ n, fb_ct p n = fb_ct q n + fb_ct r n
  | 0 => rfl
  | n + 1 => by
    have h3 := h n
    have h4 := h2 n
    rw [fb_ct_succ, fb_ct_succ, fb_ct_succ, ct_part h h2 n, h3]
    cases hq : q n <;> cases hr : r n
    · simp
    · simp; omega
    · simp; omega
    · rw [hq, hr] at h4; cases h4
theorem orA_sub {f : Nat → Int32} {s : Nat → Bool} {i : Nat} : ∀ {n : Nat}, bt (orA f s n) i = true → bt (orA f (fun _ => true) n) i = true
  | 0, h => h
  | n + 1, h => by
    rw [orA_t rfl, b_or]
    cases hs : s n with
    | true =>
      rw [orA_t hs, b_or] at h
      cases hb : bt (orA f s n) i with
      | true => rw [orA_sub hb]; rfl
      | false => rw [hb, Bool.false_or] at h; rw [h, Bool.or_true]
    | false =>
      rw [orA_f hs] at h
      rw [orA_sub h]
      rfl
theorem wag_bc {f : Nat → Int32} {s : Nat → Bool} {n p : Nat} (h16 : ∀ i, i < n → is16 (f i)) (hp : bcI (orA f (fun _ => true) n) = nI p) : nI p - bcI (orA f s n) = bcI (orA f (fun _ => true) n &&& (orA f s n ^^^ (-1))) := by
  have hA : is16 (orA f (fun _ => true) n) := is16_orA h16
  rw [← hp, bc_ct hA, bc_ct (is16_orA h16), bc_ct (is16_and hA)]
  have e := ct_part (p := fun i => decide (i < 16) && bt (orA f (fun _ => true) n) i) (q := fun i => decide (i < 16) && bt (orA f s n) i) (r := fun i => decide (i < 16) && bt (orA f (fun _ => true) n &&& (orA f s n ^^^ (-1))) i) (fun i => by
    by_cases h : i < 16
    · rw [b_and, b_xor, b_m1 i (by omega)]
      cases hu : bt (orA f s n) i with
      | true => rw [orA_sub hu]; simp [h]
      | false => simp
    · simp [h]) (fun i => by
    by_cases h : i < 16
    · rw [b_and, b_xor, b_m1 i (by omega)]
      cases hu : bt (orA f s n) i <;> simp
    · simp [h]) 16
  have c := fun (q : Nat → Bool) => (fb_ct_cong (n := 16) (p := fun i => decide (i < 16) && q i) (q := q) fun i hi => by rw [decide_eq_true hi, Bool.true_and])
  rw [c, c, c] at e
  rw [e, pk_sub (by omega)]
  congr 1
  omega
theorem x_wag_ok (hrf : RFok rf) (hR : Rel σ (ρ 147) n rc) {m : Nat} (hm : m < 6) {a p : Nat} (ha : a < 65536) (hA : (orA (rw0 σ m) (fun _ => true) (rc m)) = nI a) (hp : popN 16 a = p) (h : p ≤ 12) {P : Nat} (hP : 2 ^ rc m = P + 1) (hP2 : P < 16) : PC 148 [.ref 146, .int (nI m)] (HP sl ρ rf) (some (.int (wgA (orA (rw0 σ m) (fun _ => true) (rc m)) (rw0 σ m) (rc m) (P)))) (HP sl ρ rf) := by
  have h4 := (hR.m hm).1
  have h16 : ∀ i, i < rc m → is16 (rw0 σ m i) := fun i hi => (hR.m hm).2.2.2.2.2.2.2.2.2.2.2.2.2.2.2 i (by omega)
  have hl := down (n := P) (P := fun j => ∀ w5 w6 : Option Value, PW p_c_X5_waysAgain 19 [some (.ref 146), some (.int (nI m)), some (.int (nI p)), some (.int (wgA (orA (rw0 σ m) (fun _ => true) (rc m)) (rw0 σ m) (rc m) (j))), some (.int (nI (j + 1))), w5, w6] [] (HP sl ρ rf) (fun zz => zz = (some (.int (wgA (orA (rw0 σ m) (fun _ => true) (rc m)) (rw0 σ m) (rc m) (P))), HP sl ρ rf))) ?_ ?_
  · refine PC_of (cd := p_c_X5_waysAgain) (L0 := [some (.ref 146), some (.int (nI m)), none, none, none, none, none]) rfl rfl ?_
    refine R_ld1 rfl ?_
    refine R_c0 rfl (x_isMotion _) rfl rfl rfl ?_
    refine BB_neT rfl (inR_N hm (by omega)) ?_
    refine R_la0 rfl ?_
    refine R_ld1 rfl ?_
    refine R_c1 rfl (x_inputsOf hrf hR hm) rfl rfl rfl sh_146 rfl rfl ?_
    rw [hA]
    show PW _ _ _ (.int (nI a) :: _) _ _
    refine R_c0 rfl (x_bitsN ha) rfl rfl rfl ?_
    rw [hp]
    refine R_st2 rfl ?_
    refine R_ld2 rfl ?_
    refine R_n 12 rfl rfl ?_
    refine N2_leT rfl (by omega) (by omega) (by omega) ?_
    refine R_n 0 rfl rfl ?_
    refine R_st3 rfl ?_
    refine R_n 1 rfl rfl ?_
    refine R_st4 rfl ?_
    have h0 := hl 0 (Nat.zero_le _) none none
    rw [hA] at h0
    exact h0
  · intro w5 w6
    refine R_ld4 rfl ?_
    refine R_n 1 rfl rfl ?_
    refine R_la0 rfl ?_
    refine R_ld1 rfl ?_
    refine R_n 0 rfl rfl ?_
    refine R_c1 rfl (xo_rows hrf hR hm) rfl rfl rfl sh_146 rfl rfl ?_
    refine R_shl rfl ?_
    rw [shlN _ (by omega), hP]
    refine N2_geT rfl (by omega) (by omega) (by omega) ?_
    refine R_ld3 rfl ?_
    exact R_iret rfl (rfl)
  · intro j hj hnext w5 w6
    refine R_ld4 rfl ?_
    refine R_n 1 rfl rfl ?_
    refine R_la0 rfl ?_
    refine R_ld1 rfl ?_
    refine R_n 0 rfl rfl ?_
    refine R_c1 rfl (xo_rows hrf hR hm) rfl rfl rfl sh_146 rfl rfl ?_
    refine R_shl rfl ?_
    rw [shlN _ (by omega), hP]
    refine N2_geF rfl (by omega) (by omega) (by omega) ?_
    refine R_n 0 rfl rfl ?_
    refine R_st5 rfl ?_
    refine R_n 0 rfl rfl ?_
    refine R_st6 rfl ?_
    refine wag_in hrf hR hm ?_
    refine R_n 1 rfl rfl ?_
    refine R_ld2 rfl ?_
    refine R_ld5 rfl ?_
    refine R_c0 rfl (x_bits (is16_orA h16)) rfl rfl rfl ?_
    refine R_sub rfl ?_
    refine PW_top (wag_bc h16 (by rw [hA, bc_is ha rfl, hp])) ?_
    refine R_shl rfl ?_
    refine R_st6 rfl ?_
    refine R_ld3 rfl ?_
    refine R_ld4 rfl ?_
    refine R_c0 rfl (x_bitsN (by omega)) rfl rfl rfl ?_
    rw [← bc_pop (by omega)]
    have hbc : bcN (j + 1) ≤ 16 := by rw [bc_pop (by omega), popN_ct]; exact fb_ct_le _ _
    refine R_n 2 rfl rfl ?_
    refine R_remN rfl (by first | omega) (by first | omega) (by first | omega) ?_
    refine R_n 1 rfl rfl ?_
    refine N2_ne rfl (by first | omega) (by first | omega) (fun h70 => ?_) (fun h70 => ?_)
    · refine R_ld6 rfl ?_
      refine R_neg rfl ?_
      refine R_add rfl ?_
      refine R_st3 rfl ?_
      refine R_in4 rfl rfl ?_
      refine R_goto rfl ?_
      first
        | (rw [wg_f h70] at hnext; exact hnext _ _)
        | (rw [wg_t h70] at hnext; exact hnext _ _)
        | (rw [wg_t (Decidable.byContradiction fun q => h70 (fun e => q (by omega)))] at hnext; exact hnext _ _)
    · refine R_ld6 rfl ?_
      refine R_goto rfl ?_
      refine R_add rfl ?_
      refine R_st3 rfl ?_
      refine R_in4 rfl rfl ?_
      refine R_goto rfl ?_
      first
        | (rw [wg_f h70] at hnext; exact hnext _ _)
        | (rw [wg_t h70] at hnext; exact hnext _ _)
        | (rw [wg_t (Decidable.byContradiction fun q => h70 (fun e => q (by omega)))] at hnext; exact hnext _ _)
theorem o_ways (hF : FI s ρ rf) (x : Int32) : Ag sl s 61 147 [.int x] ρ rf := by
  obtain ⟨n, rc, t, hR, ht, ht1, hB⟩ := hF.2.2.1
  have hrf := hF.1
  have hn16 := hR.b.1
  cases hx : inR 6 x with
  | false => exact Ag_p hF (c_ways_bad x hx) (x_ways_bad x hx)
  | true =>
  obtain ⟨m, hm, rfl⟩ := inR_c (by decide) hx
  have h4 := (hR.m hm).1
  have hr := (hR.m hm).2.1
  obtain ⟨a, ha, hA⟩ := is16_orA (f := rw0 ρ m) (s := fun _ => true) (n := rc m) (fun i hi => (hR.m hm).2.2.2.2.2.2.2.2.2.2.2.2.2.2.2 i (by omega))
  have hb := bc_is ha hA
  have hp16 : popN 16 a ≤ 16 := by rw [popN_ct]; exact fb_ct_le _ _
  by_cases h12 : 12 < popN 16 a
  · exact Ag_p hF (c_ways_full hrf hm hr h4 hb h12 (by omega)) (x_ways_full hrf hR hm ha hA rfl h12 hp16)
  · have hP0 : 0 < 2 ^ popN 16 a := Nat.one_le_two_pow
    have hP2 : 2 ^ popN 16 a ≤ 2 ^ 12 := Nat.pow_le_pow_right (by decide) (by omega)
    rw [show (2 : Nat) ^ 12 = 4096 by decide] at hP2
    have hc := c_ways_ok (sl := sl) hrf hm hr h4 hb (by omega) rfl hP2
    have hx := x_ways_ok (sl := sl) hrf hR hm ha hA rfl (by omega) rfl hP2 hP0
    rw [ct_rev (fun t => pmI (rw0 ρ m) (rc m) (nI (dep 16 a t)))] at hx
    rw [fb_ct_cong (q := fun t => pmI (rw0 ρ m) (rc m) (nI (dep 16 a t))) (fun j hj => by rw [hA, sb_dep ha j hj])] at hc
    exact Ag_p hF hc hx
theorem o_wag (hF : FI s ρ rf) (x : Int32) : Ag sl s 62 148 [.int x] ρ rf := by
  obtain ⟨n, rc, t, hR, ht, ht1, hB⟩ := hF.2.2.1
  have hrf := hF.1
  have hn16 := hR.b.1
  cases hx : inR 6 x with
  | false => exact Ag_p hF (c_wag_bad x hx) (x_wag_bad x hx)
  | true =>
  obtain ⟨m, hm, rfl⟩ := inR_c (by decide) hx
  have h4 := (hR.m hm).1
  have hr := (hR.m hm).2.1
  obtain ⟨a, ha, hA⟩ := is16_orA (f := rw0 ρ m) (s := fun _ => true) (n := rc m) (fun i hi => (hR.m hm).2.2.2.2.2.2.2.2.2.2.2.2.2.2.2 i (by omega))
  have hb := bc_is ha hA
  have hp16 : popN 16 a ≤ 16 := by rw [popN_ct]; exact fb_ct_le _ _
  by_cases h12 : 12 < popN 16 a
  · exact Ag_p hF (c_wag_full hrf hm hr h4 hb h12 (by omega)) (x_wag_full hrf hR hm ha hA rfl h12 hp16)
  · have hP0 : 0 < 2 ^ rc m := Nat.one_le_two_pow
    have hP2 : 2 ^ rc m ≤ 2 ^ 4 := Nat.pow_le_pow_right (by decide) h4
    rw [show (2 : Nat) ^ 4 = 16 by decide] at hP2
    obtain ⟨P, hP⟩ : ∃ P, 2 ^ rc m = P + 1 := ⟨2 ^ rc m - 1, by omega⟩
    exact Ag_p hF (c_wag_ok hrf hm hr h4 hb (by omega) hP (by omega)) (x_wag_ok hrf hR hm ha hA rfl (by omega) hP (by omega))
end
