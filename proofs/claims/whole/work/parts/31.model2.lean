/-! the model's methods that read: bits, least, rows, counts -/
theorem is16_and {x y : Int32} (h : is16 x) : is16 (x &&& y) := by
  obtain ⟨w, hw, rfl⟩ := h
  rw [M_of hw, show M (fun i => w.testBit i) &&& y = M (fun i => w.testBit i && bt y i) from M_eq fun i hi => by rw [b_and, M_bt _ hi, Bool.and_assoc]]
  exact ⟨_, M_lt _, rfl⟩
theorem is16_or {x y : Int32} (h : is16 x) (h2 : is16 y) : is16 (x ||| y) := by
  obtain ⟨w, hw, rfl⟩ := h
  obtain ⟨v, hv, rfl⟩ := h2
  rw [M_of hw, M_of hv, M_or]
  exact ⟨_, M_lt _, rfl⟩
theorem is16_M (p : Nat → Bool) : is16 (M p) := ⟨_, M_lt p, rfl⟩
theorem is16_orA {f : Nat → Int32} {s : Nat → Bool} : ∀ {n : Nat}, (∀ i, i < n → is16 (f i)) → is16 (orA f s n)
  | 0, _ => ⟨0, by decide, rfl⟩
  | n + 1, h => by
    unfold orA
    split
    · exact is16_or (is16_orA fun i hi => h i (by omega)) (h n (by omega))
    · exact is16_orA fun i hi => h i (by omega)
theorem is16_bt {x : Int32} (h : is16 x) {i : Nat} (hi : 16 ≤ i) : bt x i = false := by
  obtain ⟨w, hw, rfl⟩ := h
  by_cases h32 : i < 32
  · rw [M_of hw, M_bt _ h32, decide_eq_false (by omega), Bool.false_and]
  · exact b_big (by omega)
theorem ff_none_inv {p : Nat → Bool} : ∀ {n : Nat}, ff p n = none → ∀ i, i < n → p i = false
  | 0, _, i, hi => absurd hi (Nat.not_lt_zero _)
  | n + 1, h, i, hi => by
    cases hp : p i with
    | false => rfl
    | true =>
      exfalso
      have hex : ∃ j, p j = true ∧ (∀ k, k < j → p k = false) ∧ j < n + 1 := by
        clear h
        induction n generalizing i with
        | zero => exact ⟨i, hp, fun k hk => absurd hk (by omega), hi⟩
        | succ n ih =>
          by_cases hb : ∃ k, k < i ∧ p k = true
          · obtain ⟨k, hk, hk2⟩ := hb
            obtain ⟨j, j1, j2, j3⟩ := ih k (by omega) hk2
            exact ⟨j, j1, j2, by omega⟩
          · exact ⟨i, hp, fun k hk => by
              cases hq : p k with
              | false => rfl
              | true => exact absurd ⟨k, hk, hq⟩ hb, hi⟩
      obtain ⟨j, j1, j2, j3⟩ := hex
      rw [ff_some j1 j2 j3] at h
      cases h
/-- a mask of sixteen that is not 0 has a member -/
theorem is16_ff {x : Int32} (h : is16 x) (h0 : ¬ x = 0) : ∃ j, ff (bt x) 16 = some j := by
  cases hq : ff (bt x) 16 with
  | some j => exact ⟨j, rfl⟩
  | none =>
    exfalso
    apply h0
    refine b_ext fun i hi => ?_
    rw [b_0]
    by_cases h16 : i < 16
    · cases hb : bt x i with
      | false => rfl
      | true =>
        exfalso
        have := ff_none_inv hq i h16
        rw [hb] at this
        cases this
    · exact is16_bt h (by omega)
theorem bshl (b : Bool) (j : Nat) (hj : j < 32) : bI b <<< (nI j &&& 31) = if b = true then (nI 1 <<< (nI j &&& 31)) else nI 0 := by
  cases b
  · refine b_ext fun i hi => ?_
    rw [show bI false = 0 from rfl, b_shl j hj 0 hi, b_0, if_neg (by decide), show (nI 0 : Int32) = 0 from rfl, b_0, Bool.and_false]
  · rfl
theorem orB2 (p : Nat → Bool) {j : Nat} (hj : j < 16) : M (fun i => decide (i < j) && p i) ||| (bI (p j) <<< (nI j &&& 31)) = M (fun i => decide (i < j + 1) && p i) := by
  rw [bshl _ _ (by omega)]
  exact orB p hj
/-- counts of members below n -/
theorem ct_cut (p : Nat → Bool) (n : Nat) : ∀ k, fb_ct (fun i => decide (i < n) && p i) (n + k) = fb_ct p n
  | 0 => fb_ct_cong fun i hi => by rw [decide_eq_true (show i < n by omega), Bool.true_and]
  | k + 1 => by
    show fb_ct _ (n + k) + (if decide (n + k < n) && p (n + k) then 1 else 0) = _
    rw [ct_cut p n k, decide_eq_false (by omega)]
    rfl
theorem bc_wA {f : Nat → Bool} {n : Nat} (hn : n ≤ 16) : bcI (wA f n) = nI (fb_ct f n) := by
  rw [wA_M hn, bc_M]
  congr 1
  show mc _ = _
  rw [mc_ct]
  have := ct_cut f n (16 - n)
  rw [show n + (16 - n) = 16 by omega] at this
  exact this
theorem bc_is {x : Int32} {w : Nat} (hw : w < 65536) (h : x = nI w) : bcI x = nI (popN 16 w) := by rw [h, bc_N hw, bc_pop hw]
/-- sums over two -/
def sN (f : Nat → Nat) : Nat → Nat
  | 0 => 0
  | n + 1 => sN f n + f n
theorem sN_cong {f g : Nat → Nat} : ∀ {n : Nat}, (∀ i, i < n → f i = g i) → sN f n = sN g n
  | 0, _ => rfl
  | n + 1, h => by show sN f n + f n = _; rw [sN_cong (fun i hi => h i (by omega)), h n (by omega)]; rfl
theorem sN_add (f g : Nat → Nat) : ∀ n, sN (fun i => f i + g i) n = sN f n + sN g n
  | 0 => rfl
  | n + 1 => by show sN _ n + (f n + g n) = (sN f n + f n) + (sN g n + g n); rw [sN_add f g n]; omega
theorem sN_0 : ∀ n, sN (fun _ => 0) n = 0
  | 0 => rfl
  | n + 1 => by show sN _ n + 0 = 0; rw [sN_0 n]
theorem sN_swap (f : Nat → Nat → Nat) (m : Nat) : ∀ n, sN (fun i => sN (f i) m) n = sN (fun j => sN (fun i => f i j) n) m
  | 0 => (sN_0 m).symm
  | n + 1 => by
    show sN _ n + sN (f n) m = _
    rw [sN_swap f m n, ← sN_add]
    rfl
theorem ct_sN (p : Nat → Bool) : ∀ n, fb_ct p n = sN (fun i => if p i = true then 1 else 0) n
  | 0 => rfl
  | n + 1 => by rw [fb_ct_succ, ct_sN p n]; rfl
theorem sN_one (p : Nat → Bool) {k : Nat} : ∀ {n : Nat}, (∀ i, i < n → p i = true → i = k) → sN (fun i => if p i = true then 1 else 0) n = (if decide (k < n) && p k = true then 1 else 0)
  | 0, _ => by simp [sN]
  | n + 1, h => by
    show sN _ n + (if p n = true then 1 else 0) = _
    rw [sN_one p (fun i hi => h i (by omega))]
    by_cases hp : p n = true
    · have := h n (by omega) hp
      subst this
      simp [hp]
    · rw [if_neg hp]
      by_cases e : k = n
      · subst e
        simp [hp]
      · simp [show (k < n + 1) = (k < n) from propext ⟨fun q => by omega, fun q => by omega⟩]
section
variable {sl : Nat} {ρ σ : pR} {rf : pF} {n : Nat} {rc : Nat → Nat}
theorem x_bits_ {x : Option Value} {K : Nat} : ∀ (u w k : Nat), w ≤ u → w < 65536 → k + popN 16 w = K → PW p_c_X5_bits 4 [x, some (.int (nI k)), some (.int (nI w))] [] (HP sl ρ rf) (fun zz => zz = (some (.int (nI K)), HP sl ρ rf)) := by
  intro u
  induction u with
  | zero =>
    intro w k h1 h2 h3
    have h0 : w = 0 := by omega
    subst h0
    rw [popN_0] at h3
    have h4 : k = K := by omega
    subst h4
    refine R_ld2 rfl ?_
    refine B1_eqT rfl (rfl) ?_
    refine R_ld1 rfl ?_
    exact R_iret rfl (rfl)
  | succ u ih =>
    intro w k h1 h2 h3
    by_cases h0 : w = 0
    · subst h0
      rw [popN_0] at h3
      have h4 : k = K := by omega
      subst h4
      refine R_ld2 rfl ?_
      refine B1_eqT rfl (rfl) ?_
      refine R_ld1 rfl ?_
      exact R_iret rfl (rfl)
    · obtain ⟨p1, p2⟩ := popN_pred 16 w (by omega) (by omega)
      refine R_ld2 rfl ?_
      refine B1_eqF rfl (nI_ne0 (by omega) (by omega)) ?_
      refine R_in1 rfl rfl ?_
      refine R_ld2 rfl ?_
      refine R_ld2 rfl ?_
      refine R_n 1 rfl rfl ?_
      refine R_subN rfl (by omega) ?_
      refine R_and rfl ?_
      rw [nI_and]
      refine R_st2 rfl ?_
      refine R_goto rfl ?_
      exact ih _ _ (by omega) (by omega) (by omega)
theorem x_bitsN {w : Nat} (hw : w < 65536) : PC 112 [.int (nI w)] (HP sl ρ rf) (some (.int (nI (popN 16 w)))) (HP sl ρ rf) := by
  refine PC_of (cd := p_c_X5_bits) (L0 := [some (.int (nI w)), none, none]) rfl rfl ?_
  refine R_n 0 rfl rfl ?_
  refine R_st1 rfl ?_
  refine R_ld0 rfl ?_
  refine R_st2 rfl ?_
  exact x_bits_ w w 0 (by omega) hw (by omega)

theorem x_bits {x : Int32} (h : is16 x) : PC 112 [.int x] (HP sl ρ rf) (some (.int (bcI x))) (HP sl ρ rf) := by
  obtain ⟨w, hw, rfl⟩ := h
  rw [bc_is hw rfl]
  exact x_bitsN hw
theorem x_least {x : Int32} {j0 : Nat} (h : ff (bt x) 16 = some j0) : PC 113 [.int x] (HP sl ρ rf) (some (.int (nI j0))) (HP sl ρ rf) := by
  have h16 := (ff_spec h).1
  have hl := down (n := j0) (P := fun j => PW p_c_X5_least 2 [some (.int x), some (.int (nI j))] [] (HP sl ρ rf) (fun zz => zz = (some (.int (nI j0)), HP sl ρ rf))) ?_ ?_
  · refine PC_of (cd := p_c_X5_least) (L0 := [some (.int x), none]) rfl rfl ?_
    refine R_n 0 rfl rfl ?_
    refine R_st1 rfl ?_
    exact hl 0 (Nat.zero_le _)
  · refine R_ld0 rfl ?_
    refine R_ld1 rfl ?_
    refine R_shr rfl ?_
    refine R_n 1 rfl rfl ?_
    refine R_and rfl ?_
    rw [show (x >>> (nI j0 &&& 31)) &&& nI 1 = bI (bt x j0) from bit_of x (by omega)]
    refine BB_neT rfl ((ff_spec h).2.1) ?_
    refine R_ld1 rfl ?_
    exact R_iret rfl (rfl)
  · intro j hj hnext
    refine R_ld0 rfl ?_
    refine R_ld1 rfl ?_
    refine R_shr rfl ?_
    refine R_n 1 rfl rfl ?_
    refine R_and rfl ?_
    rw [show (x >>> (nI j &&& 31)) &&& nI 1 = bI (bt x j) from bit_of x (by omega)]
    refine BB_neF rfl ((ff_spec h).2.2 j hj) ?_
    refine R_in1 rfl rfl ?_
    refine R_goto rfl ?_
    exact hnext
theorem x_isPerm (hrf : RFok rf) (hR : Rel σ (ρ 147) n rc) {m : Nat} (hm : m < 6) (x : Int32) : PC 114 [.ref 146, .int (nI m), .int x] (HP sl ρ rf) (some (.int (bI (pmI (rw0 σ m) (rc m) x)))) (HP sl ρ rf) := by
  have h4 := (hR.m hm).1
  have hl := down (n := (rc m)) (P := fun j => PW p_c_X5_isPermitted 4 [some (.ref 146), some (.int (nI m)), some (.int x), some (.int (bI (an (fun j => decide (rw0 σ m j &&& (x ^^^ (-1)) = 0)) j))), some (.int (nI j))] [] (HP sl ρ rf) (fun zz => zz = ((some (.int (bI (pmI (rw0 σ m) (rc m) x)))), HP sl ρ rf))) ?_ ?_
  · refine PC_of (cd := p_c_X5_isPermitted) (L0 := [some (.ref 146), some (.int (nI m)), some (.int x), none, none]) rfl rfl ?_
    refine R_n 0 rfl rfl ?_
    refine R_st3 rfl ?_
    refine R_n 0 rfl rfl ?_
    refine R_st4 rfl ?_
    exact hl 0 (Nat.zero_le _)
  · refine R_ld4 rfl ?_
    refine R_la0 rfl ?_
    refine R_ld1 rfl ?_
    refine R_n 0 rfl rfl ?_
    refine R_c1 rfl (xo_rows hrf hR hm) rfl rfl rfl sh_146 rfl rfl ?_
    refine N2_geT rfl (by omega) (by omega) (by omega) ?_
    refine R_ld3 rfl ?_
    exact R_zret rfl (rfl)
  · intro j hj hnext
    refine R_ld4 rfl ?_
    refine R_la0 rfl ?_
    refine R_ld1 rfl ?_
    refine R_n 0 rfl rfl ?_
    refine R_c1 rfl (xo_rows hrf hR hm) rfl rfl rfl sh_146 rfl rfl ?_
    refine N2_geF rfl (by omega) (by omega) (hj) ?_
    refine R_ld3 rfl ?_
    refine BB_ne rfl (fun h11 => ?_) (fun h11 => ?_)
    · refine R_n 1 rfl rfl ?_
      refine R_goto rfl ?_
      refine R_st3 rfl ?_
      refine R_in4 rfl rfl ?_
      refine R_goto rfl ?_
      first | (rw [show an (fun j => decide (rw0 σ m j &&& (x ^^^ (-1)) = 0)) (j + 1) = true from by show (an (fun j => decide (rw0 σ m j &&& (x ^^^ (-1)) = 0)) j || _) = true; rw [h11]; rfl] at hnext; exact hnext) | (rw [show an (fun j => decide (rw0 σ m j &&& (x ^^^ (-1)) = 0)) (j + 1) = false from by show (an (fun j => decide (rw0 σ m j &&& (x ^^^ (-1)) = 0)) j || decide _) = false; rw [h11, decide_eq_false h22]; rfl] at hnext; exact hnext) | (rw [show an (fun j => decide (rw0 σ m j &&& (x ^^^ (-1)) = 0)) (j + 1) = true from by show (an (fun j => decide (rw0 σ m j &&& (x ^^^ (-1)) = 0)) j || decide _) = true; rw [h11, decide_eq_true h22]; rfl] at hnext; exact hnext)
    · refine R_la0 rfl ?_
      refine R_ld1 rfl ?_
      refine R_n 1 rfl rfl ?_
      refine R_ld4 rfl ?_
      refine R_addN rfl ?_
      refine R_c1 rfl (xo_mask hrf hR hm (by omega)) rfl rfl rfl sh_146 rfl rfl ?_
      refine R_ld2 rfl ?_
      refine R_i rfl ?_
      refine R_xor rfl ?_
      refine R_and rfl ?_
      refine B1_ne rfl (fun h22 => ?_) (fun h22 => ?_)
      · refine R_n 0 rfl rfl ?_
        refine R_st3 rfl ?_
        refine R_in4 rfl rfl ?_
        refine R_goto rfl ?_
        first | (rw [show an (fun j => decide (rw0 σ m j &&& (x ^^^ (-1)) = 0)) (j + 1) = true from by show (an (fun j => decide (rw0 σ m j &&& (x ^^^ (-1)) = 0)) j || _) = true; rw [h11]; rfl] at hnext; exact hnext) | (rw [show an (fun j => decide (rw0 σ m j &&& (x ^^^ (-1)) = 0)) (j + 1) = false from by show (an (fun j => decide (rw0 σ m j &&& (x ^^^ (-1)) = 0)) j || decide _) = false; rw [h11, decide_eq_false h22]; rfl] at hnext; exact hnext) | (rw [show an (fun j => decide (rw0 σ m j &&& (x ^^^ (-1)) = 0)) (j + 1) = true from by show (an (fun j => decide (rw0 σ m j &&& (x ^^^ (-1)) = 0)) j || decide _) = true; rw [h11, decide_eq_true h22]; rfl] at hnext; exact hnext)
      · refine R_n 1 rfl rfl ?_
        refine R_goto rfl ?_
        refine R_st3 rfl ?_
        refine R_in4 rfl rfl ?_
        refine R_goto rfl ?_
        first | (rw [show an (fun j => decide (rw0 σ m j &&& (x ^^^ (-1)) = 0)) (j + 1) = true from by show (an (fun j => decide (rw0 σ m j &&& (x ^^^ (-1)) = 0)) j || _) = true; rw [h11]; rfl] at hnext; exact hnext) | (rw [show an (fun j => decide (rw0 σ m j &&& (x ^^^ (-1)) = 0)) (j + 1) = false from by show (an (fun j => decide (rw0 σ m j &&& (x ^^^ (-1)) = 0)) j || decide _) = false; rw [h11, decide_eq_false h22]; rfl] at hnext; exact hnext) | (rw [show an (fun j => decide (rw0 σ m j &&& (x ^^^ (-1)) = 0)) (j + 1) = true from by show (an (fun j => decide (rw0 σ m j &&& (x ^^^ (-1)) = 0)) j || decide _) = true; rw [h11, decide_eq_true h22]; rfl] at hnext; exact hnext)

theorem x_inputsOf (hrf : RFok rf) (hR : Rel σ (ρ 147) n rc) {m : Nat} (hm : m < 6) : PC 115 [.ref 146, .int (nI m)] (HP sl ρ rf) (some (.int (orA (rw0 σ m) (fun _ => true) (rc m)))) (HP sl ρ rf) := by
  have h4 := (hR.m hm).1
  have hl := down (n := (rc m)) (P := fun j => PW p_c_X5_inputsOf 4 [some (.ref 146), some (.int (nI m)), some (.int (orA (rw0 σ m) (fun _ => true) j)), some (.int (nI j))] [] (HP sl ρ rf) (fun zz => zz = ((some (.int (orA (rw0 σ m) (fun _ => true) (rc m)))), HP sl ρ rf))) ?_ ?_
  · refine PC_of (cd := p_c_X5_inputsOf) (L0 := [some (.ref 146), some (.int (nI m)), none, none]) rfl rfl ?_
    refine R_n 0 rfl rfl ?_
    refine R_st2 rfl ?_
    refine R_n 0 rfl rfl ?_
    refine R_st3 rfl ?_
    exact hl 0 (Nat.zero_le _)
  · refine R_ld3 rfl ?_
    refine R_la0 rfl ?_
    refine R_ld1 rfl ?_
    refine R_n 0 rfl rfl ?_
    refine R_c1 rfl (xo_rows hrf hR hm) rfl rfl rfl sh_146 rfl rfl ?_
    refine N2_geT rfl (by omega) (by omega) (by omega) ?_
    refine R_ld2 rfl ?_
    exact R_iret rfl (rfl)
  · intro j hj hnext
    refine R_ld3 rfl ?_
    refine R_la0 rfl ?_
    refine R_ld1 rfl ?_
    refine R_n 0 rfl rfl ?_
    refine R_c1 rfl (xo_rows hrf hR hm) rfl rfl rfl sh_146 rfl rfl ?_
    refine N2_geF rfl (by omega) (by omega) (hj) ?_
    refine R_ld2 rfl ?_
    refine R_la0 rfl ?_
    refine R_ld1 rfl ?_
    refine R_n 1 rfl rfl ?_
    refine R_ld3 rfl ?_
    refine R_addN rfl ?_
    refine R_c1 rfl (xo_mask hrf hR hm (by omega)) rfl rfl rfl sh_146 rfl rfl ?_
    refine R_or rfl ?_
    refine R_st2 rfl ?_
    refine R_in3 rfl rfl ?_
    refine R_goto rfl ?_
    rw [orA_t rfl] at hnext
    exact hnext

theorem x_running (hrf : RFok rf) (hR : Rel σ (ρ 147) n rc) : PC 117 [.ref 146] (HP sl ρ rf) (some (.int (σ 12 0))) (HP sl ρ rf) := by
  have hl := down (n := 6) (P := fun j => PW p_c_X5_running 4 [some (.ref 146), some (.int (M (fun i => decide (i < j) && bt (σ 12 0) i))), some (.int (nI j))] [] (HP sl ρ rf) (fun zz => zz = ((some (.int (σ 12 0))), HP sl ρ rf))) ?_ ?_
  · refine PC_of (cd := p_c_X5_running) (L0 := [some (.ref 146), none, none]) rfl rfl ?_
    refine R_n 0 rfl rfl ?_
    refine R_st1 rfl ?_
    refine R_n 0 rfl rfl ?_
    refine R_st2 rfl ?_
    rw [show (nI 0 : Int32) = M (fun i => decide (i < 0) && bt (σ 12 0) i) from (M_eq fun i hi => by rw [show (nI 0 : Int32) = 0 from rfl, b_0]; simp)]
    exact hl 0 (Nat.zero_le _)
  · refine R_ld2 rfl ?_
    refine R_n 6 rfl rfl ?_
    refine N2_geT rfl (by omega) (by omega) (by omega) ?_
    refine R_ld1 rfl ?_
    exact R_iret rfl (lf_i ((M_ext fun i hi => if hlt : i < 6 then by rw [decide_eq_true hlt, Bool.true_and] else by rw [hR.r (by omega), Bool.and_false]).trans hR.hr.symm))
  · intro j hj hnext
    refine R_ld2 rfl ?_
    refine R_n 6 rfl rfl ?_
    refine N2_geF rfl (by omega) (by omega) (hj) ?_
    refine R_ld1 rfl ?_
    refine R_la0 rfl ?_
    refine R_ld2 rfl ?_
    refine R_n 5 rfl rfl ?_
    refine R_c1 rfl (xo_runs hrf hR hj) rfl rfl rfl sh_146 rfl rfl ?_
    refine R_ld2 rfl ?_
    refine R_shl rfl ?_
    refine R_or rfl ?_
    refine R_st1 rfl ?_
    refine R_in2 rfl rfl ?_
    refine R_goto rfl ?_
    rw [← orB2 (bt (σ 12 0)) (show j < 16 by omega)] at hnext
    exact hnext

theorem x_one (b : Bool) : PC 124 [.int (bI b)] (HP sl ρ rf) (some (.int (bI b))) (HP sl ρ rf) := by
  refine PC_of (cd := p_c_X5_one) (L0 := [some (.int (bI b))]) rfl rfl ?_
  refine R_ld0 rfl ?_
  refine BB_eq rfl (fun h1 => ?_) (fun h1 => ?_)
  · refine R_n 0 rfl rfl ?_
    exact R_iret rfl (by first | exact lf_i (by rw [h1]; rfl))
  · refine R_n 1 rfl rfl ?_
    refine R_goto rfl ?_
    exact R_iret rfl (by first | exact lf_i (by rw [h1]; rfl))

theorem keys_ct (hR : Rel σ (ρ 147) n rc) : fb_ct (fun k => decide (0 ≤ ρ 147 (3 + k))) 6 = fb_ct (kL σ) n := by
  have h16 := hR.b.1
  have hb : ∀ k, k < 6 → (if (fun k => decide (0 ≤ ρ 147 (3 + k))) k = true then 1 else 0) = sN (fun i => if decide (ρ 147 (3 + k) = nI i) = true then 1 else 0) n := fun k hk => by
    rcases hR.k hk with h | ⟨i, hi, h1, h2⟩
    · rw [if_neg (by show ¬ decide _ = true; rw [h]; decide)]
      rw [sN_cong (g := fun _ => 0) (fun i hi => if_neg (by
        show ¬ decide _ = true
        rw [h, decide_eq_false (fun q => absurd (show nI i < 0 by rw [← q]; decide) (nI_pos (by omega)))]
        decide)), sN_0]
    · rw [if_pos (by show decide _ = true; rw [h1]; exact decide_eq_true (Int32.not_lt.mp (nI_pos (by omega))))]
      rw [sN_one (fun a => decide (ρ 147 (3 + k) = nI a)) (k := i) (fun a ha q => by
        have q1 := of_decide_eq_true q
        rw [h1] at q1
        exact ((nI_eq (by omega) (by omega)).mp q1).symm)]
      rw [h1, decide_eq_true hi]
      simp
  have hi' : ∀ i, i < n → sN (fun k => if decide (ρ 147 (3 + k) = nI i) = true then 1 else 0) 6 = (if kL σ i = true then 1 else 0) := fun i hi => by
    rcases (hR.i hi).2.2.1 with hl | ⟨k, hk, hl⟩
    · rw [if_neg (by unfold kL; rw [decide_eq_false (fun q => q hl), Bool.false_and]; decide)]
      rw [sN_cong (g := fun _ => 0) (fun k hk => if_neg (fun q => by
        have q1 := of_decide_eq_true q
        rcases hR.k hk with h | ⟨a, ha, h1, h2⟩
        · rw [h] at q1
          exact absurd (show nI i < 0 by rw [← q1]; decide) (nI_pos (by omega))
        · rw [h1] at q1
          have := (nI_eq (by omega) (by omega)).mp q1
          subst this
          rw [hl] at h2
          exact absurd (show nI k < 0 by rw [← h2]; decide) (nI_pos (by omega)))), sN_0]
    · have hcl := (hR.i hi).2.2.2.2.2.2.2.2.2.2.2.2.2.2.2 k hk hl
      rw [sN_one (fun a => decide (ρ 147 (3 + a) = nI i)) (k := k) (fun a ha q => by
        have q1 := of_decide_eq_true q
        rcases hR.k ha with h | ⟨b, hb2, h1, h2⟩
        · rw [h] at q1
          exact absurd (show nI i < 0 by rw [← q1]; decide) (nI_pos (by omega))
        · rw [h1] at q1
          have := (nI_eq (by omega) (by omega)).mp q1
          subst this
          rw [hl] at h2
          exact ((nI_eq (by omega) (by omega)).mp h2).symm)]
      unfold kL
      rw [hcl, decide_eq_true hk, decide_eq_true (show ¬ σ 4 i = -1 from fun q => absurd (show nI k < 0 by rw [← hl, q]; decide) (nI_pos (by omega)))]
      simp
  rw [ct_sN, ct_sN, sN_cong hb, sN_swap, sN_cong hi']
theorem x_keysIn (hrf : RFok rf) (hR : Rel σ (ρ 147) n rc) : PC 126 [.ref 146] (HP sl ρ rf) (some (.int (nI (fb_ct (kL σ) n)))) (HP sl ρ rf) := by
  have hl := down (n := 6) (P := fun j => PW p_c_X5_keysIn 4 [some (.ref 146), some (.int (nI (fb_ct (fun k => decide (0 ≤ ρ 147 (3 + k))) j))), some (.int (nI j))] [] (HP sl ρ rf) (fun zz => zz = ((some (.int (nI (fb_ct (kL σ) n)))), HP sl ρ rf))) ?_ ?_
  · refine PC_of (cd := p_c_X5_keysIn) (L0 := [some (.ref 146), none, none]) rfl rfl ?_
    refine R_n 0 rfl rfl ?_
    refine R_st1 rfl ?_
    refine R_n 0 rfl rfl ?_
    refine R_st2 rfl ?_
    exact hl 0 (Nat.zero_le _)
  · refine R_ld2 rfl ?_
    refine R_n 6 rfl rfl ?_
    refine N2_geT rfl (by omega) (by omega) (by omega) ?_
    refine R_ld1 rfl ?_
    exact R_iret rfl (by rw [keys_ct hR])
  · intro j hj hnext
    refine R_ld2 rfl ?_
    refine R_n 6 rfl rfl ?_
    refine N2_geF rfl (by omega) (by omega) (hj) ?_
    refine R_ld1 rfl ?_
    refine R_la0 rfl ?_
    refine R_getR rfl sh_146 rfl (rf_146_0 hrf) ?_
    refine R_n 3 rfl rfl ?_
    refine R_ld2 rfl ?_
    refine R_addN rfl ?_
    refine R_ald rfl sh_147 (by first | decide | omega) (by omega) rfl ?_
    refine B1_ge rfl (fun h14 => ?_) (fun h14 => ?_)
    · refine R_n 1 rfl rfl ?_
      refine R_addN rfl ?_
      refine R_st1 rfl ?_
      refine R_in2 rfl rfl ?_
      refine R_goto rfl ?_
      first | (rw [ct_f (f := (fun k => decide (0 ≤ ρ 147 (3 + k)))) (decide_eq_false h14)] at hnext; exact hnext) | (rw [ct_t (f := (fun k => decide (0 ≤ ρ 147 (3 + k)))) (decide_eq_true h14)] at hnext; exact hnext)
    · refine R_n 0 rfl rfl ?_
      refine R_goto rfl ?_
      refine R_addN rfl ?_
      refine R_st1 rfl ?_
      refine R_in2 rfl rfl ?_
      refine R_goto rfl ?_
      first | (rw [ct_f (f := (fun k => decide (0 ≤ ρ 147 (3 + k)))) (decide_eq_false h14)] at hnext; exact hnext) | (rw [ct_t (f := (fun k => decide (0 ≤ ρ 147 (3 + k)))) (decide_eq_true h14)] at hnext; exact hnext)

theorem x_bridges (hrf : RFok rf) (hR : Rel σ (ρ 147) n rc) : PC 130 [.ref 146] (HP sl ρ rf) (some (.int (nI (fb_ct (br σ) n)))) (HP sl ρ rf) := by
  have h16 := hR.b.1
  have hl := down (n := n) (P := fun j => PW p_c_X5_bridges 4 [some (.ref 146), some (.int (nI (fb_ct (br σ) j))), some (.int (nI j))] [] (HP sl ρ rf) (fun zz => zz = ((some (.int (nI (fb_ct (br σ) n)))), HP sl ρ rf))) ?_ ?_
  · refine PC_of (cd := p_c_X5_bridges) (L0 := [some (.ref 146), none, none]) rfl rfl ?_
    refine R_n 0 rfl rfl ?_
    refine R_st1 rfl ?_
    refine R_n 0 rfl rfl ?_
    refine R_st2 rfl ?_
    exact hl 0 (Nat.zero_le _)
  · refine R_ld2 rfl ?_
    refine R_la0 rfl ?_
    refine R_getR rfl sh_146 rfl (rf_146_0 hrf) ?_
    refine R_n 1 rfl rfl ?_
    refine R_ald rfl sh_147 (by first | decide | omega) (by omega) hR.b.2.2.1 ?_
    refine N2_geT rfl (by omega) (by omega) (by omega) ?_
    refine R_ld1 rfl ?_
    exact R_iret rfl (rfl)
  · intro j hj hnext
    refine R_ld2 rfl ?_
    refine R_la0 rfl ?_
    refine R_getR rfl sh_146 rfl (rf_146_0 hrf) ?_
    refine R_n 1 rfl rfl ?_
    refine R_ald rfl sh_147 (by first | decide | omega) (by omega) hR.b.2.2.1 ?_
    refine N2_geF rfl (by omega) (by omega) (hj) ?_
    refine R_ld1 rfl ?_
    refine R_la0 rfl ?_
    refine R_ld2 rfl ?_
    refine R_n 5 rfl rfl ?_
    refine R_c1 rfl (xn_left hrf hR hj) rfl rfl rfl sh_146 rfl rfl ?_
    refine B1_le rfl (fun h15 => ?_) (fun h15 => ?_)
    · refine R_n 0 rfl rfl ?_
      refine R_addN rfl ?_
      refine R_st1 rfl ?_
      refine R_in2 rfl rfl ?_
      refine R_goto rfl ?_
      first | (rw [ct_f (br_f1 h15)] at hnext; exact hnext) | (rw [ct_t (br_t1 h15)] at hnext; exact hnext)
    · refine R_n 1 rfl rfl ?_
      refine R_goto rfl ?_
      refine R_addN rfl ?_
      refine R_st1 rfl ?_
      refine R_in2 rfl rfl ?_
      refine R_goto rfl ?_
      first | (rw [ct_f (br_f1 h15)] at hnext; exact hnext) | (rw [ct_t (br_t1 h15)] at hnext; exact hnext)

theorem x_rowOf (hrf : RFok rf) (hR : Rel σ (ρ 147) n rc) {m j : Nat} (hm : m < 6) (hj : j < 4) : PC 145 [.ref 146, .int (nI m), .int (nI j)] (HP sl ρ rf) (some (.int (if j < rc m then rw0 σ m j else -4))) (HP sl ρ rf) := by
  have h4 := (hR.m hm).1
  refine PC_of (cd := p_c_X5_rowOf) (L0 := [some (.ref 146), some (.int (nI m)), some (.int (nI j))]) rfl rfl ?_
  refine R_ld2 rfl ?_
  refine R_la0 rfl ?_
  refine R_ld1 rfl ?_
  refine R_n 0 rfl rfl ?_
  refine R_c1 rfl (xo_rows hrf hR hm) rfl rfl rfl sh_146 rfl rfl ?_
  refine N2_ge rfl (by omega) (by omega) (fun h5 => ?_) (fun h5 => ?_)
  · refine R_i rfl ?_
    exact R_iret rfl (by first | exact lf_i (if_pos (by omega)).symm | exact lf_i (if_neg (by omega)).symm)
  · refine R_la0 rfl ?_
    refine R_ld1 rfl ?_
    refine R_n 1 rfl rfl ?_
    refine R_ld2 rfl ?_
    refine R_addN rfl ?_
    refine R_c1 rfl (xo_mask hrf hR hm hj) rfl rfl rfl sh_146 rfl rfl ?_
    refine R_goto rfl ?_
    exact R_iret rfl (by first | exact lf_i (if_pos (by omega)).symm | exact lf_i (if_neg (by omega)).symm)

theorem x_reasonOf (hrf : RFok rf) (hR : Rel σ (ρ 147) n rc) {m : Nat} (hm : m < 6) : PC 140 [.ref 146, .int (nI m)] (HP sl ρ rf) (some (.int (nI (rsn (bt (σ 12 0) m) (σ 16 m) (pmI (rw0 σ m) (rc m) (M (cS σ n))) (σ 12 0 &&& σ 15 m))))) (HP sl ρ rf) := by
  refine PC_of (cd := p_c_X5_reasonOf) (L0 := [some (.ref 146), some (.int (nI m))]) rfl rfl ?_
  refine R_la0 rfl ?_
  refine R_ld1 rfl ?_
  refine R_n 5 rfl rfl ?_
  refine R_c1 rfl (xo_runs hrf hR hm) rfl rfl rfl sh_146 rfl rfl ?_
  refine R_n 1 rfl rfl ?_
  refine B2_ne rfl (fun h5 => ?_) (fun h5 => ?_)
  · refine R_la0 rfl ?_
    refine R_ld1 rfl ?_
    refine R_n 6 rfl rfl ?_
    refine R_c1 rfl (xo_first hrf hR hm) rfl rfl rfl sh_146 rfl rfl ?_
    refine B1_lt rfl (fun h12 => ?_) (fun h12 => ?_)
    · refine R_la0 rfl ?_
      refine R_ld1 rfl ?_
      refine R_la0 rfl ?_
      refine R_c1 rfl (x_closedOnes hrf hR) rfl rfl rfl sh_146 rfl rfl ?_
      refine R_c1 rfl (x_isPerm hrf hR hm _) rfl rfl rfl sh_146 rfl rfl ?_
      refine BB_ne rfl (fun h20 => ?_) (fun h20 => ?_)
      · refine R_la0 rfl ?_
        refine R_ld1 rfl ?_
        refine R_n 12 rfl rfl ?_
        refine R_c1 rfl (xo_excl hrf hR hm) rfl rfl rfl sh_146 rfl rfl ?_
        refine R_la0 rfl ?_
        refine R_c1 rfl (x_running hrf hR) rfl rfl rfl sh_146 rfl rfl ?_
        refine R_and rfl ?_
        refine B1_eq rfl (fun h30 => ?_) (fun h30 => ?_)
        · refine R_n 0 rfl rfl ?_
          exact R_iret rfl (by unfold rsn; first | (rw [if_pos (bIt.mp h5)]; done) | (rw [if_neg (by rw [bIf.mp h5]; decide), if_pos (by intro q; rw [q] at h12; revert h12; decide)]; done) | (have e := (hR.m hm).2.2.2.2.2.2.1; have e2 : σ 16 m = -1 := (by rcases e with e | e; exact e; exact absurd h12 (Int32.not_lt.mpr e)); rw [if_neg (by rw [bIf.mp h5]; decide), if_neg (fun q => q e2)]; first | (rw [if_pos h20]; done) | (rw [if_neg (by rw [h20]; decide)]; rw [show σ 12 0 &&& σ 15 m = σ 15 m &&& σ 12 0 from Int32.and_comm _ _]; first | (rw [if_pos h30]; done) | (rw [if_neg (fun q => q h30)]; done))))
        · refine R_n 4 rfl rfl ?_
          refine R_goto rfl ?_
          exact R_iret rfl (by unfold rsn; first | (rw [if_pos (bIt.mp h5)]; done) | (rw [if_neg (by rw [bIf.mp h5]; decide), if_pos (by intro q; rw [q] at h12; revert h12; decide)]; done) | (have e := (hR.m hm).2.2.2.2.2.2.1; have e2 : σ 16 m = -1 := (by rcases e with e | e; exact e; exact absurd h12 (Int32.not_lt.mpr e)); rw [if_neg (by rw [bIf.mp h5]; decide), if_neg (fun q => q e2)]; first | (rw [if_pos h20]; done) | (rw [if_neg (by rw [h20]; decide)]; rw [show σ 12 0 &&& σ 15 m = σ 15 m &&& σ 12 0 from Int32.and_comm _ _]; first | (rw [if_pos h30]; done) | (rw [if_neg (fun q => q h30)]; done))))
      · refine R_n 3 rfl rfl ?_
        exact R_iret rfl (by unfold rsn; first | (rw [if_pos (bIt.mp h5)]; done) | (rw [if_neg (by rw [bIf.mp h5]; decide), if_pos (by intro q; rw [q] at h12; revert h12; decide)]; done) | (have e := (hR.m hm).2.2.2.2.2.2.1; have e2 : σ 16 m = -1 := (by rcases e with e | e; exact e; exact absurd h12 (Int32.not_lt.mpr e)); rw [if_neg (by rw [bIf.mp h5]; decide), if_neg (fun q => q e2)]; first | (rw [if_pos h20]; done) | (rw [if_neg (by rw [h20]; decide)]; rw [show σ 12 0 &&& σ 15 m = σ 15 m &&& σ 12 0 from Int32.and_comm _ _]; first | (rw [if_pos h30]; done) | (rw [if_neg (fun q => q h30)]; done))))
    · refine R_n 2 rfl rfl ?_
      exact R_iret rfl (by unfold rsn; first | (rw [if_pos (bIt.mp h5)]; done) | (rw [if_neg (by rw [bIf.mp h5]; decide), if_pos (by intro q; rw [q] at h12; revert h12; decide)]; done) | (have e := (hR.m hm).2.2.2.2.2.2.1; have e2 : σ 16 m = -1 := (by rcases e with e | e; exact e; exact absurd h12 (Int32.not_lt.mpr e)); rw [if_neg (by rw [bIf.mp h5]; decide), if_neg (fun q => q e2)]; first | (rw [if_pos h20]; done) | (rw [if_neg (by rw [h20]; decide)]; rw [show σ 12 0 &&& σ 15 m = σ 15 m &&& σ 12 0 from Int32.and_comm _ _]; first | (rw [if_pos h30]; done) | (rw [if_neg (fun q => q h30)]; done))))
  · refine R_n 1 rfl rfl ?_
    exact R_iret rfl (by unfold rsn; first | (rw [if_pos (bIt.mp h5)]; done) | (rw [if_neg (by rw [bIf.mp h5]; decide), if_pos (by intro q; rw [q] at h12; revert h12; decide)]; done) | (have e := (hR.m hm).2.2.2.2.2.2.1; have e2 : σ 16 m = -1 := (by rcases e with e | e; exact e; exact absurd h12 (Int32.not_lt.mpr e)); rw [if_neg (by rw [bIf.mp h5]; decide), if_neg (fun q => q e2)]; first | (rw [if_pos h20]; done) | (rw [if_neg (by rw [h20]; decide)]; rw [show σ 12 0 &&& σ 15 m = σ 15 m &&& σ 12 0 from Int32.and_comm _ _]; first | (rw [if_pos h30]; done) | (rw [if_neg (fun q => q h30)]; done))))

end
