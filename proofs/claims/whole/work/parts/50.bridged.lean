/-! one call in both, on: bridged -/

/-- j's bridge ends ahead of i's -/
def ah (σ : pR) (i j : Nat) : Bool := br σ j && (decide (σ 8 j < σ 8 i) || (decide (σ 8 j = σ 8 i) && decide (j < i)))
section
variable {sl : Nat} {s : Nat → Int32} {ρ ρr ρn ρt σ : pR} {rf : pF} {n : Nat} {rc : Nat → Nat}
theorem ah_ir (i : Nat) : ah σ i i = false := by
  unfold ah
  rw [decide_eq_false (show ¬ σ 8 i < σ 8 i from Int32.lt_irrefl), decide_eq_false (Nat.lt_irrefl i)]
  simp
theorem ah_t {i j : Nat} (hb : br σ j = true) (h : σ 8 j < σ 8 i) : ah σ i j = true := by
  unfold ah
  rw [hb, decide_eq_true h]
  rfl
theorem ah_t2 {i j : Nat} (hb : br σ j = true) (h : σ 8 j = σ 8 i) (h2 : j < i) : ah σ i j = true := by
  unfold ah
  rw [hb, decide_eq_true h, decide_eq_true h2]
  simp
theorem ah_p {i j : Nat} : ah σ i j = true ↔ br σ j = true ∧ (σ 8 j < σ 8 i ∨ (σ 8 j = σ 8 i ∧ j < i)) := by
  unfold ah
  rw [Bool.and_eq_true, Bool.or_eq_true, Bool.and_eq_true, decide_eq_true_iff, decide_eq_true_iff, decide_eq_true_iff]
theorem i_lt {a b c : Int32} (h : a < b) (h2 : b < c) : a < c := Int32.lt_trans h h2
theorem ah_tr {i j k : Nat} (h : ah σ i j = true) (h2 : ah σ j k = true) : ah σ i k = true := by
  rw [ah_p] at h h2 ⊢
  refine ⟨h2.1, ?_⟩
  rcases h.2 with a | ⟨a, a2⟩ <;> rcases h2.2 with b | ⟨b, b2⟩
  · exact Or.inl (i_lt b a)
  · exact Or.inl (by rw [b]; exact a)
  · exact Or.inl (by rw [← a]; exact b)
  · exact Or.inr ⟨b.trans a, by omega⟩
theorem ah_tot {i j : Nat} (hi : br σ i = true) (hj : br σ j = true) (h : i ≠ j) : ah σ i j = true ∨ ah σ j i = true := by
  rw [ah_p, ah_p]
  by_cases e : σ 8 i = σ 8 j
  · rcases (show i < j ∨ j < i by omega) with q | q
    · exact Or.inr ⟨hi, Or.inr ⟨e, q⟩⟩
    · exact Or.inl ⟨hj, Or.inr ⟨e.symm, q⟩⟩
  · by_cases q : σ 8 j < σ 8 i
    · exact Or.inl ⟨hj, Or.inl q⟩
    · exact Or.inr ⟨hi, Or.inl (Int32.not_le.mp (fun q2 => e (Int32.le_antisymm (Int32.not_lt.mp q) q2)))⟩
def rk (σ : pR) (n i : Nat) : Nat := fb_ct (ah σ i) n
theorem ct_lt {p q : Nat → Bool} : ∀ {n : Nat} {k : Nat}, (∀ i, i < n → q i = true → p i = true) → k < n → p k = true → q k = false → fb_ct q n < fb_ct p n
  | 0, k, _, hk, _, _ => absurd hk (Nat.not_lt_zero _)
  | n + 1, k, h, hk, hp, hq => by
    rw [fb_ct_succ, fb_ct_succ]
    by_cases e : k = n
    · subst e
      have := ct_le (p := p) (q := q) (n := k) fun i hi => h i (by omega)
      rw [hp, hq]
      simp
      omega
    · have := ct_lt (p := p) (q := q) (n := n) (k := k) (fun i hi => h i (by omega)) (by omega) hp hq
      have h2 := h n (Nat.lt_succ_self n)
      cases hqn : q n
      · simp; split <;> omega
      · rw [h2 hqn]; simp; omega
theorem rk_lt {i j : Nat} (hj : j < n) (h : ah σ i j = true) : rk σ n j < rk σ n i := ct_lt (fun a _ q => ah_tr h q) hj h (ah_ir j)
theorem rk_inj {i j : Nat} (hi : i < n) (hj : j < n) (bi : br σ i = true) (bj : br σ j = true) (h : rk σ n i = rk σ n j) : i = j := by
  by_cases e : i = j
  · exact e
  · rcases ah_tot bi bj e with q | q
    · have := rk_lt hj q; omega
    · have := rk_lt hi q; omega
theorem eF_min {ρ : pR} {x : Int32} : ∀ {m : Nat}, (∀ j, j < m → bt x j = true → br ρ j = true) → match eF ρ x m with
    | none => ∀ j, j < m → bt x j = false
    | some f => f < m ∧ bt x f = true ∧ ∀ j, j < m → bt x j = true → j ≠ f → ah ρ j f = true
  | 0, _ => fun j hj => absurd hj (Nat.not_lt_zero _)
  | m + 1, h => by
    have ih := eF_min (ρ := ρ) (x := x) (m := m) fun j hj => h j (by omega)
    unfold eF
    cases hf : eF ρ x m with
    | none =>
      rw [hf] at ih
      dsimp only at ih ⊢
      by_cases hb : bt x m = true
      · rw [if_pos hb]
        refine ⟨Nat.lt_succ_self m, hb, fun j hj hj2 hne => ?_⟩
        have := ih j (by omega)
        rw [hj2] at this
        cases this
      · rw [if_neg hb]
        intro j hj
        by_cases e : j = m
        · subst e
          cases hq : bt x j
          · rfl
          · exact absurd hq hb
        · exact ih j (by omega)
    | some f =>
      rw [hf] at ih
      dsimp only at ih ⊢
      obtain ⟨i1, i2, i3⟩ := ih
      by_cases hb : bt x m = true ∧ ρ 8 m < ρ 8 f
      · rw [if_pos hb]
        refine ⟨Nat.lt_succ_self m, hb.1, fun j hj hj2 hne => ?_⟩
        have hm : ah ρ f m = true := ah_t (h m (Nat.lt_succ_self m) hb.1) hb.2
        by_cases e : j = f
        · rw [e]; exact hm
        · exact ah_tr (i3 j (by omega) hj2 e) hm
      · rw [if_neg hb]
        refine ⟨by omega, i2, fun j hj hj2 hne => ?_⟩
        by_cases e : j = m
        · subst e
          have hle : ρ 8 f ≤ ρ 8 j := Int32.not_lt.mp fun q => hb ⟨hj2, q⟩
          rw [ah_p]
          refine ⟨h f (by omega) i2, ?_⟩
          by_cases q : ρ 8 f = ρ 8 j
          · exact Or.inr ⟨q, i1⟩
          · exact Or.inl (Int32.not_le.mp fun q2 => q (Int32.le_antisymm hle q2))
        · exact i3 j (by omega) hj2 hne
theorem ct_rm {p q : Nat → Bool} {f : Nat} (hf : p f = true) (hq : q f = false) (h : ∀ i, i ≠ f → q i = p i) : ∀ {n : Nat}, f < n → fb_ct q n + 1 = fb_ct p n
  | 0, hn => absurd hn (Nat.not_lt_zero _)
  | n + 1, hn => by
    rw [fb_ct_succ, fb_ct_succ]
    by_cases e : n = f
    · subst e
      rw [hf, hq, fb_ct_cong (p := q) (q := p) fun i hi => h i (by omega)]
      simp
    · rw [h n e, ← ct_rm hf hq h (n := n) (by omega)]
      omega
/-- when k bridged ones have been taken out -/
theorem by_inv (hn : n ≤ 16) : ∀ k, k ≤ fb_ct (br ρ) n → (∀ i, i < 32 → bt (byM ρ n k) i = true → i < n ∧ br ρ i = true) ∧ fb_ct (bt (byM ρ n k)) n + k = fb_ct (br ρ) n ∧ (∀ i j, i < n → j < n → bt (byM ρ n k) i = true → br ρ j = true → bt (byM ρ n k) j = false → ah ρ i j = true)
  | 0, _ => by
    have hb : ∀ i, i < 32 → bt (byM ρ n 0) i = (decide (i < n) && br ρ i) := fun i hi => by
      show bt (wA (br ρ) n) i = _
      rw [wA_M hn, M_bt _ hi]
      by_cases h : i < n
      · simp [h, show i < 16 by omega]
      · simp [h]
    refine ⟨fun i hi h => ?_, ?_, fun i j hi hj h1 h2 h3 => ?_⟩
    · rw [hb i hi, Bool.and_eq_true] at h
      exact ⟨of_decide_eq_true h.1, h.2⟩
    · rw [fb_ct_cong (q := br ρ) fun i hi => by rw [hb i (by omega), decide_eq_true hi, Bool.true_and]]
      rfl
    · rw [hb j (by omega), decide_eq_true hj, h2] at h3
      cases h3
  | k + 1, hk => by
    obtain ⟨h1, h2, h3⟩ := by_inv hn k (by omega)
    have hm := eF_min (ρ := ρ) (x := byM ρ n k) (m := n) fun j hj hb => (h1 j (by omega) hb).2
    cases hf : eF ρ (byM ρ n k) n with
    | none =>
      rw [hf] at hm
      dsimp only at hm
      have := fb_ct_zero.mpr hm
      omega
    | some f =>
      rw [hf] at hm
      dsimp only at hm
      obtain ⟨f1, f2, f3⟩ := hm
      have hs := byM_s hf
      have hat : bt (byM ρ n (k + 1)) f = false := by rw [hs]; exact wI_at (by omega)
      have hne : ∀ i, i ≠ f → bt (byM ρ n (k + 1)) i = bt (byM ρ n k) i := fun i hi => by rw [hs]; exact wI_ne (by omega) hi
      refine ⟨fun i hi h => ?_, ?_, fun i j hi hj q1 q2 q3 => ?_⟩
      · by_cases e : i = f
        · rw [e, hat] at h; cases h
        · rw [hne i e] at h; exact h1 i hi h
      · have := ct_rm (p := bt (byM ρ n k)) (q := bt (byM ρ n (k + 1))) f2 hat hne (n := n) f1
        omega
      · have ei : i ≠ f := fun e => by rw [e, hat] at q1; cases q1
        rw [hne i ei] at q1
        by_cases e : j = f
        · rw [e]; exact f3 i hi q1 ei
        · rw [hne j e] at q3; exact h3 i j hi hj q1 q2 q3
theorem by_f (hn : n ≤ 16) {k : Nat} (hk : k < fb_ct (br ρ) n) : ∃ f, eF ρ (byM ρ n k) n = some f ∧ f < n ∧ br ρ f = true ∧ rk ρ n f = k := by
  obtain ⟨h1, h2, h3⟩ := by_inv (ρ := ρ) hn k (by omega)
  have hm := eF_min (ρ := ρ) (x := byM ρ n k) (m := n) fun j hj hb => (h1 j (by omega) hb).2
  cases hf : eF ρ (byM ρ n k) n with
  | none =>
    rw [hf] at hm
    dsimp only at hm
    have := fb_ct_zero.mpr hm
    omega
  | some f =>
    rw [hf] at hm
    dsimp only at hm
    obtain ⟨f1, f2, f3⟩ := hm
    refine ⟨f, rfl, f1, (h1 f (by omega) f2).2, ?_⟩
    have e := ct_part (p := fun i => decide (i < n) && br ρ i) (q := fun i => decide (i < n) && bt (byM ρ n k) i) (r := fun i => decide (i < n) && ah ρ f i) (fun i => by
      by_cases hi : i < n
      · simp only [hi, decide_true, Bool.true_and]
        cases hb : br ρ i with
        | false =>
          cases hq : bt (byM ρ n k) i with
          | true => have := (h1 i (by omega) hq).2; rw [hb] at this; cases this
          | false =>
            cases ha : ah ρ f i with
            | true => have := (ah_p.mp ha).1; rw [hb] at this; cases this
            | false => rfl
        | true =>
          cases hq : bt (byM ρ n k) i with
          | true => rfl
          | false => rw [h3 f i f1 hi f2 hb hq]; rfl
      · simp [hi]) (fun i => by
      by_cases hi : i < n
      · simp only [hi, decide_true, Bool.true_and]
        cases hq : bt (byM ρ n k) i with
        | false => rfl
        | true =>
          cases ha : ah ρ f i with
          | false => rfl
          | true =>
            by_cases ef : i = f
            · rw [ef, ah_ir] at ha; cases ha
            · have := ah_tr ha (f3 i hi hq ef)
              rw [ah_ir] at this
              cases this
      · simp [hi]) n
    have c := fun (q : Nat → Bool) => (fb_ct_cong (n := n) (p := fun i => decide (i < n) && q i) (q := q) fun i hi => by rw [decide_eq_true hi, Bool.true_and])
    rw [c, c, c] at e
    show fb_ct (ah ρ f) n = k
    omega
theorem p_ah0 {i j : Nat} (h : σ 8 j ≤ 0) : ah σ i j = false := by unfold ah; rw [br_f1 h]; rfl
theorem p_ah1 {i j : Nat} (h : ¬ σ 8 j ≤ 0) (h2 : σ 8 j < σ 8 i) : ah σ i j = true := ah_t (br_t1 h) h2
theorem p_ah2 {i j : Nat} (h : ¬ σ 8 j < σ 8 i) (h2 : ¬ σ 8 j = σ 8 i) : ah σ i j = false := by unfold ah; rw [decide_eq_false h, decide_eq_false h2]; simp
theorem p_ah3 {i j : Nat} (h : ¬ σ 8 j ≤ 0) (h2 : σ 8 j = σ 8 i) (h3 : j < i) : ah σ i j = true := ah_t2 (br_t1 h) h2 h3
theorem p_ah4 {i j : Nat} (h2 : σ 8 j = σ 8 i) (h3 : i ≤ j) : ah σ i j = false := by unfold ah; rw [h2, decide_eq_false (show ¬ σ 8 i < σ 8 i from Int32.lt_irrefl), decide_eq_false (show ¬ j < i by omega)]; simp
theorem bx_l {x : Int32} {f : Nat} (h : (br σ f && decide (nI (rk σ n f) = x)) = true) : ¬ σ 8 f ≤ 0 := fun q => by
  rw [br_f1 q] at h
  cases h
theorem bx_r {x : Int32} {f : Nat} (h : (br σ f && decide (nI (rk σ n f) = x)) = true) : nI (rk σ n f) = x := by
  rw [Bool.and_eq_true] at h
  exact of_decide_eq_true h.2
theorem bx_n {x : Int32} {f : Nat} (h : (br σ f && decide (nI (rk σ n f) = x)) = false) (h2 : ¬ σ 8 f ≤ 0) : ¬ nI (rk σ n f) = x := fun q => by
  rw [br_t1 h2, decide_eq_true q] at h
  cases h
theorem x_endAhead (hrf : RFok rf) (hR : Rel σ (ρ 147) n rc) {i : Nat} (hi : i < n) : PC 133 [.ref 146, .int (nI i)] (HP sl ρ rf) (some (.int (nI (rk σ n i)))) (HP sl ρ rf) := by
  have h16 := hR.b.1
  have hl := down (n := n) (P := fun j => ∀ w0 : Option Value, PW p_c_X5_endAhead 4 [some (.ref 146), some (.int (nI i)), some (.int (nI (fb_ct (ah σ i) j))), some (.int (nI j)), w0] [] (HP sl ρ rf) (fun zz => zz = ((some (.int (nI (rk σ n i)))), HP sl ρ rf))) ?_ ?_
  · refine PC_of (cd := p_c_X5_endAhead) (L0 := [some (.ref 146), some (.int (nI i)), none, none, none]) rfl rfl ?_
    refine R_n 0 rfl rfl ?_
    refine R_st2 rfl ?_
    refine R_n 0 rfl rfl ?_
    refine R_st3 rfl ?_
    exact hl 0 (Nat.zero_le _) _
  · intro w0
    refine R_ld3 rfl ?_
    refine R_la0 rfl ?_
    refine R_getR rfl sh_146 rfl (rf_146_0 hrf) ?_
    refine R_n 1 rfl rfl ?_
    refine R_ald rfl sh_147 (by first | decide | omega) (by omega) hR.b.2.2.1 ?_
    refine N2_geT rfl (by omega) (by omega) (by omega) ?_
    refine R_ld2 rfl ?_
    exact R_iret rfl (rfl)
  · intro j hj hnext w0
    refine R_ld3 rfl ?_
    refine R_la0 rfl ?_
    refine R_getR rfl sh_146 rfl (rf_146_0 hrf) ?_
    refine R_n 1 rfl rfl ?_
    refine R_ald rfl sh_147 (by first | decide | omega) (by omega) hR.b.2.2.1 ?_
    refine N2_geF rfl (by omega) (by omega) (hj) ?_
    refine R_la0 rfl ?_
    refine R_ld3 rfl ?_
    refine R_n 5 rfl rfl ?_
    refine R_c1 rfl (xn_left hrf hR hj) rfl rfl rfl sh_146 rfl rfl ?_
    refine R_la0 rfl ?_
    refine R_ld1 rfl ?_
    refine R_n 5 rfl rfl ?_
    refine R_c1 rfl (xn_left hrf hR hi) rfl rfl rfl sh_146 rfl rfl ?_
    refine B2_lt rfl (fun h18 => ?_) (fun h18 => ?_)
    · refine R_n 1 rfl rfl ?_
      refine R_goto rfl ?_
      refine R_st4 rfl ?_
      refine R_ld2 rfl ?_
      refine R_la0 rfl ?_
      refine R_ld3 rfl ?_
      refine R_n 5 rfl rfl ?_
      refine R_c1 rfl (xn_left hrf hR hj) rfl rfl rfl sh_146 rfl rfl ?_
      refine B1_le rfl (fun h40 => ?_) (fun h40 => ?_)
      · refine R_n 0 rfl rfl ?_
        refine R_addN rfl ?_
        refine R_st2 rfl ?_
        refine R_in3 rfl rfl ?_
        refine R_goto rfl ?_
        first
          | (rw [ct_f (p_ah0 h40)] at hnext; exact hnext _)
          | (rw [ct_t (p_ah1 h40 h18)] at hnext; exact hnext _)
          | (rw [ct_f (p_ah2 h18 h27)] at hnext; exact hnext _)
          | (rw [ct_t (p_ah3 h40 h27 h30)] at hnext; exact hnext _)
          | (rw [ct_f (p_ah4 h27 h30)] at hnext; exact hnext _)
      · refine R_ld4 rfl ?_
        refine B1_eqF rfl (by decide) ?_
        refine R_n 1 rfl rfl ?_
        refine R_goto rfl ?_
        refine R_addN rfl ?_
        refine R_st2 rfl ?_
        refine R_in3 rfl rfl ?_
        refine R_goto rfl ?_
        first
          | (rw [ct_f (p_ah0 h40)] at hnext; exact hnext _)
          | (rw [ct_t (p_ah1 h40 h18)] at hnext; exact hnext _)
          | (rw [ct_f (p_ah2 h18 h27)] at hnext; exact hnext _)
          | (rw [ct_t (p_ah3 h40 h27 h30)] at hnext; exact hnext _)
          | (rw [ct_f (p_ah4 h27 h30)] at hnext; exact hnext _)
    · refine R_la0 rfl ?_
      refine R_ld3 rfl ?_
      refine R_n 5 rfl rfl ?_
      refine R_c1 rfl (xn_left hrf hR hj) rfl rfl rfl sh_146 rfl rfl ?_
      refine R_la0 rfl ?_
      refine R_ld1 rfl ?_
      refine R_n 5 rfl rfl ?_
      refine R_c1 rfl (xn_left hrf hR hi) rfl rfl rfl sh_146 rfl rfl ?_
      refine B2_ne rfl (fun h27 => ?_) (fun h27 => ?_)
      · refine R_n 0 rfl rfl ?_
        refine R_st4 rfl ?_
        refine R_ld2 rfl ?_
        refine R_la0 rfl ?_
        refine R_ld3 rfl ?_
        refine R_n 5 rfl rfl ?_
        refine R_c1 rfl (xn_left hrf hR hj) rfl rfl rfl sh_146 rfl rfl ?_
        refine B1_le rfl (fun h40 => ?_) (fun h40 => ?_)
        · refine R_n 0 rfl rfl ?_
          refine R_addN rfl ?_
          refine R_st2 rfl ?_
          refine R_in3 rfl rfl ?_
          refine R_goto rfl ?_
          first
            | (rw [ct_f (p_ah0 h40)] at hnext; exact hnext _)
            | (rw [ct_t (p_ah1 h40 h18)] at hnext; exact hnext _)
            | (rw [ct_f (p_ah2 h18 h27)] at hnext; exact hnext _)
            | (rw [ct_t (p_ah3 h40 h27 h30)] at hnext; exact hnext _)
            | (rw [ct_f (p_ah4 h27 h30)] at hnext; exact hnext _)
        · refine R_ld4 rfl ?_
          refine B1_eqT rfl (rfl) ?_
          refine R_n 0 rfl rfl ?_
          refine R_addN rfl ?_
          refine R_st2 rfl ?_
          refine R_in3 rfl rfl ?_
          refine R_goto rfl ?_
          first
            | (rw [ct_f (p_ah0 h40)] at hnext; exact hnext _)
            | (rw [ct_t (p_ah1 h40 h18)] at hnext; exact hnext _)
            | (rw [ct_f (p_ah2 h18 h27)] at hnext; exact hnext _)
            | (rw [ct_t (p_ah3 h40 h27 h30)] at hnext; exact hnext _)
            | (rw [ct_f (p_ah4 h27 h30)] at hnext; exact hnext _)
      · refine R_ld3 rfl ?_
        refine R_ld1 rfl ?_
        refine N2_ge rfl (by omega) (by omega) (fun h30 => ?_) (fun h30 => ?_)
        · refine R_n 0 rfl rfl ?_
          refine R_st4 rfl ?_
          refine R_ld2 rfl ?_
          refine R_la0 rfl ?_
          refine R_ld3 rfl ?_
          refine R_n 5 rfl rfl ?_
          refine R_c1 rfl (xn_left hrf hR hj) rfl rfl rfl sh_146 rfl rfl ?_
          refine B1_le rfl (fun h40 => ?_) (fun h40 => ?_)
          · refine R_n 0 rfl rfl ?_
            refine R_addN rfl ?_
            refine R_st2 rfl ?_
            refine R_in3 rfl rfl ?_
            refine R_goto rfl ?_
            first
              | (rw [ct_f (p_ah0 h40)] at hnext; exact hnext _)
              | (rw [ct_t (p_ah1 h40 h18)] at hnext; exact hnext _)
              | (rw [ct_f (p_ah2 h18 h27)] at hnext; exact hnext _)
              | (rw [ct_t (p_ah3 h40 h27 h30)] at hnext; exact hnext _)
              | (rw [ct_f (p_ah4 h27 h30)] at hnext; exact hnext _)
          · refine R_ld4 rfl ?_
            refine B1_eqT rfl (rfl) ?_
            refine R_n 0 rfl rfl ?_
            refine R_addN rfl ?_
            refine R_st2 rfl ?_
            refine R_in3 rfl rfl ?_
            refine R_goto rfl ?_
            first
              | (rw [ct_f (p_ah0 h40)] at hnext; exact hnext _)
              | (rw [ct_t (p_ah1 h40 h18)] at hnext; exact hnext _)
              | (rw [ct_f (p_ah2 h18 h27)] at hnext; exact hnext _)
              | (rw [ct_t (p_ah3 h40 h27 h30)] at hnext; exact hnext _)
              | (rw [ct_f (p_ah4 h27 h30)] at hnext; exact hnext _)
        · refine R_n 1 rfl rfl ?_
          refine R_goto rfl ?_
          refine R_st4 rfl ?_
          refine R_ld2 rfl ?_
          refine R_la0 rfl ?_
          refine R_ld3 rfl ?_
          refine R_n 5 rfl rfl ?_
          refine R_c1 rfl (xn_left hrf hR hj) rfl rfl rfl sh_146 rfl rfl ?_
          refine B1_le rfl (fun h40 => ?_) (fun h40 => ?_)
          · refine R_n 0 rfl rfl ?_
            refine R_addN rfl ?_
            refine R_st2 rfl ?_
            refine R_in3 rfl rfl ?_
            refine R_goto rfl ?_
            first
              | (rw [ct_f (p_ah0 h40)] at hnext; exact hnext _)
              | (rw [ct_t (p_ah1 h40 h18)] at hnext; exact hnext _)
              | (rw [ct_f (p_ah2 h18 h27)] at hnext; exact hnext _)
              | (rw [ct_t (p_ah3 h40 h27 h30)] at hnext; exact hnext _)
              | (rw [ct_f (p_ah4 h27 h30)] at hnext; exact hnext _)
          · refine R_ld4 rfl ?_
            refine B1_eqF rfl (by decide) ?_
            refine R_n 1 rfl rfl ?_
            refine R_goto rfl ?_
            refine R_addN rfl ?_
            refine R_st2 rfl ?_
            refine R_in3 rfl rfl ?_
            refine R_goto rfl ?_
            first
              | (rw [ct_f (p_ah0 h40)] at hnext; exact hnext _)
              | (rw [ct_t (p_ah1 h40 h18)] at hnext; exact hnext _)
              | (rw [ct_f (p_ah2 h18 h27)] at hnext; exact hnext _)
              | (rw [ct_t (p_ah3 h40 h27 h30)] at hnext; exact hnext _)
              | (rw [ct_f (p_ah4 h27 h30)] at hnext; exact hnext _)

theorem x_bridged_bad (x : Int32) (h : x < 0) : PC 134 [.ref 146, .int x] (HP sl ρ rf) (some (.int (-1))) (HP sl ρ rf) := by
  refine PC_of (cd := p_c_X5_bridged) (L0 := [some (.ref 146), some (.int x), none]) rfl rfl ?_
  refine R_ld1 rfl ?_
  refine B1_geF rfl (Int32.not_le.mpr h) ?_
  refine R_i rfl ?_
  exact R_iret rfl (rfl)

theorem x_bridged_nf (hrf : RFok rf) (hR : Rel σ (ρ 147) n rc) (x : Int32) (h0 : ¬ x < 0) (h : ∀ i, i < n → (fun i => br σ i && decide (nI (rk σ n i) = x)) i = false) : PC 134 [.ref 146, .int x] (HP sl ρ rf) (some (.int (-4))) (HP sl ρ rf) := by
  have h16_ := hR.b.1
  have hl := down (n := n) (P := fun j => PW p_c_X5_bridged 6 [some (.ref 146), some (.int x), some (.int (nI j))] [] (HP sl ρ rf) (fun zz => zz = ((some (.int (-4))), HP sl ρ rf))) ?_ ?_
  · refine PC_of (cd := p_c_X5_bridged) (L0 := [some (.ref 146), some (.int x), none]) rfl rfl ?_
    refine R_ld1 rfl ?_
    refine B1_geT rfl (Int32.not_lt.mp h0) ?_
    refine R_n 0 rfl rfl ?_
    refine R_st2 rfl ?_
    exact hl 0 (Nat.zero_le _)
  · refine R_ld2 rfl ?_
    refine R_la0 rfl ?_
    refine R_getR rfl sh_146 rfl (rf_146_0 hrf) ?_
    refine R_n 1 rfl rfl ?_
    refine R_ald rfl sh_147 (by first | decide | omega) (by omega) hR.b.2.2.1 ?_
    refine N2_geT rfl (by omega) (by omega) (by omega) ?_
    refine R_i rfl ?_
    exact R_iret rfl (rfl)
  · intro j hj hnext
    have hjn : j < n := by omega
    refine R_ld2 rfl ?_
    refine R_la0 rfl ?_
    refine R_getR rfl sh_146 rfl (rf_146_0 hrf) ?_
    refine R_n 1 rfl rfl ?_
    refine R_ald rfl sh_147 (by first | decide | omega) (by omega) hR.b.2.2.1 ?_
    refine N2_geF rfl (by omega) (by omega) (hjn) ?_
    refine R_la0 rfl ?_
    refine R_ld2 rfl ?_
    refine R_n 5 rfl rfl ?_
    refine R_c1 rfl (xn_left hrf hR hjn) rfl rfl rfl sh_146 rfl rfl ?_
    refine B1_le rfl (fun h16 => ?_) (fun h16 => ?_)
    · refine R_in2 rfl rfl ?_
      refine R_goto rfl ?_
      exact hnext
    · refine R_la0 rfl ?_
      refine R_ld2 rfl ?_
      refine R_c1 rfl (x_endAhead hrf hR hjn) rfl rfl rfl sh_146 rfl rfl ?_
      refine R_ld1 rfl ?_
      refine B2_neT rfl (bx_n (h j hj) h16) ?_
      refine R_in2 rfl rfl ?_
      refine R_goto rfl ?_
      exact hnext
theorem x_bridged_ok (hrf : RFok rf) (hR : Rel σ (ρ 147) n rc) (x : Int32) (h0 : ¬ x < 0) {f : Nat} (hf : f < n) (h1 : (fun i => br σ i && decide (nI (rk σ n i) = x)) f = true) (h : ∀ i, i < f → (fun i => br σ i && decide (nI (rk σ n i) = x)) i = false) : PC 134 [.ref 146, .int x] (HP sl ρ rf) (some (.int (nI f))) (HP sl ρ rf) := by
  have h16_ := hR.b.1
  have hl := down (n := f) (P := fun j => PW p_c_X5_bridged 6 [some (.ref 146), some (.int x), some (.int (nI j))] [] (HP sl ρ rf) (fun zz => zz = ((some (.int (nI f))), HP sl ρ rf))) ?_ ?_
  · refine PC_of (cd := p_c_X5_bridged) (L0 := [some (.ref 146), some (.int x), none]) rfl rfl ?_
    refine R_ld1 rfl ?_
    refine B1_geT rfl (Int32.not_lt.mp h0) ?_
    refine R_n 0 rfl rfl ?_
    refine R_st2 rfl ?_
    exact hl 0 (Nat.zero_le _)
  · refine R_ld2 rfl ?_
    refine R_la0 rfl ?_
    refine R_getR rfl sh_146 rfl (rf_146_0 hrf) ?_
    refine R_n 1 rfl rfl ?_
    refine R_ald rfl sh_147 (by first | decide | omega) (by omega) hR.b.2.2.1 ?_
    refine N2_geF rfl (by omega) (by omega) (hf) ?_
    refine R_la0 rfl ?_
    refine R_ld2 rfl ?_
    refine R_n 5 rfl rfl ?_
    refine R_c1 rfl (xn_left hrf hR hf) rfl rfl rfl sh_146 rfl rfl ?_
    refine B1_leF rfl (bx_l h1) ?_
    refine R_la0 rfl ?_
    refine R_ld2 rfl ?_
    refine R_c1 rfl (x_endAhead hrf hR hf) rfl rfl rfl sh_146 rfl rfl ?_
    refine R_ld1 rfl ?_
    refine B2_neF rfl (bx_r h1) ?_
    refine R_ld2 rfl ?_
    exact R_iret rfl (rfl)
  · intro j hj hnext
    have hjn : j < n := by omega
    refine R_ld2 rfl ?_
    refine R_la0 rfl ?_
    refine R_getR rfl sh_146 rfl (rf_146_0 hrf) ?_
    refine R_n 1 rfl rfl ?_
    refine R_ald rfl sh_147 (by first | decide | omega) (by omega) hR.b.2.2.1 ?_
    refine N2_geF rfl (by omega) (by omega) (hjn) ?_
    refine R_la0 rfl ?_
    refine R_ld2 rfl ?_
    refine R_n 5 rfl rfl ?_
    refine R_c1 rfl (xn_left hrf hR hjn) rfl rfl rfl sh_146 rfl rfl ?_
    refine B1_le rfl (fun h16 => ?_) (fun h16 => ?_)
    · refine R_in2 rfl rfl ?_
      refine R_goto rfl ?_
      exact hnext
    · refine R_la0 rfl ?_
      refine R_ld2 rfl ?_
      refine R_c1 rfl (x_endAhead hrf hR hjn) rfl rfl rfl sh_146 rfl rfl ?_
      refine R_ld1 rfl ?_
      refine B2_neT rfl (bx_n (h j hj) h16) ?_
      refine R_in2 rfl rfl ?_
      refine R_goto rfl ?_
      exact hnext
theorem o_bridged (hF : FI s ρ rf) (x : Int32) : Ag sl s 52 134 [.int x] ρ rf := by
  obtain ⟨n, rc, t, hR, ht, ht1, hB⟩ := hF.2.2.1
  have hrf := hF.1
  have hn16 := hR.b.1
  by_cases h0 : x < 0
  · exact Ag_p hF (c_bridged_bad x h0) (x_bridged_bad x h0)
  · obtain ⟨k, hk, rfl⟩ := nI_of h0
    have hcn : fb_ct (br ρ) n ≤ n := fb_ct_le _ _
    by_cases hlt : k < fb_ct (br ρ) n
    · obtain ⟨f, e1, f1, f2, f3⟩ := by_f (ρ := ρ) hn16 hlt
      have hc := c_bridged_ok (sl := sl) hrf hR.b.2.1 hn16 hk (by rw [bc_wA hn16]; exact nI_lt hlt (by omega)) (fun j hj => by
        obtain ⟨g, g1, _⟩ := by_f (ρ := ρ) hn16 (show j < fb_ct (br ρ) n by omega)
        exact ⟨g, g1⟩)
      rw [e1] at hc
      refine Ag_p hF hc (x_bridged_ok hrf hR (nI k) h0 f1 (by show (br ρ f && decide (nI (rk ρ n f) = nI k)) = true; rw [f2, f3, decide_eq_true rfl]; rfl) fun i hi => ?_)
      show (br ρ i && decide (nI (rk ρ n i) = nI k)) = false
      cases hb : br ρ i with
      | false => rfl
      | true =>
        have hri : rk ρ n i ≤ n := fb_ct_le _ _
        rw [decide_eq_false (fun q => by
          have := (nI_eq (by omega) hk).mp q
          have := rk_inj (n := n) (by omega) f1 hb f2 (by omega)
          omega)]
        rfl
    · refine Ag_p hF (c_bridged_nf hrf hR.b.2.1 hn16 _ h0 (by rw [bc_wA hn16]; exact nI_le (by omega) hk)) (x_bridged_nf hrf hR (nI k) h0 fun i hi => ?_)
      show (br ρ i && decide (nI (rk ρ n i) = nI k)) = false
      cases hb : br ρ i with
      | false => rfl
      | true =>
        have hri : rk ρ n i < fb_ct (br ρ) n := ct_lt (fun a _ q => (ah_p.mp q).1) hi hb (ah_ir i)
        rw [decide_eq_false (fun q => by
          have := (nI_eq (by omega) hk).mp q
          omega)]
        rfl
end
