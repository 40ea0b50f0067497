/-! the tick beside the program's; run; the past -/
section
variable {sl : Nat} {ρ σ : pR} {μ : Nat → Int32} {rf : pF} {n : Nat} {rc : Nat → Nat}
theorem eoS_c {r r' : pR} {j : Nat} (h : ∀ k, k ≠ 9 → r' k = r k) : ∀ k, k ≠ 9 → eoS r' j k = eoS r j k := by
  have h1 : ∀ k, k ≠ 9 → eoL r' j k = eoL r j k := fun k hk => by
    unfold eoL
    rw [h 8 (by decide)]
    split
    · by_cases e : k = 8
      · subst e
        rw [u2_at, u2_at, h 8 (by decide)]
      · rw [u2_ne e, u2_ne e, h k hk]
    · exact h k hk
  intro k hk
  unfold eoS eoP
  rw [h1 10 (by decide), h1 11 (by decide), h1 3 (by decide)]
  split
  · by_cases e : k = 10
    · subst e
      rw [u2_at, u2_at, h1 10 (by decide)]
    · rw [u2_ne e, u2_ne e, h1 k hk]
  · exact h1 k hk
theorem tk_eo {r : pR} {j : Nat} (hp : r 10 j = 0 ∨ ¬ r 10 j ≤ 0) : ∀ k, k ≠ 9 → tkS r j k = eoS r j k := by
  intro k hk
  have e10 : eoL r j 10 = r 10 := eoL_f r j (by decide)
  have e11 : eoL r j 11 = r 11 := eoL_f r j (by decide)
  have e3 : eoL r j 3 = r 3 := eoL_f r j (by decide)
  unfold eoS eoP
  rw [e10, e11, e3]
  by_cases a : nI 0 < r 8 j <;> by_cases b : r 11 j < r 3 1
  · rw [tk4 a b, show eoL r j = u2 r 8 j (r 8 j - nI 1) from if_pos a]
    by_cases c : r 10 j ≤ 0
    · rw [if_neg (fun q => q.1 c)]
      by_cases e : k = 10
      · subst e
        rw [u2_at, u2_ne (by decide), u2_ne (by decide)]
        rcases hp with hp | hp
        · have := up_id (r 10) j
          rw [hp] at this
          exact this
        · exact absurd c hp
      · rw [u2_ne e, u2_ne hk]
    · rw [if_pos ⟨c, b⟩]
      by_cases e : k = 10
      · subst e
        rw [u2_at, u2_at, u2_ne (by decide), u2_ne (by decide)]
      · rw [u2_ne e, u2_ne e, u2_ne hk]
  · rw [tk3 a b, if_neg (fun q => b q.2), show eoL r j = u2 r 8 j (r 8 j - nI 1) from if_pos a, u2_ne hk]
  · rw [tk2 a b, show eoL r j = r from if_neg a]
    by_cases c : r 10 j ≤ 0
    · rw [if_neg (fun q => q.1 c)]
      by_cases e : k = 10
      · subst e
        rw [u2_at]
        rcases hp with hp | hp
        · have := up_id (r 10) j
          rw [hp] at this
          exact this
        · exact absurd c hp
      · rw [u2_ne e]
    · rw [if_pos ⟨c, b⟩]
  · rw [tk1 a b, if_neg (fun q => b q.2), show eoL r j = r from if_neg a]
theorem tkS_o (r : pR) (j k s : Nat) (h : s ≠ j) : tkS r j k s = r k s := by
  by_cases a : nI 0 < r 8 j <;> by_cases b : r 11 j < r 3 1
  · rw [tk4 a b]
    by_cases e : k = 10
    · subst e; rw [u2_at, up_ne h, u2_ne (by decide), u2_ne (by decide)]
    · rw [u2_ne e]
      by_cases e : k = 9
      · subst e; rw [u2_at, up_ne h, u2_ne (by decide)]
      · rw [u2_ne e]
        by_cases e : k = 8
        · subst e; rw [u2_at, up_ne h]
        · rw [u2_ne e]
  · rw [tk3 a b]
    by_cases e : k = 9
    · subst e; rw [u2_at, up_ne h, u2_ne (by decide)]
    · rw [u2_ne e]
      by_cases e : k = 8
      · subst e; rw [u2_at, up_ne h]
      · rw [u2_ne e]
  · rw [tk2 a b]
    by_cases e : k = 10
    · subst e; rw [u2_at, up_ne h]
    · rw [u2_ne e]
  · rw [tk1 a b]
theorem tkA_o (σ : pR) {k : Nat} (hk : k ≠ 3) : ∀ j s, j ≤ s → tkA σ j k s = σ k s
  | 0, s, _ => by show u2 σ 3 1 _ k s = _; rw [u2_ne hk]
  | j + 1, s, h => by show tkS (tkA σ j) j k s = _; rw [tkS_o _ _ _ _ (by omega), tkA_o σ hk j s (by omega)]
theorem tk_b (σ : pR) : ∀ j, tkA σ j 9 = biA σ j 9
  | 0 => u2_ne (by decide)
  | j + 1 => by
    have ih := tk_b σ j
    have h8 : tkA σ j 8 j = σ 8 j := tkA_o σ (by decide) j j (Nat.le_refl _)
    have h8b : biA σ j 8 = σ 8 := biA_f σ (by decide) j
    show tkS (tkA σ j) j 9 = _
    by_cases a : nI 0 < σ 8 j
    · rw [biA_1 (by rw [h8b]; exact Int32.not_le.mpr a), u2_at, ← ih]
      by_cases b : tkA σ j 11 j < tkA σ j 3 1
      · rw [tk4 (by rw [h8]; exact a) b, u2_ne (by decide), u2_at, u2_ne (by decide)]
      · rw [tk3 (by rw [h8]; exact a) b, u2_at, u2_ne (by decide)]
    · rw [biA_0 (by rw [h8b]; exact Int32.not_lt.mp a), u2_at, ← ih, show tkA σ j 9 j + nI 0 = tkA σ j 9 j from Int32.add_zero _, up_id]
      by_cases b : tkA σ j 11 j < tkA σ j 3 1
      · rw [tk2 (by rw [h8]; exact a) b, u2_ne (by decide)]
      · rw [tk1 (by rw [h8]; exact a) b]
theorem tk_D (hp : ∀ i, i < n → σ 10 i = 0 ∨ ¬ σ 10 i ≤ 0) : eoA (u2 (biA σ n) 3 1 (biA σ n 3 1 + nI 1)) n = tkA σ n := by
  have h : ∀ j, j ≤ n → ∀ k, k ≠ 9 → eoA (u2 (biA σ n) 3 1 (biA σ n 3 1 + nI 1)) j k = tkA σ j k := fun j => by
    induction j with
    | zero =>
      intro _ k hk
      show u2 (biA σ n) 3 1 (biA σ n 3 1 + nI 1) k = u2 σ 3 1 (σ 3 1 + nI 1) k
      by_cases e : k = 3
      · subst e
        rw [u2_at, u2_at, biA_f σ (by decide)]
      · rw [u2_ne e, u2_ne e, biA_f σ hk]
    | succ j ih =>
      intro hj k hk
      show eoS (eoA _ j) j k = tkS (tkA σ j) j k
      rw [eoS_c (ih (by omega)) k hk, tk_eo ?_ k hk]
      rw [tkA_o σ (by decide) j j (Nat.le_refl _)]
      exact hp j (by omega)
  funext k
  by_cases hk : k = 9
  · subst hk
    rw [tk_b, eoA_3 _ (by decide), u2_ne (by decide)]
  · exact h n (Nat.le_refl _) k hk
theorem Rel.ph (hR : Rel σ μ n rc) (i : Nat) (hi : i < n) : σ 10 i = 0 ∨ ¬ σ 10 i ≤ 0 := by
  rcases (hR.i hi).2.2.2.2.2.2.2.2.2.2.2.1 with h | h | h
  · exact Or.inl h
  · rw [h]; exact Or.inr (by decide)
  · rw [h]; exact Or.inr (by decide)
theorem e_tick (hrf : RFok rf) (hR : Rel σ (ρ 147) n rc) (hT : 0 ≤ σ 3 1 + nI 1) : ∃ μ', Rel (rnS σ n (bt (σ 3 3)) rc) μ' n rc ∧ PC 152 [.ref 146] (HP sl ρ rf) (some (.int (nI (rnK σ n (bt (σ 3 3)) rc)))) (HP sl (u1 ρ 147 μ') rf) := by
  obtain ⟨μ', h1, h2⟩ := x_tick_ (sl := sl) hrf hR hT
  rw [tk_D hR.ph] at h1 h2
  have e : cS (tkA σ n) n = cM (tkA σ n) n (bt (σ 3 3)) := by
    show cM (tkA σ n) n (bt (tkA σ n 3 3)) = _
    rw [show tkA σ n 3 3 = σ 3 3 by rw [tkA_3]; exact up_ne (by decide)]
  rw [e] at h1 h2
  exact ⟨μ', h1, h2⟩
theorem rnS_t (r : pR) (n : Nat) (c : Nat → Bool) (rc : Nat → Nat) : rnS r n c rc 3 1 = r 3 1 + nI 1 := by
  unfold rnS
  rw [ctA_f _ (by decide), suA_f _ _ _ _ _ (by decide), tkA_3, up_eq]
theorem rnA_t {ρ : pR} {t : Nat} (ht : ρ 3 1 = nI t) (n : Nat) (c : Nat → Bool) (rc : Nat → Nat) : ∀ j, rnA ρ n c rc j 3 1 = nI (t + j)
  | 0 => ht
  | j + 1 => by
    show rnS _ _ _ _ 3 1 = _
    rw [rnS_t, rnA_t ht n c rc j, nI_add]
    rfl
/-- the past -/
def cpy (g : Nat → Int32) (q : Nat) (μ : Nat → Int32) (m : Nat) : Nat → Int32 := fun s => if 263 * q ≤ s ∧ s < 263 * q + m then μ (s - 263 * q) else g s
def shf (g : Nat → Int32) (m : Nat) : Nat → Int32 := fun s => if s < m then g (s + 263) else g s
theorem cpy_0 (g : Nat → Int32) (q : Nat) : cpy g q μ 0 = g := by funext s; exact if_neg (by omega)
theorem cpy_s (g : Nat → Int32) (q m : Nat) : upd (cpy g q μ m) (263 * q + m) (μ m) = cpy g q μ (m + 1) := by
  funext s
  unfold cpy
  by_cases e : s = 263 * q + m
  · rw [e, up_eq, if_pos (by omega), show 263 * q + m - 263 * q = m by omega]
  · rw [up_ne e]
    by_cases h : 263 * q ≤ s ∧ s < 263 * q + m
    · rw [if_pos h, if_pos (by omega)]
    · rw [if_neg h, if_neg (by omega)]
theorem shf_0 (g : Nat → Int32) : shf g 0 = g := by funext s; exact if_neg (by omega)
theorem shf_s (g : Nat → Int32) (m : Nat) : upd (shf g m) m (g (m + 263)) = shf g (m + 1) := by
  funext s
  unfold shf
  by_cases e : s = m
  · rw [e, up_eq, if_pos (by omega)]
  · rw [up_ne e]
    by_cases h : s < m
    · rw [if_pos h, if_pos (by omega)]
    · rw [if_neg h, if_neg (by omega)]
theorem shf_hi (g : Nat → Int32) (m : Nat) : shf g m (m + 263) = g (m + 263) := if_neg (by omega)
def rcM (ρ : pR) (p : Nat) : pR := if p < 4 then u2 (u1 ρ 148 (cpy (ρ 148) p (ρ 147) 263)) 146 2 (nI (p + 1)) else u2 (u1 ρ 148 (cpy (shf (ρ 148) 789) 3 (ρ 147) 263)) 146 2 (nI 4)
theorem rcM_f (ρ : pR) (p : Nat) {k : Nat} (h : k ≠ 146 ∧ k ≠ 148) : rcM ρ p k = ρ k := by
  unfold rcM
  split <;> rw [u2_ne h.1, u1_ne h.2]
theorem rec_tail (hrf : RFok rf) {q : Nat} (hq : ρ 146 2 = nI q) (hq4 : q < 4) (w : Option Value) : PW p_c_X5_records 27 [some (.ref 146), w] [] (HP sl ρ rf) (fun zz => zz = (none, HP sl (u2 (u1 ρ 148 (cpy (ρ 148) q (ρ 147) 263)) 146 2 (nI (q + 1))) rf)) := by
  have hl := down (n := 263) (P := fun j => PW p_c_X5_records 29 [some (.ref 146), some (.int (nI j))] [] (HP sl (u1 ρ 148 (cpy (ρ 148) q (ρ 147) j)) rf) (fun zz => zz = (none, HP sl (u2 (u1 ρ 148 (cpy (ρ 148) q (ρ 147) 263)) 146 2 (nI (q + 1))) rf))) ?_ ?_
  rotate_left
  · refine R_ld1 rfl ?_
    refine R_n 263 rfl rfl ?_
    refine N2_geT rfl (by omega) (by omega) (by omega) ?_
    refine R_la0 rfl ?_
    refine R_dupR rfl ?_
    refine R_getI rfl sh_146 rfl (show _ = nI q by (try simp (disch := omega) only [u2_at, u2_ne, up_eq, up_ne, u1_at, u1_ne]); exact hq) ?_
    refine R_n 1 rfl rfl ?_
    refine R_addN rfl ?_
    refine R_putI rfl sh_146 rfl ?_
    exact R_ret rfl (rfl)
  · intro j hj hnext
    refine R_ld1 rfl ?_
    refine R_n 263 rfl rfl ?_
    refine N2_geF rfl (by omega) (by omega) (hj) ?_
    refine R_la0 rfl ?_
    refine R_getR rfl sh_146 rfl (rf_146_1 hrf) ?_
    refine R_n 263 rfl rfl ?_
    refine R_la0 rfl ?_
    refine R_getI rfl sh_146 rfl (show _ = nI q by (try simp (disch := omega) only [u2_at, u2_ne, up_eq, up_ne, u1_at, u1_ne]); exact hq) ?_
    refine R_mulN rfl ?_
    refine R_ld1 rfl ?_
    refine R_addN rfl ?_
    refine R_la0 rfl ?_
    refine R_getR rfl sh_146 rfl (rf_146_0 hrf) ?_
    refine R_ld1 rfl ?_
    refine R_ald rfl sh_147 (by first | decide | omega) (by omega) (show _ = ρ 147 j by (try simp (disch := omega) only [u2_at, u2_ne, up_eq, up_ne, u1_at, u1_ne])) ?_
    refine R_ast rfl sh_148 (by decide) (by omega) ?_
    refine R_in1 rfl rfl ?_
    refine R_goto rfl ?_
    exact PW_eq (by rw [u2_u1, cpy_s]) hnext
  refine R_n 0 rfl rfl ?_
  refine R_st1 rfl ?_
  exact PW_eq (by rw [cpy_0, u1_id]) (hl 0 (Nat.zero_le _))
theorem PW_q {cd : List pI} {i : Nat} {L : pL} {S : List Value} {h : pH} {Q Q' : Option Value × pH → Prop} (k : PW cd i L S h Q) (hq : ∀ z, Q z → Q' z) : PW cd i L S h Q' := by
  obtain ⟨n, r, h1, h2⟩ := k
  exact ⟨n, r, h1, hq r h2⟩
theorem rc_4 : u2 (u1 (u2 (u1 ρ 148 (shf (ρ 148) 789)) 146 2 (nI 3)) 148 (cpy ((u2 (u1 ρ 148 (shf (ρ 148) 789)) 146 2 (nI 3)) 148) 3 ((u2 (u1 ρ 148 (shf (ρ 148) 789)) 146 2 (nI 3)) 147) 263)) 146 2 (nI (3 + 1)) = rcM ρ 4 := by
  unfold rcM
  rw [if_neg (by decide)]
  rw [show (u2 (u1 ρ 148 (shf (ρ 148) 789)) 146 2 (nI 3)) 148 = shf (ρ 148) 789 by (try simp (disch := omega) only [u2_at, u2_ne, up_eq, up_ne, u1_at, u1_ne]), show (u2 (u1 ρ 148 (shf (ρ 148) 789)) 146 2 (nI 3)) 147 = ρ 147 by (try simp (disch := omega) only [u2_at, u2_ne, up_eq, up_ne, u1_at, u1_ne])]
  funext k
  by_cases h : k = 146
  · subst h
    rw [u2_at, u2_at, u1_ne (by decide), u1_ne (by decide), u2_at, u1_ne (by decide)]
    funext s
    by_cases e : s = 2
    · subst e; rw [up_eq, up_eq]
    · rw [up_ne e, up_ne e, up_ne e]
  · rw [u2_ne h, u2_ne h]
    by_cases h2 : k = 148
    · subst h2; rw [u1_at, u1_at]
    · rw [u1_ne h2, u1_ne h2, u2_ne h, u1_ne h2]
theorem x_records4 (hrf : RFok rf) (hp : ρ 146 2 = nI 4) : PC 105 [.ref 146] (HP sl ρ rf) none (HP sl (rcM ρ 4) rf) := by
  have hl := down (n := 789) (P := fun j => PW p_c_X5_records 6 [some (.ref 146), some (.int (nI j))] [] (HP sl (u1 ρ 148 (shf (ρ 148) j)) rf) (fun zz => zz = (none, HP sl (rcM ρ 4) rf))) ?_ ?_
  rotate_left
  · refine R_ld1 rfl ?_
    refine R_n 789 rfl rfl ?_
    refine N2_geT rfl (by omega) (by omega) (by omega) ?_
    refine R_la0 rfl ?_
    refine R_dupR rfl ?_
    refine R_getI rfl sh_146 rfl (show _ = nI 4 by (try simp (disch := omega) only [u2_at, u2_ne, up_eq, up_ne, u1_at, u1_ne]); exact hp) ?_
    refine R_n 1 rfl rfl ?_
    refine R_subN rfl (by omega) ?_
    refine R_putI rfl sh_146 rfl ?_
    have h := rec_tail (sl := sl) (ρ := u2 (u1 ρ 148 (shf (ρ 148) 789)) 146 2 (nI 3)) hrf (q := 3) (by (try simp (disch := omega) only [u2_at, u2_ne, up_eq, up_ne, u1_at, u1_ne])) (by decide) (some (.int (nI 789)))
    refine PW_q h (fun zz hz => ?_)
    rw [hz, rc_4]
  · intro j hj hnext
    refine R_ld1 rfl ?_
    refine R_n 789 rfl rfl ?_
    refine N2_geF rfl (by omega) (by omega) (hj) ?_
    refine R_la0 rfl ?_
    refine R_getR rfl sh_146 rfl (rf_146_1 hrf) ?_
    refine R_ld1 rfl ?_
    refine R_la0 rfl ?_
    refine R_getR rfl sh_146 rfl (rf_146_1 hrf) ?_
    refine R_ld1 rfl ?_
    refine R_n 263 rfl rfl ?_
    refine R_addN rfl ?_
    refine R_ald rfl sh_148 (by first | decide | omega) (by omega) (show _ = ρ 148 (j + 263) by rw [u1_at, shf_hi]) ?_
    refine R_ast rfl sh_148 (by decide) (by omega) ?_
    refine R_in1 rfl rfl ?_
    refine R_goto rfl ?_
    exact PW_eq (by rw [u2_u1, shf_s]) hnext
  refine PC_of (cd := p_c_X5_records) (L0 := [some (.ref 146), none]) rfl rfl ?_
  refine R_la0 rfl ?_
  refine R_getI rfl sh_146 rfl hp ?_
  refine R_n 4 rfl rfl ?_
  refine N2_neF rfl (by omega) (by omega) (rfl) ?_
  refine R_n 0 rfl rfl ?_
  refine R_st1 rfl ?_
  exact PW_eq (by rw [shf_0, u1_id]) (hl 0 (Nat.zero_le _))
theorem x_records (hrf : RFok rf) {p : Nat} (hp : ρ 146 2 = nI p) (hp4 : p ≤ 4) : PC 105 [.ref 146] (HP sl ρ rf) none (HP sl (rcM ρ p) rf) := by
  by_cases h4 : p = 4
  · subst h4
    exact x_records4 hrf hp
  · refine PC_of (cd := p_c_X5_records) (L0 := [some (.ref 146), none]) rfl rfl ?_
    refine R_la0 rfl ?_
    refine R_getI rfl sh_146 rfl hp ?_
    refine R_n 4 rfl rfl ?_
    refine N2_neT rfl (by omega) (by omega) (by omega) ?_
    have h := rec_tail (sl := sl) hrf hp (by omega) none
    unfold rcM
    rw [if_pos (by omega)]
    exact h
end
