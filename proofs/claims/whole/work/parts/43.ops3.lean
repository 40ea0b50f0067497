/-! one call in both, on: keys, bridges -/
section
variable {sl : Nat} {s : Nat → Int32} {ρ ρr ρn ρt σ : pR} {rf : pF} {n : Nat} {rc : Nat → Nat}
theorem ct_one {p q : Nat → Bool} {i : Nat} (h : ∀ j, j ≠ i → q j = p j) : ∀ n, fb_ct q n ≤ fb_ct p n + (if i < n then 1 else 0)
  | 0 => by simp [fb_ct]
  | n + 1 => by
    have ih := ct_one h n
    rw [fb_ct_succ, fb_ct_succ]
    by_cases e : n = i
    · subst e
      rw [if_neg (Nat.lt_irrefl n)] at ih
      rw [if_pos (Nat.lt_succ_self n)]
      split <;> split <;> omega
    · rw [h n e]
      by_cases e2 : i < n
      · rw [if_pos e2] at ih
        rw [if_pos (show i < n + 1 by omega)]
        omega
      · rw [if_neg e2] at ih
        rw [if_neg (show ¬ i < n + 1 by omega)]
        omega
theorem key_pl {μ : Nat → Int32} (hR : Rel σ μ n rc) {k : Nat} (hk : k < 6) : μ (3 + k) = fI (ff (kA σ (nI k)) n) := by
  have h16 := hR.b.1
  have hkA : ∀ i, i < n → kA σ (nI k) i = (decide (σ 4 i = nI k) && decide (μ (3 + k) = nI i)) := fun i hi => by
    unfold kA
    by_cases e : σ 4 i = nI k
    · rw [(hR.i hi).2.2.2.2.2.2.2.2.2.2.2.2.2.2.2 k hk e]
    · rw [decide_eq_false e]; rfl
  rcases hR.k hk with h | ⟨a, ha, h1, h2⟩
  · rw [ff_none (fun i hi => by rw [hkA i hi, h, decide_eq_false (nIm1 (by omega)), Bool.and_false])]
    exact h
  · rw [ff_some (j := a) (by rw [hkA a ha, decide_eq_true h2, decide_eq_true h1]; rfl) (fun i hi => by
      rw [hkA i (by omega), h1, decide_eq_false (show ¬ nI a = nI i from fun q => by have := (nI_eq (by omega) (by omega)).mp q; omega), Bool.and_false]) ha]
    exact h1
theorem x_keyIn_bad (hrf : RFok rf) (hR : Rel σ (ρ 147) n rc) (x y : Int32) (h : inR 6 x = false ∨ inR n y = false) : PC 127 [.ref 146, .int x, .int y] (HP sl ρ rf) (some (.int (-1))) (HP sl ρ rf) := by
  refine PC_of (cd := p_c_X5_keyIn) (L0 := [some (.ref 146), some (.int x), some (.int y)]) rfl rfl ?_
  refine R_ld1 rfl ?_
  refine R_c0 rfl (x_isKey _) rfl rfl rfl ?_
  refine BB_eq rfl (fun g2 => ?_) (fun g2 => ?_)
  · refine R_i rfl ?_
    exact R_iret rfl (rfl)
  · refine R_la0 rfl ?_
    refine R_ld2 rfl ?_
    refine R_c1 rfl (x_isInput hrf hR.b.1 hR.b.2.2.1 _) rfl rfl rfl sh_146 rfl rfl ?_
    refine BB_ne rfl (fun g6 => ?_) (fun g6 => ?_)
    · revert h; simp_all
    · refine R_i rfl ?_
      exact R_iret rfl (rfl)

theorem x_keyIn_np (hrf : RFok rf) (hR : Rel σ (ρ 147) n rc) {i : Nat} (hi : i < n) {k : Nat} (hk : k < 6) (h : ¬ ρ 147 (3 + k) = -1 ∨ ¬ σ 4 i = nI k) : PC 127 [.ref 146, .int (nI k), .int (nI i)] (HP sl ρ rf) (some (.int (-2))) (HP sl ρ rf) := by
  have h16 := hR.b.1
  refine PC_of (cd := p_c_X5_keyIn) (L0 := [some (.ref 146), some (.int (nI k)), some (.int (nI i))]) rfl rfl ?_
  refine R_ld1 rfl ?_
  refine R_c0 rfl (x_isKey _) rfl rfl rfl ?_
  refine BB_eqF rfl (inR_N hk (by omega)) ?_
  refine R_la0 rfl ?_
  refine R_ld2 rfl ?_
  refine R_c1 rfl (x_isInput hrf hR.b.1 hR.b.2.2.1 _) rfl rfl rfl sh_146 rfl rfl ?_
  refine BB_neT rfl (inR_N hi (by omega)) ?_
  refine R_la0 rfl ?_
  refine R_getR rfl sh_146 rfl (rf_146_0 hrf) ?_
  refine R_n 3 rfl rfl ?_
  refine R_ld1 rfl ?_
  refine R_addN rfl ?_
  refine R_ald rfl sh_147 (by first | decide | omega) (by omega) rfl ?_
  refine B1_ge rfl (fun g15 => ?_) (fun g15 => ?_)
  · refine R_i rfl ?_
    exact R_iret rfl (rfl)
  · refine R_la0 rfl ?_
    refine R_ld2 rfl ?_
    refine R_c1 rfl (x_isLock hrf hR hi) rfl rfl rfl sh_146 rfl rfl ?_
    refine BB_eq rfl (fun g19 => ?_) (fun g19 => ?_)
    · refine R_i rfl ?_
      exact R_iret rfl (rfl)
    · refine R_la0 rfl ?_
      refine R_ld2 rfl ?_
      refine R_n 9 rfl rfl ?_
      refine R_c1 rfl (xn_made hrf hR hi) rfl rfl rfl sh_146 rfl rfl ?_
      refine R_ld1 rfl ?_
      refine B2_eq rfl (fun g25 => ?_) (fun g25 => ?_)
      · rcases h with h | h
        · rcases hR.k hk with e | ⟨a, ha, e, _⟩
          · exact absurd e h
          · exact absurd (by rw [e]; exact nI_pos' (by omega)) g15
        · exact absurd g25 h
      · refine R_i rfl ?_
        exact R_iret rfl (rfl)

theorem x_keyIn_ok (hrf : RFok rf) (hR : Rel σ (ρ 147) n rc) {i : Nat} (hi : i < n) {k : Nat} (hk : k < 6) (hK : ρ 147 (3 + k) = -1) (h2 : σ 4 i = nI k) (hrec : PC 105 [.ref 146] (HP sl ρ rf) none (HP sl ρr rf)) (hR2 : Rel σ (ρr 147) n rc) {q : Nat} (hks : PC 126 [.ref 146] (HP sl (u2 ρr 147 (3 + k) (nI i)) rf) (some (.int (nI q))) (HP sl (u2 ρr 147 (3 + k) (nI i)) rf)) : PC 127 [.ref 146, .int (nI k), .int (nI i)] (HP sl ρ rf) (some (.int (nI q))) (HP sl (u2 ρr 147 (3 + k) (nI i)) rf) := by
  have h16 := hR.b.1
  refine PC_of (cd := p_c_X5_keyIn) (L0 := [some (.ref 146), some (.int (nI k)), some (.int (nI i))]) rfl rfl ?_
  refine R_ld1 rfl ?_
  refine R_c0 rfl (x_isKey _) rfl rfl rfl ?_
  refine BB_eqF rfl (inR_N hk (by omega)) ?_
  refine R_la0 rfl ?_
  refine R_ld2 rfl ?_
  refine R_c1 rfl (x_isInput hrf hR.b.1 hR.b.2.2.1 _) rfl rfl rfl sh_146 rfl rfl ?_
  refine BB_neT rfl (inR_N hi (by omega)) ?_
  refine R_la0 rfl ?_
  refine R_getR rfl sh_146 rfl (rf_146_0 hrf) ?_
  refine R_n 3 rfl rfl ?_
  refine R_ld1 rfl ?_
  refine R_addN rfl ?_
  refine R_ald rfl sh_147 (by first | decide | omega) (by omega) rfl ?_
  refine B1_geF rfl (by rw [hK]; decide) ?_
  refine R_la0 rfl ?_
  refine R_ld2 rfl ?_
  refine R_c1 rfl (x_isLock hrf hR hi) rfl rfl rfl sh_146 rfl rfl ?_
  refine BB_eqF rfl (decide_eq_true (show ¬ σ 4 i = -1 from fun q => by rw [h2] at q; exact nIm1 (by omega) q.symm)) ?_
  refine R_la0 rfl ?_
  refine R_ld2 rfl ?_
  refine R_n 9 rfl rfl ?_
  refine R_c1 rfl (xn_made hrf hR hi) rfl rfl rfl sh_146 rfl rfl ?_
  refine R_ld1 rfl ?_
  refine B2_eqT rfl (h2) ?_
  refine R_la0 rfl ?_
  refine R_c1 rfl (hrec) rfl rfl rfl sh_146 rfl rfl ?_
  refine R_la0 rfl ?_
  refine R_getR rfl sh_146 rfl (rf_146_0 hrf) ?_
  refine R_n 3 rfl rfl ?_
  refine R_ld1 rfl ?_
  refine R_addN rfl ?_
  refine R_ld2 rfl ?_
  refine R_ast rfl sh_147 (by decide) (by omega) ?_
  refine R_la0 rfl ?_
  refine R_c1 rfl (hks) rfl rfl rfl sh_146 rfl rfl ?_
  exact R_iret rfl (rfl)

theorem o_keyIn (hF : FI s ρ rf) (x y : Int32) : Ag sl s 47 127 [.int x, .int y] ρ rf := by
  obtain ⟨n, rc, t, hR, ht, ht1, hB⟩ := hF.2.2.1
  have hrf := hF.1
  have hn16 := hR.b.1
  by_cases hb : inR 6 x = false ∨ inR n y = false
  · exact Ag_p hF (c_keyIn_bad hrf hR.b.2.1 hn16 x y hb) (x_keyIn_bad hrf hR x y hb)
  · have hx : inR 6 x = true := by
      cases h : inR 6 x with
      | true => rfl
      | false => exact absurd (Or.inl h) hb
    have hy : inR n y = true := by
      cases h : inR n y with
      | true => rfl
      | false => exact absurd (Or.inr h) hb
    obtain ⟨k, hk, rfl⟩ := inR_c (by decide) hx
    obtain ⟨i, hi, rfl⟩ := inR_c (by omega) hy
    have hp := key_pl hR hk
    by_cases hc : ¬ fI (ff (kA ρ (nI k)) n) = -1 ∨ ¬ ρ 4 i = nI k
    · exact Ag_p hF (c_keyIn_np hrf hR.b.2.1 hn16 hi hk hc) (x_keyIn_np hrf hR hi hk (by rw [hp]; exact hc))
    · have c1 : fI (ff (kA ρ (nI k)) n) = -1 := Decidable.byContradiction fun q => hc (Or.inl q)
      have c2 : ρ 4 i = nI k := Decidable.byContradiction fun q => hc (Or.inr q)
      obtain ⟨ρa, rfa, h1, h2, h3, h4, h5⟩ := FI_step (sl := sl) hF
      have hRa : Rel ρa (ρ 147) n rc := Rel_k h3 hR
      have hta : ρa 3 1 = nI t := by rw [h3 3 (by decide) (by decide)]; exact ht
      have c2a : ρa 4 i = nI k := by rw [h3 4 (by decide) (by decide)]; exact c2
      have hK : ρ 147 (3 + k) = -1 := by rw [hp]; exact c1
      obtain ⟨ρr, r1, r2, r3, r4, r5, r6⟩ := h5 (u2 ρa 3 3 (wI (ρa 3 3) i true)) (fun k hk => by (try simp (disch := omega) only [u2_at, u2_ne, up_eq, up_ne, u1_at, u1_ne]))
      have hRr : Rel ρa (ρr 147) n rc := by rw [r3]; exact hRa
      have m1 := Rel_keyIn hRr hk hi c2a (by rw [r3]; exact hK)
      have m2 := x_keysIn (sl := sl) (ρ := u2 ρr 147 (3 + k) (nI i)) (σ := u2 ρa 3 3 (wI (ρa 3 3) i true)) h2 (by rw [u2_at]; exact m1)
      exact ⟨_, _, _, _, c_keyIn_ok hrf hR.b.2.1 hn16 hi hk c1 c2 h1 h2 hRa.b.2.1, x_keyIn_ok h2 (by rw [r2]; exact hRa) hi hk (by rw [r2]; exact hK) c2a r1 hRr m2, by rw [u2_e1]; exact r6 _ ⟨n, rc, t, m1, by (try simp (disch := omega) only [u2_at, u2_ne, up_eq, up_ne, u1_at, u1_ne]); exact hta, ht1, brc_e (by (try simp (disch := omega) only [u2_at, u2_ne, up_eq, up_ne, u1_at, u1_ne]); exact h3 8 (by decide) (by decide)) hB⟩⟩
theorem x_keyOut_bad (x : Int32) (h : inR 6 x = false) : PC 128 [.ref 146, .int x] (HP sl ρ rf) (some (.int (-1))) (HP sl ρ rf) := by
  refine PC_of (cd := p_c_X5_keyOut) (L0 := [some (.ref 146), some (.int x), none, none]) rfl rfl ?_
  refine R_ld1 rfl ?_
  refine R_c0 rfl (x_isKey _) rfl rfl rfl ?_
  refine BB_ne rfl (fun g2 => ?_) (fun g2 => ?_)
  · revert h; simp_all
  · refine R_i rfl ?_
    exact R_iret rfl (rfl)

theorem x_keyOut_np1 (hrf : RFok rf) (hR : Rel σ (ρ 147) n rc) {k : Nat} (hk : k < 6) (hK : ρ 147 (3 + k) = -1) : PC 128 [.ref 146, .int (nI k)] (HP sl ρ rf) (some (.int (-2))) (HP sl ρ rf) := by
  refine PC_of (cd := p_c_X5_keyOut) (L0 := [some (.ref 146), some (.int (nI k)), none, none]) rfl rfl ?_
  refine R_ld1 rfl ?_
  refine R_c0 rfl (x_isKey _) rfl rfl rfl ?_
  refine BB_neT rfl (inR_N hk (by omega)) ?_
  refine R_la0 rfl ?_
  refine R_getR rfl sh_146 rfl (rf_146_0 hrf) ?_
  refine R_n 3 rfl rfl ?_
  refine R_ld1 rfl ?_
  refine R_addN rfl ?_
  refine R_ald rfl sh_147 (by first | decide | omega) (by omega) rfl ?_
  refine R_st2 rfl ?_
  refine R_ld2 rfl ?_
  refine B1_ltT rfl (by rw [hK]; decide) ?_
  refine R_i rfl ?_
  exact R_iret rfl (rfl)

theorem x_keyOut_np2 (hrf : RFok rf) (hR : Rel σ (ρ 147) n rc) {i : Nat} (hi : i < n) {k : Nat} (hk : k < 6) (hK : ρ 147 (3 + k) = nI i) {a : Nat} (ha : a < n) (hg : σ 5 i = nI a) (hc : cS σ n a = false) : PC 128 [.ref 146, .int (nI k)] (HP sl ρ rf) (some (.int (-2))) (HP sl ρ rf) := by
  have h16 := hR.b.1
  refine PC_of (cd := p_c_X5_keyOut) (L0 := [some (.ref 146), some (.int (nI k)), none, none]) rfl rfl ?_
  refine R_ld1 rfl ?_
  refine R_c0 rfl (x_isKey _) rfl rfl rfl ?_
  refine BB_neT rfl (inR_N hk (by omega)) ?_
  refine R_la0 rfl ?_
  refine R_getR rfl sh_146 rfl (rf_146_0 hrf) ?_
  refine R_n 3 rfl rfl ?_
  refine R_ld1 rfl ?_
  refine R_addN rfl ?_
  refine R_ald rfl sh_147 (by first | decide | omega) (by omega) hK ?_
  refine R_st2 rfl ?_
  refine R_ld2 rfl ?_
  refine B1_ltF rfl (nI_pos (by omega)) ?_
  refine R_la0 rfl ?_
  refine R_ld2 rfl ?_
  refine R_n 10 rfl rfl ?_
  refine R_c1 rfl (xn_guard hrf hR hi) rfl rfl rfl sh_146 rfl rfl ?_
  rw [hg]
  show PW _ _ _ (.int (nI a) :: _) _ _
  refine B1_ltF rfl (nI_pos (by omega)) ?_
  refine R_la0 rfl ?_
  refine R_la0 rfl ?_
  refine R_ld2 rfl ?_
  refine R_n 10 rfl rfl ?_
  refine R_c1 rfl (xn_guard hrf hR hi) rfl rfl rfl sh_146 rfl rfl ?_
  rw [hg]
  show PW _ _ _ (.int (nI a) :: _) _ _
  refine R_c1 rfl (x_counts hrf hR ha) rfl rfl rfl sh_146 rfl rfl ?_
  refine BB_neF rfl (hc) ?_
  refine R_i rfl ?_
  exact R_iret rfl (rfl)

theorem x_keyOut_ok1 (hrf : RFok rf) (hR : Rel σ (ρ 147) n rc) {i : Nat} (hi : i < n) {k : Nat} (hk : k < 6) (hK : ρ 147 (3 + k) = nI i) {a : Nat} (ha : a < n) (hg : σ 5 i = nI a) (hc : cS σ n a = true) (hrec : PC 105 [.ref 146] (HP sl ρ rf) none (HP sl ρr rf)) (hR2 : Rel σ (ρr 147) n rc) {q : Nat} (hlk : PC 116 [.ref 146, .int (M (cS σ n))] (HP sl (u2 ρr 147 (3 + k) (-1)) rf) (some (.int (nI q))) (HP sl ρn rf)) : PC 128 [.ref 146, .int (nI k)] (HP sl ρ rf) (some (.int (nI q))) (HP sl ρn rf) := by
  have h16 := hR.b.1
  refine PC_of (cd := p_c_X5_keyOut) (L0 := [some (.ref 146), some (.int (nI k)), none, none]) rfl rfl ?_
  refine R_ld1 rfl ?_
  refine R_c0 rfl (x_isKey _) rfl rfl rfl ?_
  refine BB_neT rfl (inR_N hk (by omega)) ?_
  refine R_la0 rfl ?_
  refine R_getR rfl sh_146 rfl (rf_146_0 hrf) ?_
  refine R_n 3 rfl rfl ?_
  refine R_ld1 rfl ?_
  refine R_addN rfl ?_
  refine R_ald rfl sh_147 (by first | decide | omega) (by omega) hK ?_
  refine R_st2 rfl ?_
  refine R_ld2 rfl ?_
  refine B1_ltF rfl (nI_pos (by omega)) ?_
  refine R_la0 rfl ?_
  refine R_ld2 rfl ?_
  refine R_n 10 rfl rfl ?_
  refine R_c1 rfl (xn_guard hrf hR hi) rfl rfl rfl sh_146 rfl rfl ?_
  rw [hg]
  show PW _ _ _ (.int (nI a) :: _) _ _
  refine B1_ltF rfl (nI_pos (by omega)) ?_
  refine R_la0 rfl ?_
  refine R_la0 rfl ?_
  refine R_ld2 rfl ?_
  refine R_n 10 rfl rfl ?_
  refine R_c1 rfl (xn_guard hrf hR hi) rfl rfl rfl sh_146 rfl rfl ?_
  rw [hg]
  show PW _ _ _ (.int (nI a) :: _) _ _
  refine R_c1 rfl (x_counts hrf hR ha) rfl rfl rfl sh_146 rfl rfl ?_
  refine BB_neT rfl (hc) ?_
  refine R_la0 rfl ?_
  refine R_c1 rfl (hrec) rfl rfl rfl sh_146 rfl rfl ?_
  refine R_la0 rfl ?_
  refine R_c1 rfl (x_closedOnes hrf hR2) rfl rfl rfl sh_146 rfl rfl ?_
  refine R_st3 rfl ?_
  refine R_la0 rfl ?_
  refine R_getR rfl sh_146 rfl (rf_146_0 hrf) ?_
  refine R_n 3 rfl rfl ?_
  refine R_ld1 rfl ?_
  refine R_addN rfl ?_
  refine R_i rfl ?_
  refine R_ast rfl sh_147 (by decide) (by omega) ?_
  refine R_la0 rfl ?_
  refine R_ld3 rfl ?_
  refine R_c1 rfl (hlk) rfl rfl rfl sh_146 rfl rfl ?_
  exact R_iret rfl (rfl)

theorem x_keyOut_ok0 (hrf : RFok rf) (hR : Rel σ (ρ 147) n rc) {i : Nat} (hi : i < n) {k : Nat} (hk : k < 6) (hK : ρ 147 (3 + k) = nI i) (hg : σ 5 i = -1) (hrec : PC 105 [.ref 146] (HP sl ρ rf) none (HP sl ρr rf)) (hR2 : Rel σ (ρr 147) n rc) {q : Nat} (hlk : PC 116 [.ref 146, .int (M (cS σ n))] (HP sl (u2 ρr 147 (3 + k) (-1)) rf) (some (.int (nI q))) (HP sl ρn rf)) : PC 128 [.ref 146, .int (nI k)] (HP sl ρ rf) (some (.int (nI q))) (HP sl ρn rf) := by
  have h16 := hR.b.1
  refine PC_of (cd := p_c_X5_keyOut) (L0 := [some (.ref 146), some (.int (nI k)), none, none]) rfl rfl ?_
  refine R_ld1 rfl ?_
  refine R_c0 rfl (x_isKey _) rfl rfl rfl ?_
  refine BB_neT rfl (inR_N hk (by omega)) ?_
  refine R_la0 rfl ?_
  refine R_getR rfl sh_146 rfl (rf_146_0 hrf) ?_
  refine R_n 3 rfl rfl ?_
  refine R_ld1 rfl ?_
  refine R_addN rfl ?_
  refine R_ald rfl sh_147 (by first | decide | omega) (by omega) hK ?_
  refine R_st2 rfl ?_
  refine R_ld2 rfl ?_
  refine B1_ltF rfl (nI_pos (by omega)) ?_
  refine R_la0 rfl ?_
  refine R_ld2 rfl ?_
  refine R_n 10 rfl rfl ?_
  refine R_c1 rfl (xn_guard hrf hR hi) rfl rfl rfl sh_146 rfl rfl ?_
  refine B1_ltT rfl (by rw [hg]; decide) ?_
  refine R_la0 rfl ?_
  refine R_c1 rfl (hrec) rfl rfl rfl sh_146 rfl rfl ?_
  refine R_la0 rfl ?_
  refine R_c1 rfl (x_closedOnes hrf hR2) rfl rfl rfl sh_146 rfl rfl ?_
  refine R_st3 rfl ?_
  refine R_la0 rfl ?_
  refine R_getR rfl sh_146 rfl (rf_146_0 hrf) ?_
  refine R_n 3 rfl rfl ?_
  refine R_ld1 rfl ?_
  refine R_addN rfl ?_
  refine R_i rfl ?_
  refine R_ast rfl sh_147 (by decide) (by omega) ?_
  refine R_la0 rfl ?_
  refine R_ld3 rfl ?_
  refine R_c1 rfl (hlk) rfl rfl rfl sh_146 rfl rfl ?_
  exact R_iret rfl (rfl)

theorem o_keyOut (hF : FI s ρ rf) (x : Int32) : Ag sl s 48 128 [.int x] ρ rf := by
  obtain ⟨n, rc, t, hR, ht, ht1, hB⟩ := hF.2.2.1
  have hrf := hF.1
  have hn16 := hR.b.1
  cases hx : inR 6 x with
  | false => exact Ag_p hF (c_keyOut_bad x hx) (x_keyOut_bad x hx)
  | true =>
  obtain ⟨k, hk, rfl⟩ := inR_c (by decide) hx
  have hp := key_pl hR hk
  cases hff : ff (kA ρ (nI k)) n with
  | none => exact Ag_p hF (c_keyOut_np1 hrf hR.b.2.1 hn16 hk hff) (x_keyOut_np1 hrf hR hk (by rw [hp, hff]; rfl))
  | some i =>
  have hi := (ff_spec hff).1
  have hK : ρ 147 (3 + k) = nI i := by rw [hp, hff]; rfl
  have go : ∀ g : Option Nat, ρ 5 i = fI g → (∀ a, g = some a → a < n) → (match g with | none => true | some a => cS ρ n a) = true → Ag sl s 48 128 [.int (nI k)] ρ rf := fun g hg hgn hgo => by
    obtain ⟨ρa, rfa, h1, h2, h3, h4, h5⟩ := FI_step (sl := sl) hF
    have hRa : Rel ρa (ρ 147) n rc := Rel_k h3 hR
    have hta : ρa 3 1 = nI t := by rw [h3 3 (by decide) (by decide)]; exact ht
    obtain ⟨ρr, r1, r2, r3, r4, r5, r6⟩ := h5 (suA (u2 ρa 3 3 (wI (ρa 3 3) i false)) rc (M (cS ρa n)) (M (cS (u2 ρa 3 3 (wI (ρa 3 3) i false)) n)) ((u2 ρa 3 3 (wI (ρa 3 3) i false)) 3 1) 6) (fun k hk => by rw [suA_f _ _ _ _ _ (by omega)]; (try simp (disch := omega) only [u2_at, u2_ne, up_eq, up_ne, u1_at, u1_ne]))
    have hRr : Rel ρa (ρr 147) n rc := by rw [r3]; exact hRa
    have m1 := Rel_keyOut hRr hk hi (by rw [r3]; exact hK)
    obtain ⟨μ', m3, m4⟩ := x_looks (sl := sl) (ρ := u2 ρr 147 (3 + k) (-1)) (σ := u2 ρa 3 3 (wI (ρa 3 3) i false)) h2 (by rw [u2_at]; exact m1) (by (try simp (disch := omega) only [u2_at, u2_ne, up_eq, up_ne, u1_at, u1_ne]); rw [hta]; exact nI_pos' (by omega)) (M (cS ρa n))
    rw [show u1 (u2 ρr 147 (3 + k) (-1)) 147 μ' = u1 ρr 147 μ' by rw [u2_e1, u1_u1]] at m4
    have hc0 := c_keyOut_ok (sl := sl) hrf hR.b.2.1 hn16 hk hi hff hg (fun a e => by have := hgn a e; omega) hR.hc (by cases g <;> exact hgo) h1 h2 hRa.b.2.1 hRa.hc m1.b.2.1 m1.hc (fun m hm => ⟨(m1.m hm).2.1, (m1.m hm).1⟩)
    have hfin := r6 μ' ⟨n, rc, t, m3, by rw [suA_f _ _ _ _ _ (by decide)]; (try simp (disch := omega) only [u2_at, u2_ne, up_eq, up_ne, u1_at, u1_ne]); exact hta, ht1, brc_e (by rw [suA_f _ _ _ _ _ (by decide)]; (try simp (disch := omega) only [u2_at, u2_ne, up_eq, up_ne, u1_at, u1_ne]); exact h3 8 (by decide) (by decide)) hB⟩
    have hg2 : ρa 5 i = fI g := by rw [h3 5 (by decide) (by decide)]; exact hg
    cases g with
    | none => exact ⟨_, _, _, _, hc0, x_keyOut_ok0 h2 (by rw [r2]; exact hRa) hi hk (by rw [r2]; exact hK) hg2 r1 hRr m4, hfin⟩
    | some a =>
      have hca : cS ρa n a = true := by
        have : cS ρa n = cS ρ n := by
          show cM ρa n (bt (ρa 3 3)) = cM ρ n (bt (ρ 3 3))
          rw [h3 3 (by decide) (by decide)]
          exact cM_c (fun k hk => h3 k (by omega) (by omega))
        rw [this]
        exact hgo
      exact ⟨_, _, _, _, hc0, x_keyOut_ok1 h2 (by rw [r2]; exact hRa) hi hk (by rw [r2]; exact hK) (hgn a rfl) hg2 hca r1 hRr m4, hfin⟩
  rcases (hR.i hi).2.2.2.2.1 with hg | ⟨a, ha, hg⟩
  · exact go none hg (fun a e => by cases e) rfl
  · cases hc : cS ρ n a with
    | true => exact go (some a) hg (fun b e => by cases e; exact ha) hc
    | false => exact Ag_p hF (c_keyOut_np2 hrf hR.b.2.1 hn16 hk hi hff (g := some a) hg (fun b e => by cases e; omega) hR.hc hc) (x_keyOut_np2 hrf hR hi hk hK ha hg hc)
theorem x_key_bad (x : Int32) (h : inR 6 x = false) : PC 129 [.ref 146, .int x] (HP sl ρ rf) (some (.int (-1))) (HP sl ρ rf) := by
  refine PC_of (cd := p_c_X5_key) (L0 := [some (.ref 146), some (.int x)]) rfl rfl ?_
  refine R_ld1 rfl ?_
  refine R_c0 rfl (x_isKey _) rfl rfl rfl ?_
  refine BB_ne rfl (fun g2 => ?_) (fun g2 => ?_)
  · revert h; simp_all
  · refine R_i rfl ?_
    exact R_iret rfl (rfl)

theorem x_key_ok (hrf : RFok rf) (hR : Rel σ (ρ 147) n rc) {k : Nat} (hk : k < 6) : PC 129 [.ref 146, .int (nI k)] (HP sl ρ rf) (some (.int (onf (ρ 147 (3 + k))))) (HP sl ρ rf) := by
  refine PC_of (cd := p_c_X5_key) (L0 := [some (.ref 146), some (.int (nI k))]) rfl rfl ?_
  refine R_ld1 rfl ?_
  refine R_c0 rfl (x_isKey _) rfl rfl rfl ?_
  refine BB_neT rfl (inR_N hk (by omega)) ?_
  refine R_la0 rfl ?_
  refine R_getR rfl sh_146 rfl (rf_146_0 hrf) ?_
  refine R_n 3 rfl rfl ?_
  refine R_ld1 rfl ?_
  refine R_addN rfl ?_
  refine R_ald rfl sh_147 (by first | decide | omega) (by omega) rfl ?_
  refine B1_ge rfl (fun g11 => ?_) (fun g11 => ?_)
  · refine R_la0 rfl ?_
    refine R_getR rfl sh_146 rfl (rf_146_0 hrf) ?_
    refine R_n 3 rfl rfl ?_
    refine R_ld1 rfl ?_
    refine R_addN rfl ?_
    refine R_ald rfl sh_147 (by first | decide | omega) (by omega) rfl ?_
    exact R_iret rfl (by first | exact lf_i (onf_n g11).symm | exact lf_i (onf_m (by rcases hR.k hk with e | ⟨a, ha, e, _⟩; exact e; exact absurd (by rw [e]; exact nI_pos' (by have := hR.b.1; omega)) g11)).symm)
  · refine R_i rfl ?_
    refine R_goto rfl ?_
    exact R_iret rfl (by first | exact lf_i (onf_n g11).symm | exact lf_i (onf_m (by rcases hR.k hk with e | ⟨a, ha, e, _⟩; exact e; exact absurd (by rw [e]; exact nI_pos' (by have := hR.b.1; omega)) g11)).symm)

theorem o_key (hF : FI s ρ rf) (x : Int32) : Ag sl s 49 129 [.int x] ρ rf := by
  obtain ⟨n, rc, t, hR, ht, ht1, hB⟩ := hF.2.2.1
  have hrf := hF.1
  have hn16 := hR.b.1
  cases hx : inR 6 x with
  | false => exact Ag_p hF (c_key_bad x hx) (x_key_bad x hx)
  | true =>
  obtain ⟨k, hk, rfl⟩ := inR_c (by decide) hx
  exact Ag_p hF (c_key_ok hrf hR.b.2.1 hn16 hk) (by rw [← key_pl hR hk]; exact x_key_ok hrf hR hk)
theorem x_bridge_bad (hrf : RFok rf) (hR : Rel σ (ρ 147) n rc) (x y : Int32) (h : inR n x = false ∨ rgI y (nI 1) (nI 500) = false) : PC 131 [.ref 146, .int x, .int y] (HP sl ρ rf) (some (.int (-1))) (HP sl ρ rf) := by
  refine PC_of (cd := p_c_X5_bridge) (L0 := [some (.ref 146), some (.int x), some (.int y)]) rfl rfl ?_
  refine R_la0 rfl ?_
  refine R_ld1 rfl ?_
  refine R_c1 rfl (x_isInput hrf hR.b.1 hR.b.2.2.1 _) rfl rfl rfl sh_146 rfl rfl ?_
  refine BB_eq rfl (fun g3 => ?_) (fun g3 => ?_)
  · refine R_i rfl ?_
    exact R_iret rfl (rfl)
  · refine R_ld2 rfl ?_
    refine R_n 1 rfl rfl ?_
    refine R_n 500 rfl rfl ?_
    refine R_c0 rfl (x_in _ _ _) rfl rfl rfl ?_
    refine BB_ne rfl (fun g8 => ?_) (fun g8 => ?_)
    · revert h; simp_all
    · refine R_i rfl ?_
      exact R_iret rfl (rfl)

theorem x_bridge_np (hrf : RFok rf) (hR : Rel σ (ρ 147) n rc) {i : Nat} (hi : i < n) (y : Int32) (hy : rgI y (nI 1) (nI 500) = true) (h : bt (σ 3 4) i = true ∨ 0 < σ 8 i) : PC 131 [.ref 146, .int (nI i), .int y] (HP sl ρ rf) (some (.int (-2))) (HP sl ρ rf) := by
  have h16 := hR.b.1
  refine PC_of (cd := p_c_X5_bridge) (L0 := [some (.ref 146), some (.int (nI i)), some (.int y)]) rfl rfl ?_
  refine R_la0 rfl ?_
  refine R_ld1 rfl ?_
  refine R_c1 rfl (x_isInput hrf hR.b.1 hR.b.2.2.1 _) rfl rfl rfl sh_146 rfl rfl ?_
  refine BB_eqF rfl (inR_N hi (by omega)) ?_
  refine R_ld2 rfl ?_
  refine R_n 1 rfl rfl ?_
  refine R_n 500 rfl rfl ?_
  refine R_c0 rfl (x_in _ _ _) rfl rfl rfl ?_
  refine BB_neT rfl (hy) ?_
  refine R_la0 rfl ?_
  refine R_ld1 rfl ?_
  refine R_n 2 rfl rfl ?_
  refine R_c1 rfl (xn_ess hrf hR hi) rfl rfl rfl sh_146 rfl rfl ?_
  refine R_n 1 rfl rfl ?_
  refine B2_eq rfl (fun g16 => ?_) (fun g16 => ?_)
  · refine R_i rfl ?_
    exact R_iret rfl (rfl)
  · refine R_la0 rfl ?_
    refine R_ld1 rfl ?_
    refine R_n 5 rfl rfl ?_
    refine R_c1 rfl (xn_left hrf hR hi) rfl rfl rfl sh_146 rfl rfl ?_
    refine B1_le rfl (fun g21 => ?_) (fun g21 => ?_)
    · rcases h with h | h
      · exact absurd (bIt.mpr h) g16
      · exact absurd h (Int32.not_lt.mpr g21)
    · refine R_i rfl ?_
      exact R_iret rfl (rfl)

theorem x_bridge_full (hrf : RFok rf) (hR : Rel σ (ρ 147) n rc) {i : Nat} (hi : i < n) (y : Int32) (hy : rgI y (nI 1) (nI 500) = true) (h3 : bt (σ 3 4) i = false) (h4 : ¬ 0 < σ 8 i) (h5 : fb_ct (br σ) n = 3) : PC 131 [.ref 146, .int (nI i), .int y] (HP sl ρ rf) (some (.int (-3))) (HP sl ρ rf) := by
  have h16 := hR.b.1
  refine PC_of (cd := p_c_X5_bridge) (L0 := [some (.ref 146), some (.int (nI i)), some (.int y)]) rfl rfl ?_
  refine R_la0 rfl ?_
  refine R_ld1 rfl ?_
  refine R_c1 rfl (x_isInput hrf hR.b.1 hR.b.2.2.1 _) rfl rfl rfl sh_146 rfl rfl ?_
  refine BB_eqF rfl (inR_N hi (by omega)) ?_
  refine R_ld2 rfl ?_
  refine R_n 1 rfl rfl ?_
  refine R_n 500 rfl rfl ?_
  refine R_c0 rfl (x_in _ _ _) rfl rfl rfl ?_
  refine BB_neT rfl (hy) ?_
  refine R_la0 rfl ?_
  refine R_ld1 rfl ?_
  refine R_n 2 rfl rfl ?_
  refine R_c1 rfl (xn_ess hrf hR hi) rfl rfl rfl sh_146 rfl rfl ?_
  refine R_n 1 rfl rfl ?_
  refine B2_eqF rfl (bIf.mpr h3) ?_
  refine R_la0 rfl ?_
  refine R_ld1 rfl ?_
  refine R_n 5 rfl rfl ?_
  refine R_c1 rfl (xn_left hrf hR hi) rfl rfl rfl sh_146 rfl rfl ?_
  refine B1_leT rfl (Int32.not_lt.mp h4) ?_
  refine R_la0 rfl ?_
  refine R_c1 rfl (x_bridges hrf hR) rfl rfl rfl sh_146 rfl rfl ?_
  refine R_n 3 rfl rfl ?_
  refine N2_neF rfl (by omega) (by omega) (by omega) ?_
  refine R_i rfl ?_
  exact R_iret rfl (rfl)

theorem x_bridge_ok (hrf : RFok rf) (hR : Rel σ (ρ 147) n rc) {i : Nat} (hi : i < n) (y : Int32) (hy : rgI y (nI 1) (nI 500) = true) (h3 : bt (σ 3 4) i = false) (h4 : ¬ 0 < σ 8 i) (h5 : fb_ct (br σ) n < 3) (hrec : PC 105 [.ref 146] (HP sl ρ rf) none (HP sl ρr rf)) (hR2 : Rel σ (ρr 147) n rc) {q : Nat} (hbr : PC 130 [.ref 146] (HP sl (u2 ρr 147 (87 + 11 * i + 5) y) rf) (some (.int (nI q))) (HP sl (u2 ρr 147 (87 + 11 * i + 5) y) rf)) : PC 131 [.ref 146, .int (nI i), .int y] (HP sl ρ rf) (some (.int (nI q))) (HP sl (u2 ρr 147 (87 + 11 * i + 5) y) rf) := by
  have h16 := hR.b.1
  refine PC_of (cd := p_c_X5_bridge) (L0 := [some (.ref 146), some (.int (nI i)), some (.int y)]) rfl rfl ?_
  refine R_la0 rfl ?_
  refine R_ld1 rfl ?_
  refine R_c1 rfl (x_isInput hrf hR.b.1 hR.b.2.2.1 _) rfl rfl rfl sh_146 rfl rfl ?_
  refine BB_eqF rfl (inR_N hi (by omega)) ?_
  refine R_ld2 rfl ?_
  refine R_n 1 rfl rfl ?_
  refine R_n 500 rfl rfl ?_
  refine R_c0 rfl (x_in _ _ _) rfl rfl rfl ?_
  refine BB_neT rfl (hy) ?_
  refine R_la0 rfl ?_
  refine R_ld1 rfl ?_
  refine R_n 2 rfl rfl ?_
  refine R_c1 rfl (xn_ess hrf hR hi) rfl rfl rfl sh_146 rfl rfl ?_
  refine R_n 1 rfl rfl ?_
  refine B2_eqF rfl (bIf.mpr h3) ?_
  refine R_la0 rfl ?_
  refine R_ld1 rfl ?_
  refine R_n 5 rfl rfl ?_
  refine R_c1 rfl (xn_left hrf hR hi) rfl rfl rfl sh_146 rfl rfl ?_
  refine B1_leT rfl (Int32.not_lt.mp h4) ?_
  refine R_la0 rfl ?_
  refine R_c1 rfl (x_bridges hrf hR) rfl rfl rfl sh_146 rfl rfl ?_
  refine R_n 3 rfl rfl ?_
  refine N2_neT rfl (by omega) (by omega) (by omega) ?_
  refine R_la0 rfl ?_
  refine R_c1 rfl (hrec) rfl rfl rfl sh_146 rfl rfl ?_
  refine R_la0 rfl ?_
  refine R_ld1 rfl ?_
  refine R_n 5 rfl rfl ?_
  refine R_ld2 rfl ?_
  refine R_c1 rfl (x_lay hrf (by omega) (by decide) _) rfl rfl rfl sh_146 rfl rfl ?_
  refine R_la0 rfl ?_
  refine R_c1 rfl (hbr) rfl rfl rfl sh_146 rfl rfl ?_
  exact R_iret rfl (rfl)

theorem o_bridge (hF : FI s ρ rf) (x y : Int32) : Ag sl s 50 131 [.int x, .int y] ρ rf := by
  obtain ⟨n, rc, t, hR, ht, ht1, hB⟩ := hF.2.2.1
  have hrf := hF.1
  have hn16 := hR.b.1
  by_cases hb : inR n x = false ∨ rgI y (nI 1) (nI 500) = false
  · refine Ag_p hF (c_bridge_bad hrf hR.b.2.1 hn16 x y ?_) (x_bridge_bad hrf hR x y hb)
    rcases hb with hb | hb
    · exact Or.inl hb
    · right
      unfold rgI at hb
      by_cases h0 : nI 1 ≤ y
      · rw [decide_eq_true h0, Bool.true_and] at hb
        exact Or.inr (Int32.not_le.mp (of_decide_eq_false hb))
      · exact Or.inl (Int32.not_le.mp h0)
  · have hx : inR n x = true := by
      cases h : inR n x with
      | true => rfl
      | false => exact absurd (Or.inl h) hb
    have hy : rgI y (nI 1) (nI 500) = true := by
      cases h : rgI y (nI 1) (nI 500) with
      | true => rfl
      | false => exact absurd (Or.inr h) hb
    have hy1 := rg_t hy
    obtain ⟨i, hi, rfl⟩ := inR_c (by omega) hx
    by_cases h34 : bt (ρ 3 4) i = true ∨ 0 < ρ 8 i
    · exact Ag_p hF (c_bridge_np hrf hR.b.2.1 hn16 hi y (Int32.not_lt.mpr hy1.1) hy1.2 (h34.imp id (fun q => br_i.mpr q))) (x_bridge_np hrf hR hi y hy h34)
    · have e3 : bt (ρ 3 4) i = false := by
        cases h : bt (ρ 3 4) i with
        | false => rfl
        | true => exact absurd (Or.inl h) h34
      have e4 : ¬ 0 < ρ 8 i := fun q => h34 (Or.inr q)
      by_cases h5' : fb_ct (br ρ) n < 3
      · obtain ⟨l, hl, hle⟩ : ∃ l, l ≤ 500 ∧ y = nI l := by
          obtain ⟨l, hl, e⟩ := nI_of (x := y) (fun q => absurd (Int32.lt_of_lt_of_le q (Int32.le_refl 0)) (Int32.not_lt.mpr (Int32.le_trans (show (0 : Int32) ≤ nI 1 by decide) hy1.1)))
          subst e
          exact ⟨l, (nI_leI hl (by decide)).mp hy1.2, rfl⟩
        obtain ⟨ρa, rfa, h1, h2, h3, h4, h5⟩ := FI_step (sl := sl) hF
        have hRa : Rel ρa (ρ 147) n rc := Rel_k h3 hR
        have hta : ρa 3 1 = nI t := by rw [h3 3 (by decide) (by decide)]; exact ht
        have hB3 : fb_ct (br (u2 ρa 8 i y)) n ≤ 3 := by
          have h8 : br ρa = br ρ := by funext j; unfold br; rw [h3 8 (by decide) (by decide)]
          have := ct_one (p := br ρ) (q := br (u2 ρa 8 i y)) (i := i) (fun j hj => by rw [← h8]; unfold br; (try simp (disch := omega) only [u2_at, u2_ne, up_eq, up_ne, u1_at, u1_ne])) n
          rw [if_pos hi] at this
          omega
        obtain ⟨ρr, r1, r2, r3, r4, r5, r6⟩ := h5 (u2 ρa 8 i y) (fun k hk => by (try simp (disch := omega) only [u2_at, u2_ne, up_eq, up_ne, u1_at, u1_ne]))
        have hRr : Rel ρa (ρr 147) n rc := by rw [r3]; exact hRa
        have m1 := Rel_left hRr hi hl
        rw [← hle] at m1
        have m2 := x_bridges (sl := sl) (ρ := u2 ρr 147 (87 + 11 * i + 5) y) (σ := u2 ρa 8 i y) h2 (by rw [u2_at]; exact m1)
        have hc0 := c_bridge_ok (sl := sl) hrf hR.b.2.1 hn16 hi y (Int32.not_lt.mpr hy1.1) hy1.2 e3 (br_if.mpr e4) (by rw [bc_wA hn16]; exact nI_lt h5' (by decide)) h1 h2 hRa.b.2.1
        rw [bc_wA hn16] at hc0
        have hBa : fb_ct (br ρa) n < 3 := by
          rw [show br ρa = br ρ from by funext j; unfold br; rw [h3 8 (by decide) (by decide)]]
          exact h5'
        exact ⟨_, _, _, _, hc0, x_bridge_ok h2 (by rw [r2]; exact hRa) hi y hy (by rw [h3 3 (by decide) (by decide)]; exact e3) (by rw [h3 8 (by decide) (by decide)]; exact e4) hBa r1 hRr m2, by rw [u2_e1]; exact r6 _ ⟨n, rc, t, m1, by (try simp (disch := omega) only [u2_at, u2_ne, up_eq, up_ne, u1_at, u1_ne]); exact hta, ht1, hB3⟩⟩
      · have h5e : fb_ct (br ρ) n = 3 := by omega
        exact Ag_p hF (c_bridge_full hrf hR.b.2.1 hn16 hi y (Int32.not_lt.mpr hy1.1) hy1.2 e3 (br_if.mpr e4) (by rw [bc_wA hn16, h5e]; exact Int32.le_refl _)) (x_bridge_full hrf hR hi y hy e3 e4 h5e)
end
