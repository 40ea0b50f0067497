/-! keys, new inputs, rows, exclusions, tests -/
theorem wI_mod {x : Int32} {b : Nat} (hb : b < 32) (v : Bool) : (x &&& ((nI 1 <<< (nI b &&& 31)) ^^^ (-1))) ||| (bI v <<< (nI b &&& 31)) = wI x b v := by
  refine b_ext fun i hi => ?_
  rw [b_wI hb hi, b_or, b_and, b_xor, b_m1 i hi, show (nI 1 : Int32) = 1 from rfl, b_shl1 b hb hi]
  cases v
  · rw [show bI false = 0 from rfl, b_shl b hb 0 hi, b_0]
    by_cases e : i = b <;> simp [e]
  · rw [show bI true = 1 from rfl, b_shl1 b hb hi]
    by_cases e : i = b <;> simp [e]
section
variable {sl : Nat} {ρ σ : pR} {μ : Nat → Int32} {rf : pF} {n : Nat} {rc : Nat → Nat}
theorem nIm1 {a : Nat} (h : a < 2 ^ 31) : ¬ (-1 : Int32) = nI a := fun q => absurd (show nI a < 0 by rw [← q]; decide) (nI_pos h)
/-- a key is put in or taken out -/
theorem Rel_ky (hR : Rel σ μ n rc) {k j : Nat} (hk : k < 6) (hj : j < n) (h4 : σ 4 j = nI k) (v : Int32) (b : Bool) (hv : v = -1 ∨ v = nI j) (hb : ∀ i, i < n → σ 4 i = nI k → bt (wI (σ 3 3) j b) i = decide (v = nI i)) : Rel (u2 σ 3 3 (wI (σ 3 3) j b)) (upd μ (3 + k) v) n rc := by
  obtain ⟨b1, b2, b3, b4, b5⟩ := hR.b
  refine ⟨⟨b1, by (try simp (disch := omega) only [u2_at, u2_ne, up_eq, up_ne, u1_at, u1_ne]); exact b2, by (try simp (disch := omega) only [u2_at, u2_ne, up_eq, up_ne, u1_at, u1_ne]); exact b3, by (try simp (disch := omega) only [u2_at, u2_ne, up_eq, up_ne, u1_at, u1_ne]); exact b4, by (try simp (disch := omega) only [u2_at, u2_ne, up_eq, up_ne, u1_at, u1_ne]); exact b5⟩, fun m hm => ?_, fun i hi => by (try simp (disch := omega) only [u2_at, u2_ne, up_eq, up_ne, u1_at, u1_ne]); exact hR.r hi, fun i hi => ?_, fun a ha => ?_, fun i hi hi2 => ?_, fun i hi => by (try simp (disch := omega) only [u2_at, u2_ne, up_eq, up_ne, u1_at, u1_ne]); rw [wI_ne (by omega) (by omega)]; exact hR.c hi, fun i hi => by (try simp (disch := omega) only [u2_at, u2_ne, up_eq, up_ne, u1_at, u1_ne]); exact hR.e hi⟩
  · exact MoR_c (fun a a1 a2 => by (try simp (disch := omega) only [u2_at, u2_ne, up_eq, up_ne, u1_at, u1_ne])) (fun a ha => by (try simp (disch := omega) only [u2_at, u2_ne, up_eq, up_ne, u1_at, u1_ne])) (by (try simp (disch := omega) only [u2_at, u2_ne, up_eq, up_ne, u1_at, u1_ne])) (fun w hw => by (try simp (disch := omega) only [u2_at, u2_ne, up_eq, up_ne, u1_at, u1_ne])) rfl (hR.m hm)
  · obtain ⟨q0, q1, q2, q3, q4, q5, q6, q7, q8, q9, q10, q11, q12, q13, q14, q15⟩ := hR.i hi
    refine ⟨by (try simp (disch := omega) only [u2_at, u2_ne, up_eq, up_ne, u1_at, u1_ne]); exact q0, by (try simp (disch := omega) only [u2_at, u2_ne, up_eq, up_ne, u1_at, u1_ne]); exact q1, by (try simp (disch := omega) only [u2_at, u2_ne, up_eq, up_ne, u1_at, u1_ne]); exact q2, by (try simp (disch := omega) only [u2_at, u2_ne, up_eq, up_ne, u1_at, u1_ne]); exact q3, by (try simp (disch := omega) only [u2_at, u2_ne, up_eq, up_ne, u1_at, u1_ne]); exact q4, by (try simp (disch := omega) only [u2_at, u2_ne, up_eq, up_ne, u1_at, u1_ne]); exact q5, by (try simp (disch := omega) only [u2_at, u2_ne, up_eq, up_ne, u1_at, u1_ne]); exact q6, by (try simp (disch := omega) only [u2_at, u2_ne, up_eq, up_ne, u1_at, u1_ne]); exact q7, by (try simp (disch := omega) only [u2_at, u2_ne, up_eq, up_ne, u1_at, u1_ne]); exact q8, by (try simp (disch := omega) only [u2_at, u2_ne, up_eq, up_ne, u1_at, u1_ne]); exact q9, by (try simp (disch := omega) only [u2_at, u2_ne, up_eq, up_ne, u1_at, u1_ne]); exact q10, by (try simp (disch := omega) only [u2_at, u2_ne, up_eq, up_ne, u1_at, u1_ne]); exact q11, by (try simp (disch := omega) only [u2_at, u2_ne, up_eq, up_ne, u1_at, u1_ne]); exact q12, by (try simp (disch := omega) only [u2_at, u2_ne, up_eq, up_ne, u1_at, u1_ne]); exact q13, fun e => ?_, fun a ha e => ?_⟩
    · have e2 : σ 4 i = -1 := e
      have hij : i ≠ j := fun q => by rw [q, h4] at e2; exact nIm1 (by omega) e2.symm
      (try simp (disch := omega) only [u2_at, u2_ne, up_eq, up_ne, u1_at, u1_ne])
      rw [wI_ne (by omega) hij]
      exact q14 e2
    · have e2 : σ 4 i = nI a := e
      by_cases hak : a = k
      · subst hak
        (try simp (disch := omega) only [u2_at, u2_ne, up_eq, up_ne, u1_at, u1_ne])
        exact hb i hi e2
      · have hij : i ≠ j := fun q => by rw [q, h4] at e2; exact hak ((nI_eq (by omega) (by omega)).mp e2).symm
        (try simp (disch := omega) only [u2_at, u2_ne, up_eq, up_ne, u1_at, u1_ne])
        rw [wI_ne (by omega) hij]
        exact q15 a ha e2
  · by_cases hak : a = k
    · subst hak
      unfold KeR
      (try simp (disch := omega) only [u2_at, u2_ne, up_eq, up_ne, u1_at, u1_ne])
      rcases hv with hv | hv
      · exact Or.inl hv
      · exact Or.inr ⟨j, hj, hv, h4⟩
    · exact KeR_c (Nat.le_refl _) (fun i _ => by (try simp (disch := omega) only [u2_at, u2_ne, up_eq, up_ne, u1_at, u1_ne])) (by (try simp (disch := omega) only [u2_at, u2_ne, up_eq, up_ne, u1_at, u1_ne])) (hR.k ha)
  · have := hR.z hi hi2
    unfold ZeR at this ⊢
    (try simp (disch := omega) only [u2_at, u2_ne, up_eq, up_ne, u1_at, u1_ne])
    exact this
theorem Rel_keyIn (hR : Rel σ μ n rc) {k j : Nat} (hk : k < 6) (hj : j < n) (h4 : σ 4 j = nI k) (hf : μ (3 + k) = -1) : Rel (u2 σ 3 3 (wI (σ 3 3) j true)) (upd μ (3 + k) (nI j)) n rc := by
  have h16 := hR.b.1
  refine Rel_ky hR hk hj h4 _ _ (Or.inr rfl) fun i hi e => ?_
  by_cases hij : i = j
  · subst hij
    rw [wI_at (by omega), decide_eq_true rfl]
  · rw [wI_ne (by omega) hij, (hR.i hi).2.2.2.2.2.2.2.2.2.2.2.2.2.2.2 k hk e, hf, decide_eq_false (nIm1 (by omega)), decide_eq_false (fun q => hij ((nI_eq (by omega) (by omega)).mp q).symm)]
theorem Rel_keyOut (hR : Rel σ μ n rc) {k j : Nat} (hk : k < 6) (hj : j < n) (hf : μ (3 + k) = nI j) : Rel (u2 σ 3 3 (wI (σ 3 3) j false)) (upd μ (3 + k) (-1)) n rc := by
  have h16 := hR.b.1
  have h4 : σ 4 j = nI k := by
    rcases hR.k hk with h | ⟨i, hi, h1, h2⟩
    · rw [h] at hf
      exact absurd hf (nIm1 (by omega))
    · rw [h1] at hf
      rw [← (nI_eq (by omega) (by omega)).mp hf]
      exact h2
  refine Rel_ky hR hk hj h4 _ _ (Or.inl rfl) fun i hi e => ?_
  rw [decide_eq_false (nIm1 (by omega))]
  by_cases hij : i = j
  · subst hij
    exact wI_at (by omega)
  · rw [wI_ne (by omega) hij, (hR.i hi).2.2.2.2.2.2.2.2.2.2.2.2.2.2.2 k hk e, hf]
    exact decide_eq_false (fun q => hij ((nI_eq (by omega) (by omega)).mp q).symm)
/-- a new input -/
def zrN (μ : Nat → Int32) (n j : Nat) : Nat → Int32 := fun s => if 87 + 11 * n ≤ s ∧ s < 87 + 11 * n + j then nI 0 else μ s
theorem zr_in {n j s : Nat} (h : 87 + 11 * n ≤ s ∧ s < 87 + 11 * n + j) : zrN μ n j s = nI 0 := if_pos h
theorem zr_out {n j s : Nat} (h : ¬ (87 + 11 * n ≤ s ∧ s < 87 + 11 * n + j)) : zrN μ n j s = μ s := if_neg h
theorem zr_0 (n : Nat) : zrN μ n 0 = μ := by
  funext s
  exact zr_out (by omega)
theorem zr_s (n j : Nat) : upd (zrN μ n j) (87 + 11 * n + j) (nI 0) = zrN μ n (j + 1) := by
  funext s
  by_cases e : s = 87 + 11 * n + j
  · rw [e, up_eq, zr_in (by omega)]
  · rw [up_ne e]
    by_cases h : 87 + 11 * n ≤ s ∧ s < 87 + 11 * n + j
    · rw [zr_in h, zr_in (by omega)]
    · rw [zr_out h, zr_out (by omega)]
theorem Rel_new (hR : Rel σ μ n rc) (hn : n < 16) {x1 x2 x3 kd : Int32} (hkd : kd = bI (decide (¬ x1 = -1))) (h1 : x1 = -1 ∨ ∃ k, k < 6 ∧ x1 = nI k) (h2 : x2 = -1 ∨ ∃ g, g < n ∧ x2 = nI g) : Rel (adI σ n x1 x2 x3) (upd (upd (upd (upd (upd (upd (zrN μ n 11) (87 + 11 * n + 0) kd) (87 + 11 * n + 3) x3) (87 + 11 * n + 4) (σ 3 1)) (87 + 11 * n + 9) x1) (87 + 11 * n + 10) x2) 1 (nI (n + 1))) (n + 1) rc := by
  obtain ⟨b1, b2, b3, b4, b5⟩ := hR.b
  have hz := hR.z (Nat.le_refl n) hn
  have hc := hR.c (Nat.le_refl n)
  have he := hR.e (Nat.le_refl n)
  unfold adI
  refine ⟨⟨by omega, by (try simp (disch := omega) only [u2_at, u2_ne, up_eq, up_ne, zr_in, zr_out]), by (try simp (disch := omega) only [u2_at, u2_ne, up_eq, up_ne, zr_in, zr_out]), by (try simp (disch := omega) only [u2_at, u2_ne, up_eq, up_ne, zr_in, zr_out]); exact b4, by (try simp (disch := omega) only [u2_at, u2_ne, up_eq, up_ne, zr_in, zr_out]); exact b5⟩, fun m hm => ?_, fun i hi => by (try simp (disch := omega) only [u2_at, u2_ne, up_eq, up_ne, zr_in, zr_out]); exact hR.r hi, fun i hi => ?_, fun a ha => ?_, fun i hi hi2 => ?_, fun i hi => by (try simp (disch := omega) only [u2_at, u2_ne, up_eq, up_ne, zr_in, zr_out]); exact hR.c (by omega), fun i hi => by (try simp (disch := omega) only [u2_at, u2_ne, up_eq, up_ne, zr_in, zr_out]); exact hR.e (by omega)⟩
  · exact MoR_c (fun a a1 a2 => by (try simp (disch := omega) only [u2_at, u2_ne, up_eq, up_ne, zr_in, zr_out])) (fun a ha => by (try simp (disch := omega) only [u2_at, u2_ne, up_eq, up_ne, zr_in, zr_out])) (by (try simp (disch := omega) only [u2_at, u2_ne, up_eq, up_ne, zr_in, zr_out])) (fun w hw => by (try simp (disch := omega) only [u2_at, u2_ne, up_eq, up_ne, zr_in, zr_out])) rfl (hR.m hm)
  · by_cases e : i = n
    · subst e
      refine ⟨by (try simp (disch := omega) only [u2_at, u2_ne, up_eq, up_ne, zr_in, zr_out]); exact hkd, by (try simp (disch := omega) only [u2_at, u2_ne, up_eq, up_ne, zr_in, zr_out]), by (try simp (disch := omega) only [u2_at, u2_ne, up_eq, up_ne, zr_in, zr_out]); exact h1, by (try simp (disch := omega) only [u2_at, u2_ne, up_eq, up_ne, zr_in, zr_out]), ?_, by (try simp (disch := omega) only [u2_at, u2_ne, up_eq, up_ne, zr_in, zr_out]), by (try simp (disch := omega) only [u2_at, u2_ne, up_eq, up_ne, zr_in, zr_out]), by (try simp (disch := omega) only [u2_at, u2_ne, up_eq, up_ne, zr_in, zr_out]); exact hz.1.symm, ⟨0, by decide, by (try simp (disch := omega) only [u2_at, u2_ne, up_eq, up_ne, zr_in, zr_out]); exact hz.1⟩, by (try simp (disch := omega) only [u2_at, u2_ne, up_eq, up_ne, zr_in, zr_out]); exact hz.2.1.symm, by (try simp (disch := omega) only [u2_at, u2_ne, up_eq, up_ne, zr_in, zr_out]); exact hz.2.2.symm, Or.inl (by (try simp (disch := omega) only [u2_at, u2_ne, up_eq, up_ne, zr_in, zr_out]); exact hz.2.2), fun q => absurd (by (try simp (disch := omega) only [u2_at, u2_ne, up_eq, up_ne, zr_in, zr_out]); exact hz.2.2) q, by (try simp (disch := omega) only [u2_at, u2_ne, up_eq, up_ne, zr_in, zr_out]); rw [he]; rfl, fun _ => by (try simp (disch := omega) only [u2_at, u2_ne, up_eq, up_ne, zr_in, zr_out]); rw [hc]; rfl, fun k hk _ => ?_⟩
      · (try simp (disch := omega) only [u2_at, u2_ne, up_eq, up_ne, zr_in, zr_out])
        rcases h2 with h2 | ⟨g, hg, h2⟩
        · exact Or.inl h2
        · exact Or.inr ⟨g, by omega, h2⟩
      · (try simp (disch := omega) only [u2_at, u2_ne, up_eq, up_ne, zr_in, zr_out])
        rw [hc]
        symm
        apply decide_eq_false
        intro q
        rcases hR.k hk with h | ⟨a, ha, ha1, ha2⟩
        · rw [h] at q
          exact nIm1 (by omega) q
        · rw [ha1] at q
          have := (nI_eq (by omega) (by omega)).mp q
          omega
    · exact InI_c (by omega) (fun k k1 k2 => by
        have hk : k = 4 ∨ k = 5 ∨ k = 6 ∨ k = 7 ∨ k = 8 ∨ k = 9 ∨ k = 10 ∨ k = 11 := by omega
        rcases hk with hk | hk | hk | hk | hk | hk | hk | hk <;> subst hk <;> (try simp (disch := omega) only [u2_at, u2_ne, up_eq, up_ne, zr_in, zr_out])) (by (try simp (disch := omega) only [u2_at, u2_ne, up_eq, up_ne, zr_in, zr_out])) (by (try simp (disch := omega) only [u2_at, u2_ne, up_eq, up_ne, zr_in, zr_out])) (fun w hw => by (try simp (disch := omega) only [u2_at, u2_ne, up_eq, up_ne, zr_in, zr_out])) (fun k hk => by (try simp (disch := omega) only [u2_at, u2_ne, up_eq, up_ne, zr_in, zr_out])) (hR.i (show i < n by omega))
  · exact KeR_c (by omega) (fun i hi => by (try simp (disch := omega) only [u2_at, u2_ne, up_eq, up_ne, zr_in, zr_out])) (by (try simp (disch := omega) only [u2_at, u2_ne, up_eq, up_ne, zr_in, zr_out])) (hR.k ha)
  · have := hR.z (show n ≤ i by omega) hi2
    unfold ZeR at this ⊢
    (try simp (disch := omega) only [u2_at, u2_ne, up_eq, up_ne, zr_in, zr_out])
    exact this
theorem x_newRow_ (hrf : RFok rf) (hR : Rel σ (ρ 147) n rc) {m : Nat} (hm : m < 6) (hr4 : rc m < 4) (x : Int32) : PC 135 [.ref 146, .int (nI m), .int x] (HP sl ρ rf) (some (.int (nI (rc m + 1)))) (HP sl (u2 (u2 ρ 147 (9 + 13 * m + (1 + rc m)) x) 147 (9 + 13 * m + 0) (nI (rc m + 1))) rf) := by
  refine PC_of (cd := p_c_X5_newRow) (L0 := [some (.ref 146), some (.int (nI m)), some (.int x)]) rfl rfl ?_
  refine R_la0 rfl ?_
  refine R_ld1 rfl ?_
  refine R_n 1 rfl rfl ?_
  refine R_la0 rfl ?_
  refine R_ld1 rfl ?_
  refine R_n 0 rfl rfl ?_
  refine R_c1 rfl (xo_rows hrf hR hm) rfl rfl rfl sh_146 rfl rfl ?_
  refine R_addN rfl ?_
  refine R_ld2 rfl ?_
  refine R_c1 rfl (x_put hrf hm (by omega) _) rfl rfl rfl sh_146 rfl rfl ?_
  refine R_la0 rfl ?_
  refine R_ld1 rfl ?_
  refine R_n 0 rfl rfl ?_
  refine R_n 1 rfl rfl ?_
  refine R_c1 rfl (x_adds hrf hm (by decide) _) rfl rfl rfl sh_146 rfl rfl ?_
  refine PW_eq (show u2 (u2 ρ 147 (9 + 13 * m + (1 + rc m)) x) 147 (9 + 13 * m + 0) (nI (rc m + 1)) = _ by rw [show (u2 ρ 147 (9 + 13 * m + (1 + rc m)) x) 147 (9 + 13 * m + 0) = nI (rc m) by (try simp (disch := omega) only [u2_at, u2_ne, up_eq, up_ne, u1_at, u1_ne]); exact (hR.m hm).2.2.1, nI_add]) ?_
  refine R_la0 rfl ?_
  refine R_ld1 rfl ?_
  refine R_n 0 rfl rfl ?_
  refine R_c1 rfl (x_of hrf hm (by decide)) rfl rfl rfl sh_146 rfl rfl ?_
  refine PW_top (show _ = nI (rc m + 1) by (try simp (disch := omega) only [u2_at, u2_ne, up_eq, up_ne, u1_at, u1_ne])) ?_
  exact R_iret rfl (rfl)

theorem e_newRow (hrf : RFok rf) (hR : Rel σ (ρ 147) n rc) {m : Nat} (hm : m < 6) (hr4 : rc m < 4) {x : Int32} (hx : is16 x) : ∃ μ', Rel (arS σ m (rc m) x) μ' n (fun i => if i = m then rc i + 1 else rc i) ∧ PC 135 [.ref 146, .int (nI m), .int x] (HP sl ρ rf) (some (.int (nI (rc m + 1)))) (HP sl (u1 ρ 147 μ') rf) :=
  ⟨_, Rel_row hR hm hr4 hx, PC_eq (x_newRow_ hrf hR hm hr4 x) (by simp (disch := omega) only [u2_u1, u2_e1, u1_u1, u1_at, up_eq, up_ne])⟩
theorem x_excludes_ (hrf : RFok rf) (hR : Rel σ (ρ 147) n rc) {m b : Nat} (hm : m < 6) (hb : b < 32) (v : Bool) : PC 138 [.ref 146, .int (nI m), .int (nI b), .int (bI v)] (HP sl ρ rf) none (HP sl (u2 ρ 147 (9 + 13 * m + 12) (wI (σ 15 m) b v)) rf) := by
  refine PC_of (cd := p_c_X5_excludes) (L0 := [some (.ref 146), some (.int (nI m)), some (.int (nI b)), some (.int (bI v)), none]) rfl rfl ?_
  refine R_la0 rfl ?_
  refine R_ld1 rfl ?_
  refine R_n 12 rfl rfl ?_
  refine R_c1 rfl (xo_excl hrf hR hm) rfl rfl rfl sh_146 rfl rfl ?_
  refine R_n 1 rfl rfl ?_
  refine R_ld2 rfl ?_
  refine R_shl rfl ?_
  refine R_i rfl ?_
  refine R_xor rfl ?_
  refine R_and rfl ?_
  refine R_st4 rfl ?_
  refine R_la0 rfl ?_
  refine R_ld1 rfl ?_
  refine R_n 12 rfl rfl ?_
  refine R_ld4 rfl ?_
  refine R_ld3 rfl ?_
  refine R_ld2 rfl ?_
  refine R_shl rfl ?_
  refine R_or rfl ?_
  refine PW_top (wI_mod hb v) ?_
  refine R_c1 rfl (x_put hrf hm (by decide) _) rfl rfl rfl sh_146 rfl rfl ?_
  exact R_ret rfl (rfl)

theorem e_excludes (hrf : RFok rf) (hR : Rel σ (ρ 147) n rc) {m b : Nat} (hm : m < 6) (hb : b < 32) (v : Bool) : ∃ μ', Rel (u2 σ 15 m (wI (σ 15 m) b v)) μ' n rc ∧ PC 138 [.ref 146, .int (nI m), .int (nI b), .int (bI v)] (HP sl ρ rf) none (HP sl (u1 ρ 147 μ') rf) :=
  ⟨_, Rel_excl hR hm _, PC_eq (x_excludes_ hrf hR hm hb v) (by simp (disch := omega) only [u2_u1, u2_e1, u1_u1, u1_at, up_eq, up_ne])⟩
theorem x_newInput_ (hrf : RFok rf) (hR : Rel σ (ρ 147) n rc) (hn : n < 16) (kd x3 x1 x2 : Int32) : PC 118 [.ref 146, .int kd, .int x3, .int x1, .int x2] (HP sl ρ rf) (some (.int (nI n))) (HP sl (u2 (u2 (u2 (u2 (u2 (u2 (u1 ρ 147 (zrN (ρ 147) n 11)) 147 (87 + 11 * n + 0) kd) 147 (87 + 11 * n + 3) x3) 147 (87 + 11 * n + 4) (σ 3 1)) 147 (87 + 11 * n + 9) x1) 147 (87 + 11 * n + 10) x2) 147 1 (nI (n + 1))) rf) := by
  have hl := down (n := 11) (P := fun j => PW p_c_X5_newInput 7 [some (.ref 146), some (.int kd), some (.int x3), some (.int x1), some (.int x2), some (.int (nI n)), some (.int (nI j))] [] (HP sl (u1 ρ 147 (zrN (ρ 147) n j)) rf) (fun zz => zz = ((some (.int (nI n))), HP sl (u2 (u2 (u2 (u2 (u2 (u2 (u1 ρ 147 (zrN (ρ 147) n 11)) 147 (87 + 11 * n + 0) kd) 147 (87 + 11 * n + 3) x3) 147 (87 + 11 * n + 4) (σ 3 1)) 147 (87 + 11 * n + 9) x1) 147 (87 + 11 * n + 10) x2) 147 1 (nI (n + 1))) rf))) ?_ ?_
  · refine PC_of (cd := p_c_X5_newInput) (L0 := [some (.ref 146), some (.int kd), some (.int x3), some (.int x1), some (.int x2), none, none]) rfl rfl ?_
    refine R_la0 rfl ?_
    refine R_getR rfl sh_146 rfl (rf_146_0 hrf) ?_
    refine R_n 1 rfl rfl ?_
    refine R_ald rfl sh_147 (by first | decide | omega) (by omega) hR.b.2.2.1 ?_
    refine R_st5 rfl ?_
    refine R_n 0 rfl rfl ?_
    refine R_st6 rfl ?_
    refine PW_eq (show u1 ρ 147 (zrN (ρ 147) n 0) = ρ by rw [zr_0, u1_id]) ?_
    exact hl 0 (Nat.zero_le _)
  · refine R_ld6 rfl ?_
    refine R_n 11 rfl rfl ?_
    refine N2_geT rfl (by omega) (by omega) (by omega) ?_
    refine R_la0 rfl ?_
    refine R_ld5 rfl ?_
    refine R_n 0 rfl rfl ?_
    refine R_ld1 rfl ?_
    refine R_c1 rfl (x_lay hrf (by omega) (by omega) _) rfl rfl rfl sh_146 rfl rfl ?_
    refine R_la0 rfl ?_
    refine R_ld5 rfl ?_
    refine R_n 3 rfl rfl ?_
    refine R_ld2 rfl ?_
    refine R_c1 rfl (x_lay hrf (by omega) (by omega) _) rfl rfl rfl sh_146 rfl rfl ?_
    refine R_la0 rfl ?_
    refine R_ld5 rfl ?_
    refine R_n 4 rfl rfl ?_
    refine R_la0 rfl ?_
    refine R_getR rfl sh_146 rfl (rf_146_0 hrf) ?_
    refine R_n 0 rfl rfl ?_
    refine R_ald rfl sh_147 (by first | decide | omega) (by omega) (show _ = σ 3 1 by simp (disch := omega) only [u2_at, up_ne, u1_at, zr_out]; exact hR.b.2.2.2.1) ?_
    refine R_c1 rfl (x_lay hrf (by omega) (by omega) _) rfl rfl rfl sh_146 rfl rfl ?_
    refine R_la0 rfl ?_
    refine R_ld5 rfl ?_
    refine R_n 9 rfl rfl ?_
    refine R_ld3 rfl ?_
    refine R_c1 rfl (x_lay hrf (by omega) (by omega) _) rfl rfl rfl sh_146 rfl rfl ?_
    refine R_la0 rfl ?_
    refine R_ld5 rfl ?_
    refine R_n 10 rfl rfl ?_
    refine R_ld4 rfl ?_
    refine R_c1 rfl (x_lay hrf (by omega) (by omega) _) rfl rfl rfl sh_146 rfl rfl ?_
    refine R_la0 rfl ?_
    refine R_getR rfl sh_146 rfl (rf_146_0 hrf) ?_
    refine R_n 1 rfl rfl ?_
    refine R_dup2 rfl ?_
    refine R_ald rfl sh_147 (by first | decide | omega) (by omega) (show _ = nI n by simp (disch := omega) only [u2_at, up_ne, u1_at, zr_out]; exact hR.b.2.2.1) ?_
    refine R_n 1 rfl rfl ?_
    refine R_addN rfl ?_
    refine R_ast rfl sh_147 (by decide) (by omega) ?_
    refine R_ld5 rfl ?_
    exact R_iret rfl (rfl)
  · intro j hj hnext
    refine R_ld6 rfl ?_
    refine R_n 11 rfl rfl ?_
    refine N2_geF rfl (by omega) (by omega) (hj) ?_
    refine R_la0 rfl ?_
    refine R_ld5 rfl ?_
    refine R_ld6 rfl ?_
    refine R_n 0 rfl rfl ?_
    refine R_c1 rfl (x_lay hrf (by omega) (by omega) _) rfl rfl rfl sh_146 rfl rfl ?_
    refine R_in6 rfl rfl ?_
    refine R_goto rfl ?_
    refine PW_eq (show u1 ρ 147 (zrN (ρ 147) n (j + 1)) = _ by rw [u2_u1, zr_s]) ?_
    exact hnext

theorem e_newInput (hrf : RFok rf) (hR : Rel σ (ρ 147) n rc) (hn : n < 16) {kd x3 x1 x2 : Int32} (hkd : kd = bI (decide (¬ x1 = -1))) (h1 : x1 = -1 ∨ ∃ k, k < 6 ∧ x1 = nI k) (h2 : x2 = -1 ∨ ∃ g, g < n ∧ x2 = nI g) : ∃ μ', Rel (adI σ n x1 x2 x3) μ' (n + 1) rc ∧ PC 118 [.ref 146, .int kd, .int x3, .int x1, .int x2] (HP sl ρ rf) (some (.int (nI n))) (HP sl (u1 ρ 147 μ') rf) :=
  ⟨_, Rel_new hR hn hkd h1 h2, PC_eq (x_newInput_ hrf hR hn kd x3 x1 x2) (by simp (disch := omega) only [u2_u1, u2_e1, u1_u1, u1_at, up_eq, up_ne])⟩
end
