/-! the model's methods that write; the relation behind them -/
theorem up_eq {f : Nat → Int32} {j : Nat} {v : Int32} : upd f j v j = v := if_pos rfl
theorem up_ne {f : Nat → Int32} {j s : Nat} {v : Int32} (h : s ≠ j) : upd f j v s = f s := if_neg h
theorem wI_at {x : Int32} {j : Nat} {b : Bool} (hj : j < 32) : bt (wI x j b) j = b := by rw [b_wI hj hj, if_pos rfl]
theorem wI_ne {x : Int32} {j i : Nat} {b : Bool} (hj : j < 32) (h : i ≠ j) : bt (wI x j b) i = bt x i := by
  by_cases hi : i < 32
  · rw [b_wI hj hi, if_neg h]
  · rw [b_big (by omega), b_big (by omega)]
theorem PW_eq {cd : List pI} {i : Nat} {L : pL} {S : List Value} {sl : Nat} {ρ ρ' : pR} {rf : pF} {Q : Option Value × pH → Prop} (e : ρ' = ρ) (kk : PW cd i L S (HP sl ρ' rf) Q) : PW cd i L S (HP sl ρ rf) Q := by rw [← e]; exact kk
theorem PC_eq {k : Nat} {args : List Value} {r : Option Value} {sl : Nat} {ρ ρ1 ρ2 : pR} {rf rf' : pF} (hp : PC k args (HP sl ρ rf) r (HP sl ρ1 rf')) (e : ρ1 = ρ2) : PC k args (HP sl ρ rf) r (HP sl ρ2 rf') := by rw [← e]; exact hp
theorem PC_ex {Φ : (Nat → Int32) → Prop} {k : Nat} {args : List Value} {r : Option Value} {sl : Nat} {ρ : pR} {rf : pF} {cd : List pI} {L0 : pL} {h : pH} (hcd : p_cd k = cd) (hL : p_ent k args = L0) (hw : PW cd 0 L0 [] h (fun zz => ∃ μ', Φ μ' ∧ zz = (r, HP sl (u1 ρ 147 μ') rf))) : ∃ μ', Φ μ' ∧ PC k args h r (HP sl (u1 ρ 147 μ') rf) := by
  obtain ⟨n, r2, h1, μ', h2, h3⟩ := hw
  subst h3
  subst hL
  subst hcd
  exact ⟨μ', h2, n, h1⟩
section
variable {σ σ' : pR} {μ μ' : Nat → Int32} {n : Nat} {rc rc' : Nat → Nat}
theorem MoR_c {m : Nat} (h1 : ∀ k, 14 ≤ k → k ≤ 21 → σ' k m = σ k m) (h13 : ∀ j, j < 4 → σ' 13 (m * 4 + j) = σ 13 (m * 4 + j)) (h12 : bt (σ' 12 0) m = bt (σ 12 0) m) (hμ : ∀ w, w < 13 → μ' (9 + 13 * m + w) = μ (9 + 13 * m + w)) (hrc : rc' m = rc m) (h : MoR σ μ rc m) : MoR σ' μ' rc' m := by
  obtain ⟨q0, q1, q2, q3, q4, q5, q6, q7, q8, q9, q10, q11, q12, q13, q14, q15⟩ := h
  unfold MoR
  rw [hrc, h12, h1 14 (by decide) (by decide), h1 15 (by decide) (by decide), h1 16 (by decide) (by decide), h1 17 (by decide) (by decide), h1 18 (by decide) (by decide), h1 19 (by decide) (by decide), h1 20 (by decide) (by decide), h1 21 (by decide) (by decide), hμ 0 (by decide), hμ 5 (by decide), hμ 6 (by decide), hμ 7 (by decide), hμ 8 (by decide), hμ 9 (by decide), hμ 10 (by decide), hμ 11 (by decide), hμ 12 (by decide)]
  exact ⟨q0, q1, q2, fun j hj => by rw [hμ _ (by omega), h13 j hj]; exact q3 j hj, q4, q5, q6, q7, q8, q9, q10, q11, q12, q13, q14, fun j hj => by rw [h13 j hj]; exact q15 j hj⟩
theorem InI_c {n' i : Nat} (hn : n ≤ n') (h1 : ∀ k, 4 ≤ k → k ≤ 11 → σ' k i = σ k i) (h3 : bt (σ' 3 3) i = bt (σ 3 3) i) (h4 : bt (σ' 3 4) i = bt (σ 3 4) i) (hμ : ∀ w, w < 11 → μ' (87 + 11 * i + w) = μ (87 + 11 * i + w)) (hk : ∀ k, k < 6 → μ' (3 + k) = μ (3 + k)) (h : InI σ μ n i) : InI σ' μ' n' i := by
  obtain ⟨q0, q1, q2, q3, q4, q5, q6, q7, q8, q9, q10, q11, q12, q13, q14, q15⟩ := h
  unfold InI
  rw [h3, h4, h1 4 (by decide) (by decide), h1 5 (by decide) (by decide), h1 6 (by decide) (by decide), h1 7 (by decide) (by decide), h1 8 (by decide) (by decide), h1 9 (by decide) (by decide), h1 10 (by decide) (by decide), h1 11 (by decide) (by decide), hμ 0 (by decide), hμ 1 (by decide), hμ 2 (by decide), hμ 3 (by decide), hμ 4 (by decide), hμ 5 (by decide), hμ 6 (by decide), hμ 7 (by decide), hμ 8 (by decide), hμ 9 (by decide), hμ 10 (by decide)]
  refine ⟨q0, q1, q2, q3, ?_, q5, q6, q7, q8, q9, q10, q11, q12, q13, q14, fun k hk6 e => by rw [hk k hk6]; exact q15 k hk6 e⟩
  rcases q4 with q | ⟨g, hg, q⟩
  · exact Or.inl q
  · exact Or.inr ⟨g, by omega, q⟩
theorem KeR_c {n' k : Nat} (hn : n ≤ n') (h1 : ∀ i, i < n → σ' 4 i = σ 4 i) (hk : μ' (3 + k) = μ (3 + k)) (h : KeR σ μ n k) : KeR σ' μ' n' k := by
  unfold KeR
  rw [hk]
  rcases h with h | ⟨i, hi, h2, h3⟩
  · exact Or.inl h
  · exact Or.inr ⟨i, by omega, h2, by rw [h1 i hi]; exact h3⟩
/-- one motion changes -/
theorem Rel_mo (hR : Rel σ μ n rc) {m : Nat} (hm : m < 6) (h1 : ∀ k, k < 12 → σ' k = σ k) (h2 : ∀ k, 14 ≤ k → k ≤ 21 → ∀ s, s ≠ m → σ' k s = σ k s) (h13 : ∀ a, a ≠ m → ∀ j, j < 4 → σ' 13 (a * 4 + j) = σ 13 (a * 4 + j)) (h3 : ∀ i, i ≠ m → bt (σ' 12 0) i = bt (σ 12 0) i) (h4 : ∀ s, ¬ (9 + 13 * m ≤ s ∧ s < 9 + 13 * m + 13) → μ' s = μ s) (h5 : ∀ i, i ≠ m → rc' i = rc i) (h6 : MoR σ' μ' rc' m) : Rel σ' μ' n rc' := by
  obtain ⟨b1, b2, b3, b4, b5⟩ := hR.b
  refine ⟨⟨b1, by rw [h1 3 (by decide)]; exact b2, by rw [h4 1 (by omega)]; exact b3, by rw [h4 0 (by omega), h1 3 (by decide)]; exact b4, by rw [h4 2 (by omega), h1 3 (by decide)]; exact b5⟩, fun a ha => ?_, fun i hi => by rw [h3 i (by omega)]; exact hR.r hi, fun i hi => ?_, fun k hk => ?_, fun i hi hi2 => ?_, fun i hi => by rw [h1 3 (by decide)]; exact hR.c hi, fun i hi => by rw [h1 3 (by decide)]; exact hR.e hi⟩
  · by_cases e : a = m
    · rw [e]; exact h6
    · exact MoR_c (fun k k1 k2 => h2 k k1 k2 a e) (h13 a e) (h3 a e) (fun w hw => h4 _ (by omega)) (h5 a e) (hR.m ha)
  · exact InI_c (Nat.le_refl _) (fun k k1 k2 => by rw [h1 k (by omega)]) (by rw [h1 3 (by decide)]) (by rw [h1 3 (by decide)]) (fun w hw => h4 _ (by omega)) (fun k hk => h4 _ (by omega)) (hR.i hi)
  · exact KeR_c (Nat.le_refl _) (fun i hi => by rw [h1 4 (by decide)]) (h4 _ (by omega)) (hR.k hk)
  · have := hR.z hi hi2
    unfold ZeR
    rw [h1 8 (by decide), h1 9 (by decide), h1 10 (by decide)]
    exact this
/-- one input changes -/
theorem Rel_in (hR : Rel σ μ n rc) {i : Nat} (hi : i < n) (h1 : ∀ k, 12 ≤ k → k ≤ 21 → σ' k = σ k) (h2 : ∀ k, 4 ≤ k → k ≤ 11 → ∀ s, s ≠ i → σ' k s = σ k s) (h3 : ∀ s, s ≠ i → bt (σ' 3 3) s = bt (σ 3 3) s ∧ bt (σ' 3 4) s = bt (σ 3 4) s) (h4 : ∀ s, s ≠ 2 → ¬ (87 + 11 * i ≤ s ∧ s < 87 + 11 * i + 11) → μ' s = μ s) (h5 : σ' 3 0 = σ 3 0 ∧ σ' 3 1 = σ 3 1 ∧ μ' 2 = σ' 3 2) (h6 : σ' 4 i = σ 4 i) (h7 : InI σ' μ' n i) : Rel σ' μ' n rc := by
  obtain ⟨b1, b2, b3, b4, b5⟩ := hR.b
  have hs4 : ∀ s, σ' 4 s = σ 4 s := fun s => by
    by_cases e : s = i
    · rw [e]; exact h6
    · exact h2 4 (by decide) (by decide) s e
  refine ⟨⟨b1, by rw [h5.1]; exact b2, by rw [h4 1 (by decide) (by omega)]; exact b3, by rw [h4 0 (by decide) (by omega), h5.2.1]; exact b4, h5.2.2⟩, fun a ha => ?_, fun a ha => by rw [h1 12 (by decide) (by decide)]; exact hR.r ha, fun a ha => ?_, fun k hk => ?_, fun a ha ha2 => ?_, fun a ha => by rw [(h3 a (by omega)).1]; exact hR.c ha, fun a ha => by rw [(h3 a (by omega)).2]; exact hR.e ha⟩
  · exact MoR_c (fun k k1 k2 => by rw [h1 k (by omega) (by omega)]) (fun j hj => by rw [h1 13 (by decide) (by decide)]) (by rw [h1 12 (by decide) (by decide)]) (fun w hw => h4 _ (by omega) (by omega)) rfl (hR.m ha)
  · by_cases e : a = i
    · rw [e]; exact h7
    · exact InI_c (Nat.le_refl _) (fun k k1 k2 => h2 k k1 k2 a e) (h3 a e).1 (h3 a e).2 (fun w hw => h4 _ (by omega) (by omega)) (fun k hk => h4 _ (by omega) (by omega)) (hR.i ha)
  · exact KeR_c (Nat.le_refl _) (fun s _ => hs4 s) (h4 _ (by omega) (by omega)) (hR.k hk)
  · have := hR.z ha ha2
    unfold ZeR
    rw [h2 8 (by decide) (by decide) a (by omega), h2 9 (by decide) (by decide) a (by omega), h2 10 (by decide) (by decide) a (by omega)]
    exact this
end
section
variable {sl : Nat} {ρ σ : pR} {μ : Nat → Int32} {rf : pF} {n : Nat} {rc : Nat → Nat}
theorem Rel_stop (hR : Rel σ μ n rc) {m : Nat} (hm : m < 6) {f : Nat} (hf : f < 16) {t : Int32} (ht : 0 ≤ t) : Rel (u2 (u2 (u2 (u2 σ 12 0 (wI (σ 12 0) m false)) 16 m (nI f)) 17 m t) 18 m (σ 18 m + nI 1)) (upd (upd (upd (upd μ (9 + 13 * m + 5) (nI 0)) (9 + 13 * m + 6) (nI f)) (9 + 13 * m + 7) t) (9 + 13 * m + 11) (μ (9 + 13 * m + 11) + nI 1)) n (rc) := by
  obtain ⟨q0, q1, q2, q3, q4, q5, q6, q7, q8, q9, q10, q11, q12, q13, q14, q15⟩ := hR.m hm
  refine Rel_mo hR hm (fun k hk => by (try simp (disch := omega) only [u2_at, u2_ne, up_eq, up_ne, u1_at, u1_ne])) (fun k k1 k2 s hs => ?_) (fun a ha j hj => by (try simp (disch := omega) only [u2_at, u2_ne, up_eq, up_ne, u1_at, u1_ne])) (fun i hi => by (try simp (disch := omega) only [u2_at, u2_ne, up_eq, up_ne, u1_at, u1_ne]); rw [wI_ne (by omega) hi]) (fun s hs => by (try simp (disch := omega) only [u2_at, u2_ne, up_eq, up_ne, u1_at, u1_ne])) (fun i hi => rfl) ⟨by (try simp (disch := omega) only [u2_at, u2_ne, up_eq, up_ne, u1_at, u1_ne]); exact q0, by (try simp (disch := omega) only [u2_at, u2_ne, up_eq, up_ne, u1_at, u1_ne]); exact q1, by (try simp (disch := omega) only [u2_at, u2_ne, up_eq, up_ne, u1_at, u1_ne]); exact q2, fun j hj => by (try simp (disch := omega) only [u2_at, u2_ne, up_eq, up_ne, u1_at, u1_ne]); exact q3 j hj, by (try simp (disch := omega) only [u2_at, u2_ne, up_eq, up_ne, u1_at, u1_ne]); rw [wI_at (by omega)]; rfl, by (try simp (disch := omega) only [u2_at, u2_ne, up_eq, up_ne, u1_at, u1_ne]), by (try simp (disch := omega) only [u2_at, u2_ne, up_eq, up_ne, u1_at, u1_ne]); exact Or.inr (nI_pos' (by omega)), by (try simp (disch := omega) only [u2_at, u2_ne, up_eq, up_ne, u1_at, u1_ne]), by (try simp (disch := omega) only [u2_at, u2_ne, up_eq, up_ne, u1_at, u1_ne]); exact Or.inr ht, by (try simp (disch := omega) only [u2_at, u2_ne, up_eq, up_ne, u1_at, u1_ne]); exact q9, by (try simp (disch := omega) only [u2_at, u2_ne, up_eq, up_ne, u1_at, u1_ne]); exact q10, by (try simp (disch := omega) only [u2_at, u2_ne, up_eq, up_ne, u1_at, u1_ne]); exact q11, by (try simp (disch := omega) only [u2_at, u2_ne, up_eq, up_ne, u1_at, u1_ne]); rw [q12], by (try simp (disch := omega) only [u2_at, u2_ne, up_eq, up_ne, u1_at, u1_ne]); exact q13, by (try simp (disch := omega) only [u2_at, u2_ne, up_eq, up_ne, u1_at, u1_ne]); rw [wI_at (by omega)]; exact fun q => absurd q Bool.false_ne_true, fun j hj => by (try simp (disch := omega) only [u2_at, u2_ne, up_eq, up_ne, u1_at, u1_ne]); exact q15 j hj⟩
  · by_cases e : k = 13
    · omega
    · have hk : k = 14 ∨ k = 15 ∨ k = 16 ∨ k = 17 ∨ k = 18 ∨ k = 19 ∨ k = 20 ∨ k = 21 := by omega
      rcases hk with hk | hk | hk | hk | hk | hk | hk | hk <;> subst hk <;> (try simp (disch := omega) only [u2_at, u2_ne, up_eq, up_ne, u1_at, u1_ne])
theorem np_ne {f : Nat → Int32} {r : Nat} {x : Int32} (h : pmI f r x = false) (hr : 1 ≤ r) : ¬ orA f (fun _ => true) r &&& (x ^^^ (-1)) = 0 := fun q => by
  have h0 : f 0 &&& (x ^^^ (-1)) = 0 := by
    refine b_ext fun i hi => ?_
    have q1 := congrArg (fun z => bt z i) q
    simp only [b_0, b_and] at q1 ⊢
    have hor : ∀ r, 1 ≤ r → bt (f 0) i = true → bt (orA f (fun _ => true) r) i = true := fun r => by
      induction r with
      | zero => intro h; omega
      | succ r ih =>
        intro _ hb
        rw [orA_t rfl, b_or]
        by_cases hr : 1 ≤ r
        · rw [ih hr hb]; rfl
        · have : r = 0 := by omega
          subst this
          rw [hb, Bool.or_true]
    cases hb : bt (f 0) i with
    | false => rfl
    | true => rw [hor r hr hb] at q1; exact q1
  have : pmI f r x = true := an_t (p := fun j => decide (f j &&& (x ^^^ (-1)) = 0)) (decide_eq_true h0) hr
  rw [this] at h
  cases h
theorem x_looks (hrf : RFok rf) (hR : Rel σ (ρ 147) n rc) (hT : 0 ≤ σ 3 1) (b : Int32) : ∃ μ', Rel (suA σ rc b (M (cS σ n)) (σ 3 1) (6)) μ' n rc ∧ PC 116 [.ref 146, .int b] (HP sl ρ rf) (some (.int (nI (fb_ct (suN σ rc b (M (cS σ n)) (σ 3 1)) 6)))) (HP sl (u1 ρ 147 μ') rf) := by
  have hl := down (n := 6) (P := fun j => ∀ μ : Nat → Int32, Rel (suA σ rc b (M (cS σ n)) (σ 3 1) (j)) μ n rc → ∀ w0 w1 : Option Value, PW p_c_X5_looks 7 [some (.ref 146), some (.int b), some (.int (M (cS σ n))), some (.int (nI (fb_ct (suN σ rc b (M (cS σ n)) (σ 3 1)) j))), some (.int (nI j)), w0, w1] [] (HP sl (u1 ρ 147 μ) rf) (fun zz => ∃ μ', Rel (suA σ rc b (M (cS σ n)) (σ 3 1) (6)) μ' n rc ∧ zz = (some (.int (nI (fb_ct (suN σ rc b (M (cS σ n)) (σ 3 1)) 6))), HP sl (u1 ρ 147 μ') rf))) ?_ ?_
  · refine PC_ex (cd := p_c_X5_looks) (L0 := [some (.ref 146), some (.int b), none, none, none, none, none]) rfl rfl ?_
    refine R_la0 rfl ?_
    refine R_c1 rfl (x_closedOnes hrf hR) rfl rfl rfl sh_146 rfl rfl ?_
    refine R_st2 rfl ?_
    refine R_n 0 rfl rfl ?_
    refine R_st3 rfl ?_
    refine R_n 0 rfl rfl ?_
    refine R_st4 rfl ?_
    exact PW_eq (u1_id ρ 147) (hl 0 (Nat.zero_le _) (ρ 147) hR _ _)
  · intro μ hμ w0 w1
    refine R_ld4 rfl ?_
    refine R_n 6 rfl rfl ?_
    refine N2_geT rfl (by omega) (by omega) (by omega) ?_
    refine R_ld3 rfl ?_
    exact R_iret rfl (⟨μ, hμ, rfl⟩)
  · intro j hj hnext μ hμ w0 w1
    have hμ2 : Rel (suA σ rc b (M (cS σ n)) (σ 3 1) (j)) ((u1 ρ 147 μ) 147) n rc := by rw [u1_at]; exact hμ
    have hmo := hμ.m hj
    have hT2 : (suA σ rc b (M (cS σ n)) (σ 3 1) (j)) 3 1 = σ 3 1 := by rw [suA_f _ _ _ _ _ (by decide)]
    refine R_ld4 rfl ?_
    refine R_n 6 rfl rfl ?_
    refine N2_geF rfl (by omega) (by omega) (hj) ?_
    refine R_la0 rfl ?_
    refine R_ld4 rfl ?_
    refine R_n 5 rfl rfl ?_
    refine R_c1 rfl (xo_runs hrf hμ2 hj) rfl rfl rfl sh_146 rfl rfl ?_
    refine R_n 1 rfl rfl ?_
    refine B2_ne rfl (fun h15 => ?_) (fun h15 => ?_)
    · refine R_in4 rfl rfl ?_
      refine R_goto rfl ?_
      first
        | (have e0 := su_f1 (bIf.mp h15); rw [ct_f e0.1, e0.2] at hnext; exact hnext μ hμ _ _)
        | (have e0 := su_f2 h20; rw [ct_f e0.1, e0.2] at hnext; exact hnext μ hμ _ _)
        | (have e0 := su_t e1 h20; rw [ct_t e0.1, e0.2] at hnext
           have hlo : loI (orA (rw0 (suA σ rc b (M (cS σ n)) (σ 3 1) (j)) j) (fun _ => true) (rc j) &&& ((M (cS σ n)) ^^^ (-1))) b = nI f0 := by show fI (ff (bt (if (orA (rw0 (suA σ rc b (M (cS σ n)) (σ 3 1) (j)) j) (fun _ => true) (rc j) &&& ((M (cS σ n)) ^^^ (-1))) &&& b = 0 then (orA (rw0 (suA σ rc b (M (cS σ n)) (σ 3 1) (j)) j) (fun _ => true) (rc j) &&& ((M (cS σ n)) ^^^ (-1))) else (orA (rw0 (suA σ rc b (M (cS σ n)) (σ 3 1) (j)) j) (fun _ => true) (rc j) &&& ((M (cS σ n)) ^^^ (-1))) &&& b)) 16) = _; rw [hf0_]; rfl
           rw [hlo] at hnext
           exact PW_eq (by simp (disch := omega) only [u2_u1, u1_at, up_ne]) (hnext _ (Rel_stop hμ hj (ff_spec hf0).1 hT) _ _))
    · refine R_la0 rfl ?_
      refine R_ld4 rfl ?_
      refine R_ld2 rfl ?_
      refine R_c1 rfl (x_isPerm hrf hμ2 hj _) rfl rfl rfl sh_146 rfl rfl ?_
      refine BB_ne rfl (fun h20 => ?_) (fun h20 => ?_)
      · refine R_in4 rfl rfl ?_
        refine R_goto rfl ?_
        first
          | (have e0 := su_f1 (bIf.mp h15); rw [ct_f e0.1, e0.2] at hnext; exact hnext μ hμ _ _)
          | (have e0 := su_f2 h20; rw [ct_f e0.1, e0.2] at hnext; exact hnext μ hμ _ _)
          | (have e0 := su_t e1 h20; rw [ct_t e0.1, e0.2] at hnext
             have hlo : loI (orA (rw0 (suA σ rc b (M (cS σ n)) (σ 3 1) (j)) j) (fun _ => true) (rc j) &&& ((M (cS σ n)) ^^^ (-1))) b = nI f0 := by show fI (ff (bt (if (orA (rw0 (suA σ rc b (M (cS σ n)) (σ 3 1) (j)) j) (fun _ => true) (rc j) &&& ((M (cS σ n)) ^^^ (-1))) &&& b = 0 then (orA (rw0 (suA σ rc b (M (cS σ n)) (σ 3 1) (j)) j) (fun _ => true) (rc j) &&& ((M (cS σ n)) ^^^ (-1))) else (orA (rw0 (suA σ rc b (M (cS σ n)) (σ 3 1) (j)) j) (fun _ => true) (rc j) &&& ((M (cS σ n)) ^^^ (-1))) &&& b)) 16) = _; rw [hf0_]; rfl
             rw [hlo] at hnext
             exact PW_eq (by simp (disch := omega) only [u2_u1, u1_at, up_ne]) (hnext _ (Rel_stop hμ hj (ff_spec hf0).1 hT) _ _))
      · refine R_la0 rfl ?_
        refine R_ld4 rfl ?_
        have e1 : bt ((suA σ rc b (M (cS σ n)) (σ 3 1) (j)) 12 0) j = true := bIt.mp h15
        have hr1 := hmo.2.2.2.2.2.2.2.2.2.2.2.2.2.2.1 e1
        have hy16 : is16 (orA (rw0 (suA σ rc b (M (cS σ n)) (σ 3 1) (j)) j) (fun _ => true) (rc j) &&& ((M (cS σ n)) ^^^ (-1))) := is16_and (is16_orA fun i hi => hmo.2.2.2.2.2.2.2.2.2.2.2.2.2.2.2 i (by have := hmo.1; omega))
        have hy0 : ¬ (orA (rw0 (suA σ rc b (M (cS σ n)) (σ 3 1) (j)) j) (fun _ => true) (rc j) &&& ((M (cS σ n)) ^^^ (-1))) = 0 := np_ne h20 hr1
        refine R_c1 rfl (x_inputsOf hrf hμ2 hj) rfl rfl rfl sh_146 rfl rfl ?_
        refine R_ld2 rfl ?_
        refine R_i rfl ?_
        refine R_xor rfl ?_
        refine R_and rfl ?_
        refine R_st5 rfl ?_
        refine R_ld5 rfl ?_
        refine R_ld1 rfl ?_
        refine R_and rfl ?_
        refine R_st6 rfl ?_
        refine R_la0 rfl ?_
        refine R_ld4 rfl ?_
        refine R_n 5 rfl rfl ?_
        refine R_n 0 rfl rfl ?_
        refine R_c1 rfl (x_put hrf hj (by decide) _) rfl rfl rfl sh_146 rfl rfl ?_
        refine R_la0 rfl ?_
        refine R_ld4 rfl ?_
        refine R_n 6 rfl rfl ?_
        refine R_ld6 rfl ?_
        refine B1_ne rfl (fun h42 => ?_) (fun h42 => ?_)
        · refine R_ld6 rfl ?_
          have hex : ∃ f0, ff (bt (if (orA (rw0 (suA σ rc b (M (cS σ n)) (σ 3 1) (j)) j) (fun _ => true) (rc j) &&& ((M (cS σ n)) ^^^ (-1))) &&& b = 0 then (orA (rw0 (suA σ rc b (M (cS σ n)) (σ 3 1) (j)) j) (fun _ => true) (rc j) &&& ((M (cS σ n)) ^^^ (-1))) else (orA (rw0 (suA σ rc b (M (cS σ n)) (σ 3 1) (j)) j) (fun _ => true) (rc j) &&& ((M (cS σ n)) ^^^ (-1))) &&& b)) 16 = some f0 := by first | (rw [if_neg h42]; exact is16_ff (is16_and hy16) h42) | (rw [if_pos h42]; exact is16_ff hy16 hy0)
          obtain ⟨f0, hf0⟩ := hex
          have hf0_ := hf0
          first | rw [if_neg h42] at hf0 | rw [if_pos h42] at hf0
          refine R_c0 rfl (x_least hf0) rfl rfl rfl ?_
          refine R_c1 rfl (x_put hrf hj (by decide) _) rfl rfl rfl sh_146 rfl rfl ?_
          refine R_la0 rfl ?_
          refine R_ld4 rfl ?_
          refine R_n 7 rfl rfl ?_
          refine R_la0 rfl ?_
          refine R_getR rfl sh_146 rfl (rf_146_0 hrf) ?_
          refine R_n 0 rfl rfl ?_
          refine R_ald rfl sh_147 (by first | decide | omega) (by omega) (show _ = σ 3 1 by (try simp (disch := omega) only [u2_at, u2_ne, up_eq, up_ne, u1_at, u1_ne]); rw [← hT2]; exact hμ.b.2.2.2.1) ?_
          refine R_c1 rfl (x_put hrf hj (by decide) _) rfl rfl rfl sh_146 rfl rfl ?_
          refine R_la0 rfl ?_
          refine R_ld4 rfl ?_
          refine R_n 11 rfl rfl ?_
          refine R_n 1 rfl rfl ?_
          refine R_c1 rfl (x_adds hrf hj (by decide) _) rfl rfl rfl sh_146 rfl rfl ?_
          refine R_in3 rfl rfl ?_
          refine R_in4 rfl rfl ?_
          refine R_goto rfl ?_
          first
            | (have e0 := su_f1 (bIf.mp h15); rw [ct_f e0.1, e0.2] at hnext; exact hnext μ hμ _ _)
            | (have e0 := su_f2 h20; rw [ct_f e0.1, e0.2] at hnext; exact hnext μ hμ _ _)
            | (have e0 := su_t e1 h20; rw [ct_t e0.1, e0.2] at hnext
               have hlo : loI (orA (rw0 (suA σ rc b (M (cS σ n)) (σ 3 1) (j)) j) (fun _ => true) (rc j) &&& ((M (cS σ n)) ^^^ (-1))) b = nI f0 := by show fI (ff (bt (if (orA (rw0 (suA σ rc b (M (cS σ n)) (σ 3 1) (j)) j) (fun _ => true) (rc j) &&& ((M (cS σ n)) ^^^ (-1))) &&& b = 0 then (orA (rw0 (suA σ rc b (M (cS σ n)) (σ 3 1) (j)) j) (fun _ => true) (rc j) &&& ((M (cS σ n)) ^^^ (-1))) else (orA (rw0 (suA σ rc b (M (cS σ n)) (σ 3 1) (j)) j) (fun _ => true) (rc j) &&& ((M (cS σ n)) ^^^ (-1))) &&& b)) 16) = _; rw [hf0_]; rfl
               rw [hlo] at hnext
               exact PW_eq (by simp (disch := omega) only [u2_u1, u1_at, up_ne]) (hnext _ (Rel_stop hμ hj (ff_spec hf0).1 hT) _ _))
        · refine R_ld5 rfl ?_
          refine R_goto rfl ?_
          have hex : ∃ f0, ff (bt (if (orA (rw0 (suA σ rc b (M (cS σ n)) (σ 3 1) (j)) j) (fun _ => true) (rc j) &&& ((M (cS σ n)) ^^^ (-1))) &&& b = 0 then (orA (rw0 (suA σ rc b (M (cS σ n)) (σ 3 1) (j)) j) (fun _ => true) (rc j) &&& ((M (cS σ n)) ^^^ (-1))) else (orA (rw0 (suA σ rc b (M (cS σ n)) (σ 3 1) (j)) j) (fun _ => true) (rc j) &&& ((M (cS σ n)) ^^^ (-1))) &&& b)) 16 = some f0 := by first | (rw [if_neg h42]; exact is16_ff (is16_and hy16) h42) | (rw [if_pos h42]; exact is16_ff hy16 hy0)
          obtain ⟨f0, hf0⟩ := hex
          have hf0_ := hf0
          first | rw [if_neg h42] at hf0 | rw [if_pos h42] at hf0
          refine R_c0 rfl (x_least hf0) rfl rfl rfl ?_
          refine R_c1 rfl (x_put hrf hj (by decide) _) rfl rfl rfl sh_146 rfl rfl ?_
          refine R_la0 rfl ?_
          refine R_ld4 rfl ?_
          refine R_n 7 rfl rfl ?_
          refine R_la0 rfl ?_
          refine R_getR rfl sh_146 rfl (rf_146_0 hrf) ?_
          refine R_n 0 rfl rfl ?_
          refine R_ald rfl sh_147 (by first | decide | omega) (by omega) (show _ = σ 3 1 by (try simp (disch := omega) only [u2_at, u2_ne, up_eq, up_ne, u1_at, u1_ne]); rw [← hT2]; exact hμ.b.2.2.2.1) ?_
          refine R_c1 rfl (x_put hrf hj (by decide) _) rfl rfl rfl sh_146 rfl rfl ?_
          refine R_la0 rfl ?_
          refine R_ld4 rfl ?_
          refine R_n 11 rfl rfl ?_
          refine R_n 1 rfl rfl ?_
          refine R_c1 rfl (x_adds hrf hj (by decide) _) rfl rfl rfl sh_146 rfl rfl ?_
          refine R_in3 rfl rfl ?_
          refine R_in4 rfl rfl ?_
          refine R_goto rfl ?_
          first
            | (have e0 := su_f1 (bIf.mp h15); rw [ct_f e0.1, e0.2] at hnext; exact hnext μ hμ _ _)
            | (have e0 := su_f2 h20; rw [ct_f e0.1, e0.2] at hnext; exact hnext μ hμ _ _)
            | (have e0 := su_t e1 h20; rw [ct_t e0.1, e0.2] at hnext
               have hlo : loI (orA (rw0 (suA σ rc b (M (cS σ n)) (σ 3 1) (j)) j) (fun _ => true) (rc j) &&& ((M (cS σ n)) ^^^ (-1))) b = nI f0 := by show fI (ff (bt (if (orA (rw0 (suA σ rc b (M (cS σ n)) (σ 3 1) (j)) j) (fun _ => true) (rc j) &&& ((M (cS σ n)) ^^^ (-1))) &&& b = 0 then (orA (rw0 (suA σ rc b (M (cS σ n)) (σ 3 1) (j)) j) (fun _ => true) (rc j) &&& ((M (cS σ n)) ^^^ (-1))) else (orA (rw0 (suA σ rc b (M (cS σ n)) (σ 3 1) (j)) j) (fun _ => true) (rc j) &&& ((M (cS σ n)) ^^^ (-1))) &&& b)) 16) = _; rw [hf0_]; rfl
               rw [hlo] at hnext
               exact PW_eq (by simp (disch := omega) only [u2_u1, u1_at, up_ne]) (hnext _ (Rel_stop hμ hj (ff_spec hf0).1 hT) _ _))

end
