/-! what holds between two calls -/
/-- the state at base a, seen as the present one -/
def vw (ρ : pR) (a : Nat) : pR := fun k => ρ (a + k - 2)
def sg (g : Nat → Int32) (i : Nat) : Nat → Int32 := fun s => g (263 * i + s)
theorem Rel_V {σ σ' : pR} {μ μ' : Nat → Int32} {n : Nat} {rc : Nat → Nat} (hV : VEq σ 2 σ' 2) (hμ : ∀ s, s < 263 → μ' s = μ s) (h : Rel σ μ n rc) : Rel σ' μ' n rc := by
  obtain ⟨v1, v2, v3, v4, v5⟩ := hV
  obtain ⟨b1, b2, b3, b4, b5⟩ := h.b
  have w1 : ∀ s, s < 5 → σ' 3 s = σ 3 s := v1
  have w2 : ∀ k, 4 ≤ k → k ≤ 11 → ∀ j, j < 16 → σ' k j = σ k j := fun k k1 k2 j hj => by
    have := v2 (k - 2) (by omega) (by omega) j hj
    rw [show 2 + (k - 2) = k by omega] at this
    exact this
  have w5 : ∀ k, 14 ≤ k → k ≤ 21 → ∀ j, j < 6 → σ' k j = σ k j := fun k k1 k2 j hj => by
    have := v5 (k - 2) (by omega) (by omega) j hj
    rw [show 2 + (k - 2) = k by omega] at this
    exact this
  have w3 : σ' 12 0 = σ 12 0 := v3
  refine ⟨⟨b1, by rw [w1 0 (by decide)]; exact b2, by rw [hμ 1 (by decide)]; exact b3, by rw [hμ 0 (by decide), w1 1 (by decide)]; exact b4, by rw [hμ 2 (by decide), w1 2 (by decide)]; exact b5⟩, fun m hm => MoR_c (fun k k1 k2 => w5 k k1 k2 m hm) (fun j hj => v4 _ (by omega)) (by rw [w3]) (fun w hw => hμ _ (by omega)) rfl (h.m hm), fun i hi => by rw [w3]; exact h.r hi, fun i hi => InI_c (Nat.le_refl _) (fun k k1 k2 => w2 k k1 k2 i (by omega)) (by rw [w1 3 (by decide)]) (by rw [w1 4 (by decide)]) (fun w hw => hμ _ (by omega)) (fun k hk => hμ _ (by omega)) (h.i hi), fun k hk => KeR_c (Nat.le_refl _) (fun i hi => w2 4 (by decide) (by decide) i (by omega)) (hμ _ (by omega)) (h.k hk), fun i hi hi2 => ?_, fun i hi => by rw [w1 3 (by decide)]; exact h.c hi, fun i hi => by rw [w1 4 (by decide)]; exact h.e hi⟩
  have := h.z hi hi2
  unfold ZeR
  rw [w2 8 (by decide) (by decide) i hi2, w2 9 (by decide) (by decide) i hi2, w2 10 (by decide) (by decide) i hi2]
  exact this
theorem VEq_k {σ σ' : pR} (h : ∀ k, 3 ≤ k → k ≤ 21 → σ' k = σ k) : VEq σ 2 σ' 2 := VEq.of fun k k1 k2 => h k (by omega) (by omega)
theorem Rel_k {σ σ' : pR} {μ : Nat → Int32} {n : Nat} {rc : Nat → Nat} (h : ∀ k, 3 ≤ k → k ≤ 21 → σ' k = σ k) (hR : Rel σ μ n rc) : Rel σ' μ n rc := Rel_V (VEq_k h) (fun _ _ => rfl) hR
/-- one state in both -/
def StR (σ : pR) (μ : Nat → Int32) : Prop := ∃ (n : Nat) (rc : Nat → Nat) (t : Nat), Rel σ μ n rc ∧ σ 3 1 = nI t ∧ t ≤ 100000 ∧ fb_ct (br σ) n ≤ 3
theorem StR_V {σ σ' : pR} {μ μ' : Nat → Int32} (hV : VEq σ 2 σ' 2) (hμ : ∀ s, s < 263 → μ' s = μ s) (h : StR σ μ) : StR σ' μ' := by
  obtain ⟨n, rc, t, h1, h2, h3, h4⟩ := h
  refine ⟨n, rc, t, Rel_V hV hμ h1, by rw [← h2]; exact hV.1 1 (by decide), h3, ?_⟩
  rw [fb_ct_cong (q := br σ) (fun i hi => by unfold br; rw [show σ' 8 i = σ 8 i from hV.2.1 6 (by decide) (by decide) i (by have := h1.b.1; omega)])]
  exact h4
theorem brc_e {σ σ' : pR} {n : Nat} (h : σ' 8 = σ 8) (hB : fb_ct (br σ) n ≤ 3) : fb_ct (br σ') n ≤ 3 := by
  rw [show br σ' = br σ from by funext i; unfold br; rw [h]]
  exact hB
theorem brc_n {σ σ' : pR} {n : Nat} (hz : σ 8 n = 0) (h : σ' 8 = σ 8) (hB : fb_ct (br σ) n ≤ 3) : fb_ct (br σ') (n + 1) ≤ 3 := by
  rw [show br σ' = br σ from by funext i; unfold br; rw [h], ct_f (br_f1 (by rw [hz]; decide))]
  exact hB
theorem VEq_vw {ρ ρ' : pR} {b a : Nat} (hb : 2 ≤ b) (ha : 2 ≤ a) (h : VEq ρ b ρ' a) : VEq (vw ρ b) 2 (vw ρ' a) 2 := by
  obtain ⟨v1, v2, v3, v4, v5⟩ := h
  have e : ∀ (r : pR) (c f : Nat), vw r c (2 + f) = r (c + f) := fun r c f => by
    unfold vw
    rw [show c + (2 + f) - 2 = c + f by omega]
  refine ⟨fun s hs => ?_, fun f f1 f2 j hj => ?_, ?_, fun j hj => ?_, fun f f1 f2 j hj => ?_⟩
  · rw [e, e]; exact v1 s hs
  · rw [e, e]; exact v2 f f1 f2 j hj
  · rw [e, e]; exact v3
  · rw [e, e]; exact v4 j hj
  · rw [e, e]; exact v5 f f1 f2 j hj
theorem vw_2 (ρ : pR) : vw ρ 2 = ρ := by
  funext k
  unfold vw
  rw [show 2 + k - 2 = k by omega]
def HI (ρ : pR) (rf : pF) (h : Nat → Nat) (p : Nat) : Prop := HOK rf h ∧ p ≤ 4 ∧ ρ 1 2 = nI p ∧ ρ 146 2 = nI p ∧ ∀ i, i < p → StR (vw ρ (h i)) (sg (ρ 148) i)
def SI (ρ : pR) : Prop := (∀ i, 2 ≤ i → bt (ρ 1 4) i = false) ∧ ∀ j, j < 2 → ρ 150 j = bI (bt (ρ 1 4) j) ∧ (bt (ρ 1 4) j = true → StR (vw ρ (104 + 20 * j)) (sg (ρ 149) j))
def TI (ρ : pR) : Prop := ∃ (T : Nat → Nat) (l : Nat), TX ρ T l ∧ (∀ j, j < l → 32 ≤ T j ∧ T j ≤ 126) ∧ ρ 146 6 = nI l ∧ ∀ j, j < l → ρ 151 j = nI (T j)
def FI (s : Nat → Int32) (ρ : pR) (rf : pF) : Prop := RFok rf ∧ ρ 0 = s ∧ StR ρ (ρ 147) ∧ (∃ h p, HI ρ rf h p) ∧ SI ρ ∧ TI ρ
theorem SI_f {ρ ρ' : pR} (h1 : ρ' 1 4 = ρ 1 4) (h2 : ρ' 150 = ρ 150) (h3 : ρ' 149 = ρ 149) (h4 : ∀ k, 104 ≤ k → k < 144 → ρ' k = ρ k) (h : SI ρ) : SI ρ' := by
  unfold SI
  rw [h1, h2, h3]
  refine ⟨h.1, fun j hj => ⟨(h.2 j hj).1, fun hb => StR_V (VEq_k fun k k1 k2 => ?_) (fun _ _ => rfl) ((h.2 j hj).2 hb)⟩⟩
  unfold vw
  exact h4 _ (by omega) (by omega)
theorem TI_f {ρ ρ' : pR} (h1 : ρ' 144 = ρ 144) (h2 : ρ' 145 = ρ 145) (h3 : ρ' 146 6 = ρ 146 6) (h4 : ρ' 151 = ρ 151) (h : TI ρ) : TI ρ' := by
  obtain ⟨T, l, t1, t2, t3, t4⟩ := h
  refine ⟨T, l, ?_, t2, by rw [h3]; exact t3, by rw [h4]; exact t4⟩
  unfold TX
  rw [h1, h2]
  exact t1
theorem HI_f {ρ ρ' : pR} {rf : pF} {h : Nat → Nat} {p : Nat} (h1 : ρ' 1 2 = ρ 1 2) (h2 : ρ' 146 2 = ρ 146 2) (h3 : ρ' 148 = ρ 148) (h4 : ∀ k, 22 ≤ k → k < 104 → ρ' k = ρ k) (hh : HI ρ rf h p) : HI ρ' rf h p := by
  obtain ⟨q1, q2, q3, q4, q5⟩ := hh
  refine ⟨q1, q2, by rw [h1]; exact q3, by rw [h2]; exact q4, fun i hi => StR_V (VEq_k fun k k1 k2 => ?_) (fun s _ => by unfold sg; rw [h3]) (q5 i hi)⟩
  unfold vw
  rcases (q1.1 i (by omega)).2 with e | e | e | e <;> rw [e] <;> exact h4 _ (by omega) (by omega)
/-- the present state changes, nothing else -/
theorem FI_now {s : Nat → Int32} {ρ ρ' : pR} {rf : pF} (h : FI s ρ rf) (hk : ∀ k, ¬ (3 ≤ k ∧ k ≤ 21) → k ≠ 147 → ρ' k = ρ k) (hS : StR ρ' (ρ' 147)) : FI s ρ' rf := by
  obtain ⟨f1, f2, f3, ⟨hh, p, f4⟩, f5, f6⟩ := h
  exact ⟨f1, by rw [hk 0 (by decide) (by decide)]; exact f2, hS, ⟨hh, p, HI_f (by rw [hk 1 (by decide) (by decide)]) (by rw [hk 146 (by decide) (by decide)]) (hk 148 (by decide) (by decide)) (fun k k1 k2 => hk k (by omega) (by omega)) f4⟩, SI_f (by rw [hk 1 (by decide) (by decide)]) (hk 150 (by decide) (by decide)) (hk 149 (by decide) (by decide)) (fun k k1 k2 => hk k (by omega) (by omega)) f5, TI_f (hk 144 (by decide) (by decide)) (hk 145 (by decide) (by decide)) (by rw [hk 146 (by decide) (by decide)]) (hk 151 (by decide) (by decide)) f6⟩
/-- the model's records -/
theorem rc_lt {ρ : pR} {p : Nat} (hp : p < 4) : rcM ρ p = u2 (u1 ρ 148 (cpy (ρ 148) p (ρ 147) 263)) 146 2 (nI (p + 1)) := if_pos hp
theorem rc_ge {ρ : pR} {p : Nat} (hp : ¬ p < 4) : rcM ρ p = u2 (u1 ρ 148 (cpy (shf (ρ 148) 789) 3 (ρ 147) 263)) 146 2 (nI 4) := if_neg hp
theorem sg_cpy (g μ : Nat → Int32) (p : Nat) : ∀ s, s < 263 → sg (cpy g p μ 263) p s = μ s := fun s hs => by
  unfold sg cpy
  rw [if_pos (by omega), show 263 * p + s - 263 * p = s by omega]
theorem sg_cpy2 (g μ : Nat → Int32) {p i : Nat} (h : i < p) : ∀ s, s < 263 → sg (cpy g p μ 263) i s = sg g i s := fun s hs => by
  unfold sg cpy
  rw [if_neg (by omega)]
theorem sg_shf (g : Nat → Int32) {i : Nat} (h : i < 3) : ∀ s, s < 263 → sg (shf g 789) i s = sg g (i + 1) s := fun s hs => by
  unfold sg shf
  rw [if_pos (by omega), show 263 * i + s + 263 = 263 * (i + 1) + s by omega]
section
variable {sl : Nat} {s : Nat → Int32} {ρ : pR} {rf : pF}
theorem FI_rem (hF : FI s ρ rf) : ∃ (ρa : pR) (rfa : pF) (p : Nat), PC 89 [.ref 1] (HP sl ρ rf) none (HP sl ρa rfa) ∧ RFok rfa ∧ (∀ k, k ≠ 1 → ¬ (24 ≤ k ∧ k ≤ 102) → ρa k = ρ k) ∧ (∀ j, j ≠ 2 → ρa 1 j = ρ 1 j) ∧
    ∀ ρ1, (∀ k, ¬ (3 ≤ k ∧ k ≤ 21) → ρ1 k = ρa k) → PC 105 [.ref 146] (HP sl ρ1 rfa) none (HP sl (rcM ρ1 p) rfa) ∧ ∀ ρ2, (∀ k, k ≠ 147 → ρ2 k = rcM ρ1 p k) → StR ρ2 (ρ2 147) → FI s ρ2 rfa := by
  obtain ⟨f1, f2, f3, ⟨h, p, g1, g2, g3, g4, g5⟩, f5, f6⟩ := hF
  have hm := m_remember (sl := sl) f1 g1 g3 g2
  have hr : ∀ i, i < 4 → h i = 23 ∨ h i = 43 ∨ h i = 63 ∨ h i = 83 := fun i hi => (g1.1 i hi).2
  by_cases h4 : p < 4
  · rw [if_pos h4] at hm
    have hka : ∀ k, k ≠ 1 → ¬ (h p < k ∧ k < h p + 20) → u2 (cpS (h p) 2 ρ) 1 2 (nI (p + 1)) k = ρ k := fun k k1 k2 => by rw [u2_ne k1, cpS_out (by omega)]
    have hk1 : ∀ j, j ≠ 2 → u2 (cpS (h p) 2 ρ) 1 2 (nI (p + 1)) 1 j = ρ 1 j := fun j hj => by
      rw [u2_at, up_ne hj, cpS_out (by have := hr p h4; omega)]
    refine ⟨_, _, p, hm, f1, fun k k1 k2 => hka k k1 (by have := hr p h4; omega), hk1, fun ρ1 h1 => ?_⟩
    have e146 : ρ1 146 = ρ 146 := (h1 146 (by decide)).trans (hka 146 (by decide) (by have := hr p h4; omega))
    have e147 : ρ1 147 = ρ 147 := (h1 147 (by decide)).trans (hka 147 (by decide) (by have := hr p h4; omega))
    have e148 : ρ1 148 = ρ 148 := (h1 148 (by decide)).trans (hka 148 (by decide) (by have := hr p h4; omega))
    refine ⟨x_records f1 (by rw [e146]; exact g4) g2, fun ρ2 h2 hS => ?_⟩
    rw [rc_lt h4] at h2
    have hk : ∀ k, ¬ (3 ≤ k ∧ k ≤ 21) → k ≠ 1 → k ≠ 146 → k ≠ 147 → k ≠ 148 → ¬ (h p < k ∧ k < h p + 20) → ρ2 k = ρ k := fun k a b c d e f => by
      rw [h2 k d, u2_ne c, u1_ne e, h1 k a, hka k b f]
    have e1 : ρ2 1 = u2 (cpS (h p) 2 ρ) 1 2 (nI (p + 1)) 1 := by rw [h2 1 (by decide), u2_ne (by decide), u1_ne (by decide), h1 1 (by decide)]
    have e2 : ∀ j, j ≠ 2 → ρ2 146 j = ρ 146 j := fun j hj => by rw [h2 146 (by decide), u2_at, up_ne hj, u1_ne (by decide), e146]
    have e3 : ρ2 148 = cpy (ρ 148) p (ρ 147) 263 := by rw [h2 148 (by decide), u2_ne (by decide), u1_at, e148, e147]
    have hh := hr p h4
    refine ⟨f1, by rw [hk 0 (by decide) (by decide) (by decide) (by decide) (by decide) (by omega)]; exact f2, hS, ⟨h, p + 1, g1, by omega, by rw [e1, u2_at, up_eq], by rw [h2 146 (by decide), u2_at, up_eq], fun i hi => ?_⟩, SI_f (by rw [e1]; exact hk1 4 (by decide)) (hk 150 (by decide) (by decide) (by decide) (by decide) (by decide) (by omega)) (hk 149 (by decide) (by decide) (by decide) (by decide) (by decide) (by omega)) (fun k k1 k2 => hk k (by omega) (by omega) (by omega) (by omega) (by omega) (by omega)) f5, TI_f (hk 144 (by decide) (by decide) (by decide) (by decide) (by decide) (by omega)) (hk 145 (by decide) (by decide) (by decide) (by decide) (by decide) (by omega)) (e2 6 (by decide)) (hk 151 (by decide) (by decide) (by decide) (by decide) (by decide) (by omega)) f6⟩
    by_cases e : i = p
    · subst e
      rw [e3]
      have hv := cpS_V (r := ρ) (a := h i) (b := 2) (by omega)
      have hv2 : VEq ρ 2 ρ2 (h i) := hv.trans (VEq.of fun k k1 k2 => by
        rw [h2 k (by omega), u2_ne (by omega), u1_ne (by omega), h1 k (by omega), u2_ne (by omega)])
      have := VEq_vw (by decide) (by omega) hv2
      rw [vw_2] at this
      exact StR_V this (sg_cpy _ _ _) f3
    · have hd := g1.2 i p (by omega) h4 e
      have hri := hr i (by omega)
      rw [e3]
      exact StR_V (VEq_vw (by omega) (by omega) (VEq.of fun k k1 k2 => hk k (by omega) (by omega) (by omega) (by omega) (by omega) (by omega))) (sg_cpy2 _ _ (by omega)) (g5 i (by omega))
  · have hp : p = 4 := by omega
    subst hp
    rw [if_neg h4] at hm
    have h0 := hr 0 (by decide)
    have hka : ∀ k, k ≠ 1 → ¬ (h 0 < k ∧ k < h 0 + 20) → u2 (cpS (h 0) 2 (u2 ρ 1 2 (nI 3))) 1 2 (nI 4) k = ρ k := fun k k1 k2 => by rw [u2_ne k1, cpS_out (by omega), u2_ne k1]
    have hk1 : ∀ j, j ≠ 2 → u2 (cpS (h 0) 2 (u2 ρ 1 2 (nI 3))) 1 2 (nI 4) 1 j = ρ 1 j := fun j hj => by
      rw [u2_at, up_ne hj, cpS_out (by omega), u2_at, up_ne hj]
    refine ⟨_, _, 4, hm, rot_RF f1, fun k k1 k2 => hka k k1 (by omega), hk1, fun ρ1 h1 => ?_⟩
    have e146 : ρ1 146 = ρ 146 := (h1 146 (by decide)).trans (hka 146 (by decide) (by omega))
    have e147 : ρ1 147 = ρ 147 := (h1 147 (by decide)).trans (hka 147 (by decide) (by omega))
    have e148 : ρ1 148 = ρ 148 := (h1 148 (by decide)).trans (hka 148 (by decide) (by omega))
    refine ⟨x_records (rot_RF f1) (by rw [e146]; exact g4) g2, fun ρ2 h2 hS => ?_⟩
    rw [rc_ge h4] at h2
    have hk : ∀ k, ¬ (3 ≤ k ∧ k ≤ 21) → k ≠ 1 → k ≠ 146 → k ≠ 147 → k ≠ 148 → ¬ (h 0 < k ∧ k < h 0 + 20) → ρ2 k = ρ k := fun k a b c d e f => by
      rw [h2 k d, u2_ne c, u1_ne e, h1 k a, hka k b f]
    have e1 : ρ2 1 = u2 (cpS (h 0) 2 (u2 ρ 1 2 (nI 3))) 1 2 (nI 4) 1 := by rw [h2 1 (by decide), u2_ne (by decide), u1_ne (by decide), h1 1 (by decide)]
    have e2 : ∀ j, j ≠ 2 → ρ2 146 j = ρ 146 j := fun j hj => by rw [h2 146 (by decide), u2_at, up_ne hj, u1_ne (by decide), e146]
    have e3 : ρ2 148 = cpy (shf (ρ 148) 789) 3 (ρ 147) 263 := by rw [h2 148 (by decide), u2_ne (by decide), u1_at, e148, e147]
    refine ⟨rot_RF f1, by rw [hk 0 (by decide) (by decide) (by decide) (by decide) (by decide) (by omega)]; exact f2, hS, ⟨rotH h, 4, rot_H g1, by omega, by rw [e1, u2_at, up_eq], by rw [h2 146 (by decide), u2_at, up_eq], fun i hi => ?_⟩, SI_f (by rw [e1]; exact hk1 4 (by decide)) (hk 150 (by decide) (by decide) (by decide) (by decide) (by decide) (by omega)) (hk 149 (by decide) (by decide) (by decide) (by decide) (by decide) (by omega)) (fun k k1 k2 => hk k (by omega) (by omega) (by omega) (by omega) (by omega) (by omega)) f5, TI_f (hk 144 (by decide) (by decide) (by decide) (by decide) (by decide) (by omega)) (hk 145 (by decide) (by decide) (by decide) (by decide) (by decide) (by omega)) (e2 6 (by decide)) (hk 151 (by decide) (by decide) (by decide) (by decide) (by decide) (by omega)) f6⟩
    rw [e3]
    by_cases e : i = 3
    · subst e
      rw [show rotH h 3 = h 0 from rfl]
      have hv := cpS_V (r := u2 ρ 1 2 (nI 3)) (a := h 0) (b := 2) (by omega)
      have hv2 : VEq (u2 ρ 1 2 (nI 3)) 2 ρ2 (h 0) := hv.trans (VEq.of fun k k1 k2 => by
        rw [h2 k (by omega), u2_ne (by omega), u1_ne (by omega), h1 k (by omega), u2_ne (by omega)])
      have hv3 : VEq ρ 2 ρ2 (h 0) := (VEq.of (ρ := ρ) (ρ' := u2 ρ 1 2 (nI 3)) (a := 2) fun k k1 k2 => u2_ne (by omega)).trans hv2
      have := VEq_vw (by decide) (by omega) hv3
      rw [vw_2] at this
      exact StR_V this (sg_cpy _ _ _) f3
    · rw [show rotH h i = h (i + 1) from if_neg e]
      have hd := g1.2 (i + 1) 0 (by omega) (by decide) (by omega)
      have hri := hr (i + 1) (by omega)
      exact StR_V (VEq_vw (by omega) (by omega) (VEq.of fun k k1 k2 => hk k (by omega) (by omega) (by omega) (by omega) (by omega) (by omega))) (fun s hs => (sg_cpy2 _ _ (by omega) s hs).trans (sg_shf _ (by omega) s hs)) (g5 (i + 1) (by omega))
end
