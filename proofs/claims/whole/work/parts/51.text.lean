/-! the model reads its text -/
/-- what the parser may change -/
def Md (ρ ρ' : pR) : Prop := (∀ k, k ≠ 146 → k ≠ 152 → ρ' k = ρ k) ∧ ∀ j, j < 7 → ρ' 146 j = ρ 146 j
theorem Md.rf (ρ : pR) : Md ρ ρ := ⟨fun _ _ _ => rfl, fun _ _ => rfl⟩
theorem Md.tr {ρ ρ' ρ'' : pR} (h : Md ρ ρ') (h2 : Md ρ' ρ'') : Md ρ ρ'' := ⟨fun k a b => (h2.1 k a b).trans (h.1 k a b), fun j hj => (h2.2 j hj).trans (h.2 j hj)⟩
theorem Md.w {ρ ρ' : pR} (h : Md ρ ρ') {j : Nat} (hj : 7 ≤ j) (v : Int32) : Md ρ (u2 ρ' 146 j v) := ⟨fun k a b => by rw [u2_ne a]; exact h.1 k a b, fun i hi => by rw [u2_at, up_ne (by omega)]; exact h.2 i hi⟩
theorem Md.y {ρ ρ' : pR} (h : Md ρ ρ') (j : Nat) (v : Int32) : Md ρ (u2 ρ' 152 j v) := ⟨fun k a b => by rw [u2_ne b]; exact h.1 k a b, fun i hi => by rw [u2_ne (by decide)]; exact h.2 i hi⟩
def TM (ρ : pR) (T : Nat → Nat) (l : Nat) : Prop := ρ 146 6 = nI l ∧ l ≤ 80 ∧ ∀ j, j < l → ρ 151 j = nI (T j) ∧ T j < 128
theorem TM.md {ρ ρ' : pR} {T : Nat → Nat} {l : Nat} (h : TM ρ T l) (hm : Md ρ ρ') : TM ρ' T l := ⟨(hm.2 6 (by decide)).trans h.1, h.2.1, fun j hj => by rw [hm.1 151 (by decide) (by decide)]; exact h.2.2 j hj⟩
theorem Md.n {ρ ρ' : pR} (hm : Md ρ ρ') {n : Nat} (h : ρ 147 1 = nI n) : ρ' 147 1 = nI n := by rw [hm.1 147 (by decide) (by decide)]; exact h
def atT (T : Nat → Nat) (l p lo hi : Nat) : Bool := decide (p < l) && (decide (lo ≤ T p) && decide (T p ≤ hi))
theorem atT_t {T : Nat → Nat} {l p lo hi : Nat} (h : atT T l p lo hi = true) : p < l ∧ lo ≤ T p ∧ T p ≤ hi := by
  unfold atT at h
  simp only [Bool.and_eq_true, decide_eq_true_eq] at h
  exact h
theorem atT_f {T : Nat → Nat} {l p lo hi : Nat} (h : atT T l p lo hi = false) : ¬ (p < l ∧ lo ≤ T p ∧ T p ≤ hi) := fun q => by
  unfold atT at h
  rw [decide_eq_true q.1, decide_eq_true q.2.1, decide_eq_true q.2.2] at h
  exact absurd h (by decide)
theorem atT_0 {T : Nat → Nat} {l p lo hi : Nat} (h : l ≤ p) : atT T l p lo hi = false := by
  unfold atT
  rw [decide_eq_false (by omega)]
  rfl
theorem rg_N {a lo hi : Nat} (ha : a < 2 ^ 31) (hlo : lo < 2 ^ 31) (hhi : hi < 2 ^ 31) : rgI (nI a) (nI lo) (nI hi) = (decide (lo ≤ a) && decide (a ≤ hi)) := by
  unfold rgI
  rw [decide_eq_decide.mpr (nI_leI hlo ha), decide_eq_decide.mpr (nI_leI ha hhi)]
theorem inR_d {n v : Nat} (hn : n < 2 ^ 31) (hv : v < 2 ^ 31) : inR n (nI v) = decide (v < n) := by
  unfold inR
  rw [decide_eq_true (nI_pos' hv), Bool.true_and, decide_eq_decide.mpr (nI_ltI hv hn)]
theorem atT_1 {T : Nat → Nat} {l p lo hi : Nat} {b : Bool} (h : p < l) (hb : T p < 128) (hlo : lo < 128) (hhi : hi < 128) (hr : rgI (nI (T p)) (nI lo) (nI hi) = b) : atT T l p lo hi = b := by
  rw [rg_N (by omega) (by omega) (by omega)] at hr
  unfold atT
  rw [decide_eq_true h, hr]
  rfl
theorem up7 (ρ : pR) (v : Int32) : u2 ρ 146 7 v 146 7 = v := by rw [u2_at, up_eq]
theorem up7o (ρ : pR) {j : Nat} (hj : 7 ≠ j) (v : Int32) : u2 ρ 146 j v 146 7 = ρ 146 7 := by rw [u2_at, up_ne hj]
theorem PC_o {Φ : Option Value → pR → Prop} {k : Nat} {args : List Value} {sl : Nat} {rf : pF} {cd : List pI} {L0 : pL} {h : pH} (hcd : p_cd k = cd) (hL : p_ent k args = L0) (hw : PW cd 0 L0 [] h (fun zz => ∃ r ρ', Φ r ρ' ∧ zz = (r, HP sl ρ' rf))) : ∃ r ρ', Φ r ρ' ∧ PC k args h r (HP sl ρ' rf) := by
  obtain ⟨n, r, h1, r2, ρ', h2, h3⟩ := hw
  subst h3
  subst hL
  subst hcd
  exact ⟨r2, ρ', h2, n, h1⟩
section
variable {sl : Nat} {ρ ρ0 : pR} {rf : pF} {T : Nat → Nat} {l n a : Nat}
theorem x_isAt (hrf : RFok rf) (hT : TM ρ T l) {p : Nat} (hp : ρ 146 7 = nI p) (hpl : p ≤ l) {lo hi : Nat} (hlo : lo < 128) (hhi : hi < 128) : PC 161 [.ref 146, .int (nI lo), .int (nI hi)] (HP sl ρ rf) (some (.int (bI (atT T l p lo hi)))) (HP sl ρ rf) := by
  have hl80 := hT.2.1
  refine PC_of (cd := p_c_X5_isAt) (L0 := [some (.ref 146), some (.int (nI lo)), some (.int (nI hi))]) rfl rfl ?_
  refine R_la0 rfl ?_
  refine R_getI rfl sh_146 rfl hp ?_
  refine R_la0 rfl ?_
  refine R_getI rfl sh_146 rfl hT.1 ?_
  refine N2_ge rfl (by omega) (by omega) (fun h4 => ?_) (fun h4 => ?_)
  · refine R_n 0 rfl rfl ?_
    exact R_zret0 rfl (by first | exact lf_0 (atT_0 h4) | exact lf_1 (atT_1 h4 (hT.2.2 p h4).2 hlo hhi h13) | exact lf_0 (atT_1 h4 (hT.2.2 p h4).2 hlo hhi h13))
  · refine R_la0 rfl ?_
    refine R_getR rfl sh_146 rfl (rf_146_5 hrf) ?_
    refine R_la0 rfl ?_
    refine R_getI rfl sh_146 rfl hp ?_
    refine R_ald rfl sh_151 (by first | decide | omega) (by omega) (hT.2.2 p h4).1 ?_
    refine R_ld1 rfl ?_
    refine R_ld2 rfl ?_
    refine R_c0 rfl (x_in _ _ _) rfl rfl rfl ?_
    refine BB_eq rfl (fun h13 => ?_) (fun h13 => ?_)
    · refine R_n 0 rfl rfl ?_
      exact R_zret0 rfl (by first | exact lf_0 (atT_0 h4) | exact lf_1 (atT_1 h4 (hT.2.2 p h4).2 hlo hhi h13) | exact lf_0 (atT_1 h4 (hT.2.2 p h4).2 hlo hhi h13))
    · refine R_n 1 rfl rfl ?_
      refine R_goto rfl ?_
      exact R_zret1 rfl (by first | exact lf_0 (atT_0 h4) | exact lf_1 (atT_1 h4 (hT.2.2 p h4).2 hlo hhi h13) | exact lf_0 (atT_1 h4 (hT.2.2 p h4).2 hlo hhi h13))

theorem x_takes (hrf : RFok rf) (hT : TM ρ T l) {p : Nat} (hp : ρ 146 7 = nI p) (hpl : p ≤ l) {c : Nat} (hc : c < 128) : PC 162 [.ref 146, .int (nI c)] (HP sl ρ rf) (some (.int (bI (atT T l p c c)))) (HP sl (u2 ρ 146 7 (nI (if atT T l p c c = true then p + 1 else p + 0))) rf) := by
  have hl80 := hT.2.1
  refine PC_of (cd := p_c_X5_takes) (L0 := [some (.ref 146), some (.int (nI c)), none]) rfl rfl ?_
  refine R_la0 rfl ?_
  refine R_ld1 rfl ?_
  refine R_ld1 rfl ?_
  refine R_c1 rfl (x_isAt hrf hT hp hpl hc hc) rfl rfl rfl sh_146 rfl rfl ?_
  refine R_st2 rfl ?_
  refine R_la0 rfl ?_
  refine R_dupR rfl ?_
  refine R_getI rfl sh_146 rfl hp ?_
  refine R_ld2 rfl ?_
  refine BB_eq rfl (fun h9 => ?_) (fun h9 => ?_)
  · refine R_n 0 rfl rfl ?_
    refine R_addN rfl ?_
    refine R_putI rfl sh_146 rfl ?_
    refine R_ld2 rfl ?_
    exact R_zret rfl (by first | exact congrArg (fun q => (some (Value.int (bI (atT T l p c c))), HP sl (u2 ρ 146 7 (nI q)) rf)) (if_pos h9).symm | exact congrArg (fun q => (some (Value.int (bI (atT T l p c c))), HP sl (u2 ρ 146 7 (nI q)) rf)) (if_neg (by rw [h9]; decide)).symm)
  · refine R_n 1 rfl rfl ?_
    refine R_goto rfl ?_
    refine R_addN rfl ?_
    refine R_putI rfl sh_146 rfl ?_
    refine R_ld2 rfl ?_
    exact R_zret rfl (by first | exact congrArg (fun q => (some (Value.int (bI (atT T l p c c))), HP sl (u2 ρ 146 7 (nI q)) rf)) (if_pos h9).symm | exact congrArg (fun q => (some (Value.int (bI (atT T l p c c))), HP sl (u2 ρ 146 7 (nI q)) rf)) (if_neg (by rw [h9]; decide)).symm)

/-- an input has been read, or none -/
def TI_ (ρ : pR) (p t v n : Nat) (g : Bool) (r : Option Value) (ρ' : pR) : Prop := r = some (.int (bI (decide (0 < t)))) ∧ Md ρ ρ' ∧ ρ' 146 8 = ρ 146 8 ∧ ρ' 146 12 = ρ 146 12 ∧ ρ' 152 = ρ 152 ∧ ρ' 146 7 = nI (p + t) ∧ (0 < t → ρ' 146 10 = bI (!(g && decide (v < n))) ∧ (v < n → ρ' 146 9 = wI (ρ 146 9) v true))

theorem x_tI0 (hrf : RFok rf) (hT : TM ρ T l) {p : Nat} (hp : ρ 146 7 = nI p) (hpl : p ≤ l) (hn : ρ 147 1 = nI n) (h16 : n ≤ 16) {g : Bool} (hg : ρ 146 10 = bI (!g)) (a0 : atT T l p 48 57 = false) : ∃ r ρ', TI_ ρ p 0 0 n g r ρ' ∧ PC 163 [.ref 146] (HP sl ρ rf) r (HP sl ρ' rf) := by
  have hl80 := hT.2.1
  refine PC_o (cd := p_c_X5_takesInput) (L0 := [some (.ref 146), none, none]) rfl rfl ?_
  refine R_n 0 rfl rfl ?_
  refine R_st1 rfl ?_
  refine R_la0 rfl ?_
  refine R_getI rfl sh_146 rfl hp ?_
  refine R_st2 rfl ?_
  refine R_la0 rfl ?_
  refine R_getI rfl sh_146 rfl hp ?_
  refine R_ld2 rfl ?_
  refine R_n 2 rfl rfl ?_
  refine R_addN rfl ?_
  refine N2_geF rfl (by omega) (by omega) (by omega) ?_
  refine R_la0 rfl ?_
  refine R_n 48 rfl rfl ?_
  refine R_n 57 rfl rfl ?_
  refine R_c1 rfl (x_isAt hrf (hT.md (Md.rf ρ)) hp (by omega) (by decide) (by decide)) rfl rfl rfl sh_146 rfl rfl ?_
  refine BB_eqT rfl (a0) ?_
  refine R_la0 rfl ?_
  refine R_getI rfl sh_146 rfl hp ?_
  refine R_ld2 rfl ?_
  refine N2_leT rfl (by omega) (by omega) (by omega) ?_
  refine R_la0 rfl ?_
  refine R_n 1 rfl rfl ?_
  refine PW_top (show nI 1 = bI true from rfl) ?_
  refine R_putZ rfl sh_146 rfl ?_
  refine R_la0 rfl ?_
  refine R_getI rfl sh_146 rfl ((up7o ρ (by decide) _).trans hp) ?_
  refine R_ld2 rfl ?_
  refine N2_leT rfl (by omega) (by omega) (by omega) ?_
  refine R_n 0 rfl rfl ?_
  exact R_zret0 rfl (by
                refine ⟨_, _, ⟨rfl, (Md.rf ρ).w (by decide) _, by simp (disch := omega) only [u2_at, u2_ne, up_eq, up_ne], by simp (disch := omega) only [u2_at, u2_ne, up_eq, up_ne], by simp (disch := omega) only [u2_at, u2_ne, up_eq, up_ne], by simp (disch := omega) only [u2_at, u2_ne, up_eq, up_ne] <;> exact hp, fun q => ?_⟩, rfl⟩
                exact absurd q (by decide))

theorem x_tI1 (hrf : RFok rf) (hT : TM ρ T l) {p : Nat} (hp : ρ 146 7 = nI p) (hpl : p ≤ l) (hn : ρ 147 1 = nI n) (h16 : n ≤ 16) {g : Bool} (hg : ρ 146 10 = bI (!g)) (a0 : atT T l p 48 57 = true) (a1 : atT T l (p + 1) 48 57 = false) : ∃ r ρ', TI_ ρ p 1 (10 * 0 + T p - 48) n g r ρ' ∧ PC 163 [.ref 146] (HP sl ρ rf) r (HP sl ρ' rf) := by
  have hl80 := hT.2.1
  obtain ⟨b0, c0, d0⟩ := atT_t a0
  have e0 := (hT.2.2 _ b0).2
  refine PC_o (cd := p_c_X5_takesInput) (L0 := [some (.ref 146), none, none]) rfl rfl ?_
  refine R_n 0 rfl rfl ?_
  refine R_st1 rfl ?_
  refine R_la0 rfl ?_
  refine R_getI rfl sh_146 rfl hp ?_
  refine R_st2 rfl ?_
  refine R_la0 rfl ?_
  refine R_getI rfl sh_146 rfl hp ?_
  refine R_ld2 rfl ?_
  refine R_n 2 rfl rfl ?_
  refine R_addN rfl ?_
  refine N2_geF rfl (by omega) (by omega) (by omega) ?_
  refine R_la0 rfl ?_
  refine R_n 48 rfl rfl ?_
  refine R_n 57 rfl rfl ?_
  refine R_c1 rfl (x_isAt hrf (hT.md (Md.rf ρ)) hp (by omega) (by decide) (by decide)) rfl rfl rfl sh_146 rfl rfl ?_
  refine BB_eqF rfl (a0) ?_
  refine R_n 10 rfl rfl ?_
  refine R_ld1 rfl ?_
  refine R_mulN rfl ?_
  refine R_la0 rfl ?_
  refine R_getR rfl sh_146 rfl (rf_146_5 hrf) ?_
  refine R_la0 rfl ?_
  refine R_getI rfl sh_146 rfl hp ?_
  refine R_ald rfl sh_151 (by first | decide | omega) (by omega) ((hT.md (Md.rf ρ)).2.2 p (by omega)).1 ?_
  refine R_addN rfl ?_
  refine R_n 48 rfl rfl ?_
  refine R_subN rfl (by omega) ?_
  refine R_st1 rfl ?_
  refine R_la0 rfl ?_
  refine R_dupR rfl ?_
  refine R_getI rfl sh_146 rfl hp ?_
  refine R_n 1 rfl rfl ?_
  refine R_addN rfl ?_
  refine R_putI rfl sh_146 rfl ?_
  refine R_goto rfl ?_
  refine R_la0 rfl ?_
  refine R_getI rfl sh_146 rfl (up7 ρ (nI (p + 1))) ?_
  refine R_ld2 rfl ?_
  refine R_n 2 rfl rfl ?_
  refine R_addN rfl ?_
  refine N2_geF rfl (by omega) (by omega) (by omega) ?_
  refine R_la0 rfl ?_
  refine R_n 48 rfl rfl ?_
  refine R_n 57 rfl rfl ?_
  refine R_c1 rfl (x_isAt hrf (hT.md ((Md.rf ρ).w (by decide) _)) (up7 ρ (nI (p + 1))) (by omega) (by decide) (by decide)) rfl rfl rfl sh_146 rfl rfl ?_
  refine BB_eqT rfl (a1) ?_
  refine R_la0 rfl ?_
  refine R_getI rfl sh_146 rfl (up7 ρ (nI (p + 1))) ?_
  refine R_ld2 rfl ?_
  refine N2_leF rfl (by omega) (by omega) (by omega) ?_
  refine R_la0 rfl ?_
  refine R_ld1 rfl ?_
  refine R_c1 rfl (x_isInput hrf h16 (Md.n ((Md.rf ρ).w (by decide) _) hn) _) rfl rfl rfl sh_146 rfl rfl ?_
  refine BB_eq rfl (fun h42 => ?_) (fun h42 => ?_)
  · refine R_la0 rfl ?_
    refine R_n 1 rfl rfl ?_
    refine PW_top (show nI 1 = bI true from rfl) ?_
    refine R_putZ rfl sh_146 rfl ?_
    refine R_la0 rfl ?_
    refine R_getI rfl sh_146 rfl ((up7o (u2 ρ 146 7 (nI (p + 1))) (by decide) _).trans (up7 ρ (nI (p + 1)))) ?_
    refine R_ld2 rfl ?_
    refine N2_leF rfl (by omega) (by omega) (by omega) ?_
    refine R_n 1 rfl rfl ?_
    refine R_goto rfl ?_
    exact R_zret1 rfl (by
                refine ⟨_, _, ⟨rfl, ((Md.rf ρ).w (by decide) _).w (by decide) _, by simp (disch := omega) only [u2_at, u2_ne, up_eq, up_ne], by simp (disch := omega) only [u2_at, u2_ne, up_eq, up_ne], by simp (disch := omega) only [u2_at, u2_ne, up_eq, up_ne], by simp (disch := omega) only [u2_at, u2_ne, up_eq, up_ne], fun q => ?_⟩, rfl⟩
                rw [inR_d (n := n) (v := (10 * 0 + T p - 48)) (by omega) (by omega)] at h42
                have hw := of_decide_eq_false h42
                exact ⟨by simp (disch := omega) only [u2_at, u2_ne, up_eq, up_ne]; rw [decide_eq_false hw, Bool.and_false]; rfl, fun q2 => absurd q2 hw⟩)
  · refine R_la0 rfl ?_
    refine R_dupR rfl ?_
    refine R_getI rfl sh_146 rfl rfl ?_
    refine R_n 1 rfl rfl ?_
    refine R_ld1 rfl ?_
    refine R_shl rfl ?_
    refine R_or rfl ?_
    refine R_putI rfl sh_146 rfl ?_
    refine R_goto rfl ?_
    refine R_la0 rfl ?_
    refine R_getI rfl sh_146 rfl ((up7o (u2 ρ 146 7 (nI (p + 1))) (by decide) _).trans (up7 ρ (nI (p + 1)))) ?_
    refine R_ld2 rfl ?_
    refine N2_leF rfl (by omega) (by omega) (by omega) ?_
    refine R_n 1 rfl rfl ?_
    refine R_goto rfl ?_
    exact R_zret1 rfl (by
                refine ⟨_, _, ⟨rfl, ((Md.rf ρ).w (by decide) _).w (by decide) _, by simp (disch := omega) only [u2_at, u2_ne, up_eq, up_ne], by simp (disch := omega) only [u2_at, u2_ne, up_eq, up_ne], by simp (disch := omega) only [u2_at, u2_ne, up_eq, up_ne], by simp (disch := omega) only [u2_at, u2_ne, up_eq, up_ne], fun q => ?_⟩, rfl⟩
                rw [inR_d (n := n) (v := (10 * 0 + T p - 48)) (by omega) (by omega)] at h42
                have hw := of_decide_eq_true h42
                exact ⟨by simp (disch := omega) only [u2_at, u2_ne, up_eq, up_ne]; rw [hg, decide_eq_true hw, Bool.and_true], fun _ => by simp (disch := omega) only [u2_at, u2_ne, up_eq, up_ne]; rfl⟩)

theorem x_tI2 (hrf : RFok rf) (hT : TM ρ T l) {p : Nat} (hp : ρ 146 7 = nI p) (hpl : p ≤ l) (hn : ρ 147 1 = nI n) (h16 : n ≤ 16) {g : Bool} (hg : ρ 146 10 = bI (!g)) (a0 : atT T l p 48 57 = true) (a1 : atT T l (p + 1) 48 57 = true) : ∃ r ρ', TI_ ρ p 2 (10 * (10 * 0 + T p - 48) + T (p + 1) - 48) n g r ρ' ∧ PC 163 [.ref 146] (HP sl ρ rf) r (HP sl ρ' rf) := by
  have hl80 := hT.2.1
  obtain ⟨b0, c0, d0⟩ := atT_t a0
  have e0 := (hT.2.2 _ b0).2
  obtain ⟨b1, c1, d1⟩ := atT_t a1
  have e1 := (hT.2.2 _ b1).2
  refine PC_o (cd := p_c_X5_takesInput) (L0 := [some (.ref 146), none, none]) rfl rfl ?_
  refine R_n 0 rfl rfl ?_
  refine R_st1 rfl ?_
  refine R_la0 rfl ?_
  refine R_getI rfl sh_146 rfl hp ?_
  refine R_st2 rfl ?_
  refine R_la0 rfl ?_
  refine R_getI rfl sh_146 rfl hp ?_
  refine R_ld2 rfl ?_
  refine R_n 2 rfl rfl ?_
  refine R_addN rfl ?_
  refine N2_geF rfl (by omega) (by omega) (by omega) ?_
  refine R_la0 rfl ?_
  refine R_n 48 rfl rfl ?_
  refine R_n 57 rfl rfl ?_
  refine R_c1 rfl (x_isAt hrf (hT.md (Md.rf ρ)) hp (by omega) (by decide) (by decide)) rfl rfl rfl sh_146 rfl rfl ?_
  refine BB_eqF rfl (a0) ?_
  refine R_n 10 rfl rfl ?_
  refine R_ld1 rfl ?_
  refine R_mulN rfl ?_
  refine R_la0 rfl ?_
  refine R_getR rfl sh_146 rfl (rf_146_5 hrf) ?_
  refine R_la0 rfl ?_
  refine R_getI rfl sh_146 rfl hp ?_
  refine R_ald rfl sh_151 (by first | decide | omega) (by omega) ((hT.md (Md.rf ρ)).2.2 p (by omega)).1 ?_
  refine R_addN rfl ?_
  refine R_n 48 rfl rfl ?_
  refine R_subN rfl (by omega) ?_
  refine R_st1 rfl ?_
  refine R_la0 rfl ?_
  refine R_dupR rfl ?_
  refine R_getI rfl sh_146 rfl hp ?_
  refine R_n 1 rfl rfl ?_
  refine R_addN rfl ?_
  refine R_putI rfl sh_146 rfl ?_
  refine R_goto rfl ?_
  refine R_la0 rfl ?_
  refine R_getI rfl sh_146 rfl (up7 ρ (nI (p + 1))) ?_
  refine R_ld2 rfl ?_
  refine R_n 2 rfl rfl ?_
  refine R_addN rfl ?_
  refine N2_geF rfl (by omega) (by omega) (by omega) ?_
  refine R_la0 rfl ?_
  refine R_n 48 rfl rfl ?_
  refine R_n 57 rfl rfl ?_
  refine R_c1 rfl (x_isAt hrf (hT.md ((Md.rf ρ).w (by decide) _)) (up7 ρ (nI (p + 1))) (by omega) (by decide) (by decide)) rfl rfl rfl sh_146 rfl rfl ?_
  refine BB_eqF rfl (a1) ?_
  refine R_n 10 rfl rfl ?_
  refine R_ld1 rfl ?_
  refine R_mulN rfl ?_
  refine R_la0 rfl ?_
  refine R_getR rfl sh_146 rfl (rf_146_5 hrf) ?_
  refine R_la0 rfl ?_
  refine R_getI rfl sh_146 rfl (up7 ρ (nI (p + 1))) ?_
  refine R_ald rfl sh_151 (by first | decide | omega) (by omega) ((hT.md ((Md.rf ρ).w (by decide) _)).2.2 (p + 1) (by omega)).1 ?_
  refine R_addN rfl ?_
  refine R_n 48 rfl rfl ?_
  refine R_subN rfl (by omega) ?_
  refine R_st1 rfl ?_
  refine R_la0 rfl ?_
  refine R_dupR rfl ?_
  refine R_getI rfl sh_146 rfl (up7 ρ (nI (p + 1))) ?_
  refine R_n 1 rfl rfl ?_
  refine R_addN rfl ?_
  refine R_putI rfl sh_146 rfl ?_
  refine R_goto rfl ?_
  refine R_la0 rfl ?_
  refine R_getI rfl sh_146 rfl (up7 (u2 ρ 146 7 (nI (p + 1))) (nI (p + 1 + 1))) ?_
  refine R_ld2 rfl ?_
  refine R_n 2 rfl rfl ?_
  refine R_addN rfl ?_
  refine N2_geT rfl (by omega) (by omega) (by omega) ?_
  refine R_la0 rfl ?_
  refine R_getI rfl sh_146 rfl (up7 (u2 ρ 146 7 (nI (p + 1))) (nI (p + 1 + 1))) ?_
  refine R_ld2 rfl ?_
  refine N2_leF rfl (by omega) (by omega) (by omega) ?_
  refine R_la0 rfl ?_
  refine R_ld1 rfl ?_
  refine R_c1 rfl (x_isInput hrf h16 (Md.n (((Md.rf ρ).w (by decide) _).w (by decide) _) hn) _) rfl rfl rfl sh_146 rfl rfl ?_
  refine BB_eq rfl (fun h42 => ?_) (fun h42 => ?_)
  · refine R_la0 rfl ?_
    refine R_n 1 rfl rfl ?_
    refine PW_top (show nI 1 = bI true from rfl) ?_
    refine R_putZ rfl sh_146 rfl ?_
    refine R_la0 rfl ?_
    refine R_getI rfl sh_146 rfl ((up7o (u2 (u2 ρ 146 7 (nI (p + 1))) 146 7 (nI (p + 1 + 1))) (by decide) _).trans (up7 (u2 ρ 146 7 (nI (p + 1))) (nI (p + 1 + 1)))) ?_
    refine R_ld2 rfl ?_
    refine N2_leF rfl (by omega) (by omega) (by omega) ?_
    refine R_n 1 rfl rfl ?_
    refine R_goto rfl ?_
    exact R_zret1 rfl (by
                refine ⟨_, _, ⟨rfl, (((Md.rf ρ).w (by decide) _).w (by decide) _).w (by decide) _, by simp (disch := omega) only [u2_at, u2_ne, up_eq, up_ne], by simp (disch := omega) only [u2_at, u2_ne, up_eq, up_ne], by simp (disch := omega) only [u2_at, u2_ne, up_eq, up_ne], by simp (disch := omega) only [u2_at, u2_ne, up_eq, up_ne] <;> rfl, fun q => ?_⟩, rfl⟩
                rw [inR_d (n := n) (v := (10 * (10 * 0 + T p - 48) + T (p + 1) - 48)) (by omega) (by omega)] at h42
                have hw := of_decide_eq_false h42
                exact ⟨by simp (disch := omega) only [u2_at, u2_ne, up_eq, up_ne]; rw [decide_eq_false hw, Bool.and_false]; rfl, fun q2 => absurd q2 hw⟩)
  · refine R_la0 rfl ?_
    refine R_dupR rfl ?_
    refine R_getI rfl sh_146 rfl rfl ?_
    refine R_n 1 rfl rfl ?_
    refine R_ld1 rfl ?_
    refine R_shl rfl ?_
    refine R_or rfl ?_
    refine R_putI rfl sh_146 rfl ?_
    refine R_goto rfl ?_
    refine R_la0 rfl ?_
    refine R_getI rfl sh_146 rfl ((up7o (u2 (u2 ρ 146 7 (nI (p + 1))) 146 7 (nI (p + 1 + 1))) (by decide) _).trans (up7 (u2 ρ 146 7 (nI (p + 1))) (nI (p + 1 + 1)))) ?_
    refine R_ld2 rfl ?_
    refine N2_leF rfl (by omega) (by omega) (by omega) ?_
    refine R_n 1 rfl rfl ?_
    refine R_goto rfl ?_
    exact R_zret1 rfl (by
                refine ⟨_, _, ⟨rfl, (((Md.rf ρ).w (by decide) _).w (by decide) _).w (by decide) _, by simp (disch := omega) only [u2_at, u2_ne, up_eq, up_ne], by simp (disch := omega) only [u2_at, u2_ne, up_eq, up_ne], by simp (disch := omega) only [u2_at, u2_ne, up_eq, up_ne], by simp (disch := omega) only [u2_at, u2_ne, up_eq, up_ne] <;> rfl, fun q => ?_⟩, rfl⟩
                rw [inR_d (n := n) (v := (10 * (10 * 0 + T p - 48) + T (p + 1) - 48)) (by omega) (by omega)] at h42
                have hw := of_decide_eq_true h42
                exact ⟨by simp (disch := omega) only [u2_at, u2_ne, up_eq, up_ne]; rw [hg, decide_eq_true hw, Bool.and_true], fun _ => by simp (disch := omega) only [u2_at, u2_ne, up_eq, up_ne]; rfl⟩)

theorem e_tI (hrf : RFok rf) (hT : TM ρ T l) {p : Nat} (hp : ρ 146 7 = nI p) (hpl : p ≤ l) (hn : ρ 147 1 = nI n) (h16 : n ≤ 16) {g : Bool} (hg : ρ 146 10 = bI (!g)) : ∃ r ρ' t v, (t = 0 ∧ atT T l p 48 57 = false ∨ t = 1 ∧ atT T l p 48 57 = true ∧ atT T l (p + 1) 48 57 = false ∧ v = T p - 48 ∨ t = 2 ∧ atT T l p 48 57 = true ∧ atT T l (p + 1) 48 57 = true ∧ v = 10 * (T p - 48) + T (p + 1) - 48) ∧ TI_ ρ p t v n g r ρ' ∧ PC 163 [.ref 146] (HP sl ρ rf) r (HP sl ρ' rf) := by
  cases a0 : atT T l p 48 57 with
  | false =>
    obtain ⟨r, ρ', h1, h2⟩ := x_tI0 (sl := sl) hrf hT hp hpl hn h16 hg a0
    exact ⟨r, ρ', 0, _, Or.inl ⟨rfl, rfl⟩, h1, h2⟩
  | true =>
    cases a1 : atT T l (p + 1) 48 57 with
    | false =>
      obtain ⟨r, ρ', h1, h2⟩ := x_tI1 (sl := sl) hrf hT hp hpl hn h16 hg a0 a1
      exact ⟨r, ρ', 1, _, Or.inr (Or.inl ⟨rfl, rfl, rfl, by omega⟩), h1, h2⟩
    | true =>
      obtain ⟨r, ρ', h1, h2⟩ := x_tI2 (sl := sl) hrf hT hp hpl hn h16 hg a0 a1
      exact ⟨r, ρ', 2, _, Or.inr (Or.inr ⟨rfl, rfl, rfl, by omega⟩), h1, h2⟩
end
