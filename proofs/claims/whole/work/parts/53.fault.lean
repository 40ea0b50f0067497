/-! the model looks for the first row that is not possible -/
/-- rows for motion m that begin ahead of a -/
def ctR (T : Nat → Nat) (a m : Nat) : Nat := fb_ct (fun i => rp T m (i + 1)) (a - 1)
theorem ctR_le (T : Nat → Nat) (a m : Nat) : ctR T a m ≤ a := Nat.le_trans (fb_ct_le _ _) (Nat.sub_le _ _)
theorem row_char {T : Nat → Nat} {l a e : Nat} (h : isRowT T l a e = true) : ∀ j, a + 2 ≤ j → j < e → (48 ≤ T j ∧ T j ≤ 57) ∨ T j = 46 := by
  obtain ⟨q1, q2, q3, q4, d, q5, q6⟩ := isRowT_c h
  intro j j1 j2
  obtain ⟨d', hd⟩ := ds_le (show j - (a + 2) + 1 ≤ e - (a + 2) by omega) q5
  have := ds_char hd
  rw [show a + 2 + (j - (a + 2)) = j by omega] at this
  exact this
theorem row_59 {T : Nat → Nat} {l a e : Nat} (h : isRowT T l a e = true) : ∀ j, a ≤ j → j < e → ¬ T j = 59 := by
  obtain ⟨q1, q2, q3, q4, q5⟩ := isRowT_c h
  intro j j1 j2
  by_cases e1 : j = a
  · rw [e1]; omega
  · by_cases e2 : j = a + 1
    · rw [e2]; omega
    · have := row_char h j (by omega) j2
      omega
theorem fr_st {T : Nat → Nat} {a : Nat} (ha : fr T a = a) : ∀ k, (∀ j, a ≤ j → j < a + k → ¬ T j = 59) → fr T (a + k) = a
  | 0, _ => ha
  | k + 1, h => by
    rw [show a + (k + 1) = a + k + 1 from rfl, fr_f (h _ (by omega) (by omega))]
    exact fr_st ha k fun j j1 j2 => h j j1 (by omega)
theorem fr_to {T : Nat → Nat} {a e : Nat} (ha : fr T a = a) (hae : a ≤ e) (h : ∀ j, a ≤ j → j < e → ¬ T j = 59) : fr T e = a := by
  have := fr_st ha (e - a) (fun j j1 j2 => h j j1 (by omega))
  rwa [show a + (e - a) = e by omega] at this
theorem fr_fr (T : Nat → Nat) : ∀ j, fr T (fr T j) = fr T j
  | 0 => rfl
  | j + 1 => by
    by_cases e : T j = 59
    · rw [fr_t e, fr_t e]
    · rw [fr_f e, fr_fr T j]
theorem fr_59 (T : Nat → Nat) : ∀ j i, fr T j ≤ i → i < j → ¬ T i = 59
  | 0, i, _, h => absurd h (Nat.not_lt_zero _)
  | j + 1, i, h1, h2 => by
    by_cases e : T j = 59
    · rw [fr_t e] at h1
      omega
    · rw [fr_f e] at h1
      by_cases q : i = j
      · rw [q]; exact e
      · exact fr_59 T j i h1 (by omega)
theorem eor_sp {T : Nat → Nat} {l a : Nat} (ha : a ≤ l) : (∀ j, a ≤ j → j < eor T l a → ¬ T j = 59) ∧ (eor T l a < l → T (eor T l a) = 59) := by
  unfold eor
  split
  · rename_i i hi
    obtain ⟨h1, h2, h3⟩ := ff_spec hi
    refine ⟨fun j j1 j2 q => ?_, fun _ => of_decide_eq_true h2⟩
    have := of_decide_eq_false (h3 (j - a) (by omega))
    rw [show a + (j - a) = j by omega] at this
    exact this q
  · rename_i hi
    refine ⟨fun j j1 j2 q => ?_, fun q => absurd q (Nat.lt_irrefl _)⟩
    have := of_decide_eq_false (ff_none_inv hi (j - a) (by omega))
    rw [show a + (j - a) = j by omega] at this
    exact this q
theorem eor_eq {T : Nat → Nat} {l a e : Nat} (hae : a ≤ e) (hel : e < l) (he : T e = 59) (h : ∀ j, a ≤ j → j < e → ¬ T j = 59) : eor T l a = e := by
  have ha : a ≤ l := by omega
  obtain ⟨h1, h2⟩ := eor_b T ha
  obtain ⟨h3, h4⟩ := eor_sp (T := T) ha
  rcases Nat.lt_trichotomy (eor T l a) e with q | q | q
  · exact absurd (h4 (by omega)) (h _ h1 q)
  · exact q
  · exact absurd he (h3 e hae q)
theorem ctR_row {T : Nat → Nat} {l a e m : Nat} (h : isRowT T l a e = true) (he : T e = 59) (hm6 : m < 6) : ctR T (e + 1) m = if m = T a - 48 then ctR T a m + 1 else ctR T a m := by
  obtain ⟨q1, q2, q3, q4, q5⟩ := isRowT_c h
  unfold ctR
  rw [show e + 1 - 1 = e from rfl]
  have e1 : fb_ct (fun i => rp T m (i + 1)) a = fb_ct (fun i => rp T m (i + 1)) (a - 1) := by
    rcases Nat.eq_zero_or_pos a with q | q
    · rw [q]
    · have hq : rp T m (a - 1 + 1) = false := by
        unfold rp
        rw [show a - 1 + 1 = a by omega, decide_eq_false (show ¬ T a = 58 by omega)]
        rfl
      have := ct_f (f := fun i => rp T m (i + 1)) (j := a - 1) hq
      rwa [show a - 1 + 1 = a by omega] at this
  have e2 : ∀ k, a + 1 + k ≤ e → fb_ct (fun i => rp T m (i + 1)) (a + 1 + k) = fb_ct (fun i => rp T m (i + 1)) (a + 1) := by
    intro k
    induction k with
    | zero => intro _; rfl
    | succ k ih =>
      intro hk
      have hq : rp T m (a + 1 + k + 1) = false := by
        unfold rp
        have : ¬ T (a + 1 + k + 1) = 58 := by
          by_cases q : a + 1 + k + 1 = e
          · rw [q]; omega
          · have := row_char h (a + 1 + k + 1) (by omega) (by omega)
            omega
        rw [decide_eq_false this]
        rfl
      rw [show a + 1 + (k + 1) = a + 1 + k + 1 from rfl, ct_f (f := fun i => rp T m (i + 1)) (j := a + 1 + k) hq]
      exact ih (by omega)
  have e3 := e2 (e - (a + 1)) (by omega)
  rw [show a + 1 + (e - (a + 1)) = e by omega] at e3
  have hq : rp T m (a + 1) = decide (m = T a - 48) := by
    unfold rp
    rw [decide_eq_true q4, Bool.true_and, show a + 1 - 1 = a from rfl, pk_sub q3.1]
    by_cases hm : m = T a - 48
    · rw [decide_eq_true hm, decide_eq_true (by rw [hm])]
    · rw [decide_eq_false hm]
      exact decide_eq_false fun q => hm ((nI_eq (by omega) (by omega)).mp q).symm
  rw [e3, ← e1]
  by_cases hm : m = T a - 48
  · rw [if_pos hm]
    exact ct_t (f := fun i => rp T m (i + 1)) (j := a) (by rw [hq]; exact decide_eq_true hm)
  · rw [if_neg hm]
    exact ct_f (f := fun i => rp T m (i + 1)) (j := a) (by rw [hq]; exact decide_eq_false hm)
theorem pf_bad {T : Nat → Nat} {F : Nat → Nat → Nat} {l a : Nat} (ha : fr T a = a) (hal : a < l) (hno : ∀ j, j < a → fp T F j = false) (hF : ¬ F a (eor T l a) = 0) : pf T F l = some a := by
  obtain ⟨h1, h2⟩ := eor_b T (Nat.le_of_lt hal)
  obtain ⟨h3, h4⟩ := eor_sp (T := T) (Nat.le_of_lt hal)
  have h5 : ∀ j, j < eor T l a → fp T F j = false := fun j hj => by
    by_cases q : j < a
    · exact hno j q
    · unfold fp
      rw [decide_eq_false (h3 j (by omega) hj)]
      rfl
  have h6 : fr T (eor T l a) = a := fr_to ha h1 h3
  unfold pf
  by_cases q : eor T l a < l
  · rw [ff_some (p := fp T F) (by unfold fp; rw [decide_eq_true (h4 q), h6, decide_eq_true hF]; rfl) h5 q]
    exact congrArg some h6
  · have e : eor T l a = l := by omega
    rw [e] at h5 h6
    rw [ff_none h5, h6]
    exact if_pos hal
theorem pf_none {T : Nat → Nat} {F : Nat → Nat → Nat} {l : Nat} (ha : fr T l = l) (hno : ∀ j, j < l → fp T F j = false) : pf T F l = none := by
  unfold pf
  rw [ff_none hno]
  exact if_neg (by omega)
theorem pf_inv {T : Nat → Nat} {F : Nat → Nat → Nat} {l : Nat} (h : pf T F l = none) : fr T l = l ∧ ∀ j, j < l → T j = 59 → F (fr T j) j = 0 := by
  unfold pf at h
  cases e : ff (fp T F) l with
  | some j => rw [e] at h; cases h
  | none =>
    rw [e] at h
    have hl := fr_le T l
    refine ⟨?_, fun j hj hs => ?_⟩
    · by_cases q : fr T l < l
      · exact absurd h (by show ¬ (if fr T l < l then some (fr T l) else none) = none; rw [if_pos q]; intro q2; cases q2)
      · omega
    · have := ff_none_inv e j hj
      unfold fp at this
      rw [decide_eq_true hs, Bool.true_and] at this
      by_cases q : F (fr T j) j = 0
      · exact q
      · rw [decide_eq_true q] at this; cases this
theorem nd_t {x n : Nat} (h : (!decide (x < n)) = true) : n ≤ x := by
  by_cases q : x < n
  · rw [decide_eq_true q] at h; cases h
  · omega
theorem nd_f {x n : Nat} (h : (!decide (x < n)) = false) : x < n := by
  by_cases q : x < n
  · exact q
  · rw [decide_eq_false q] at h; cases h
def rs (T : Nat → Nat) (n : Nat) (run : Int32) (c : Nat → Nat) (a e : Nat) : Nat := if n ≤ hv T a (e - (a + 2)) then 2 else if bt run (T a - 48) = true then 3 else if 4 ≤ c (T a - 48) then 4 else 0
/-- behind reasonHere -/
def HR (T : Nat → Nat) (l n a : Nat) (run : Int32) (c : Nat → Nat) (ρ : pR) (r : Nat) (ρ' : pR) : Prop := Md ρ ρ' ∧ ρ' 146 12 = ρ 146 12 ∧ ((r = 1 ∧ ∀ e, T e = 59 → isRowT T l a e = false) ∨ ∃ e, a + 2 ≤ e ∧ e < l ∧ T e = 59 ∧ isRowT T l a e = true ∧ r = rs T n run c a e ∧ (r = 0 → ρ' 146 7 = nI (e + 1) ∧ ∀ m, m < 6 → ρ' 152 m = nI (if m = T a - 48 then c m + 1 else c m)))
theorem hr_fo {T : Nat → Nat} {l n a : Nat} {run : Int32} {rc c : Nat → Nat} {ρ ρ' : pR} {r : Nat} (hal : a < l) (h : HR T l n a run c ρ r ρ') (hc : ∀ m, m < 6 → c m = rc m + ctR T a m) : r = fo T l n run rc a (eor T l a) := by
  obtain ⟨h1, h2, h3 | h3⟩ := h
  · obtain ⟨h4, h5⟩ := h3
    have : isRowT T l a (eor T l a) = false := by
      obtain ⟨q1, q2⟩ := eor_sp (T := T) (Nat.le_of_lt hal)
      by_cases q : eor T l a < l
      · exact h5 _ (q2 q)
      · unfold isRowT
        rw [decide_eq_false q]
        rfl
    unfold fo
    rw [if_pos this]
    exact h4
  · obtain ⟨e, e1, e2, e3, e4, e5, e6⟩ := h3
    rw [eor_eq (by omega) e2 e3 (row_59 e4), e5]
    unfold fo rs
    obtain ⟨q1, q2, q3, q4, q5⟩ := isRowT_c e4
    rw [if_neg (show ¬ isRowT T l a e = false by rw [e4]; decide), hc _ (by omega)]
    rfl
section
variable {sl : Nat} {ρ ρ0 σ : pR} {rf : pF} {T : Nat → Nat} {l n a : Nat} {rc c : Nat → Nat}
theorem u2s (ρ : pR) (k j : Nat) (v : Int32) : u2 ρ k j v k j = v := by rw [u2_at, up_eq]
theorem e_here (hrf : RFok rf) (hR : Rel σ (ρ 147) n rc) (hT : TM ρ T l) (ha : ρ 146 7 = nI a) (hal : a ≤ l) (hc : ∀ m, m < 6 → ρ 152 m = nI (c m)) (hcb : ∀ m, m < 6 → c m ≤ 100) : ∃ (q : Nat) (ρ' : pR), HR T l n a (σ 12 0) c ρ q ρ' ∧ PC 165 [.ref 146] (HP sl ρ rf) (some (.int (nI q))) (HP sl ρ' rf) := by
  have h16 := hR.b.1
  obtain ⟨b, ρ1, ⟨hm, h12, h152, hff, htt⟩, hpc⟩ := e_form (sl := sl) hrf hT hR.b.2.2.1 h16 ha hal
  have hR1 : Rel σ (ρ1 147) n rc := by rw [hm.1 147 (by decide) (by decide)]; exact hR
  have key : ∃ r ρ', (∃ q, r = some (.int (nI q)) ∧ HR T l n a (σ 12 0) c ρ q ρ') ∧ PC 165 [.ref 146] (HP sl ρ rf) r (HP sl ρ' rf) := by
    refine PC_o (cd := p_c_X5_reasonHere) (L0 := [some (.ref 146)]) rfl rfl ?_
    cases b with
    | false =>
      refine R_la0 rfl ?_
      refine R_c1 rfl (hpc) rfl rfl rfl sh_146 rfl rfl ?_
      refine BB_neF rfl (rfl) ?_
      refine R_n 1 rfl rfl ?_
      exact R_iret rfl (⟨_, _, ⟨1, rfl, hm, h12, Or.inl ⟨rfl, hff rfl⟩⟩, rfl⟩)
    | true =>
      obtain ⟨e, e1, e2, e3, e4, e5, e6, e7, e8, e9⟩ := htt rfl
      obtain ⟨q1, q2, q3, q4, q5⟩ := isRowT_c e4
      have hk6 : T a - 48 < 6 := by omega
      have hcb6 := hcb _ hk6
      refine R_la0 rfl ?_
      refine R_c1 rfl (hpc) rfl rfl rfl sh_146 rfl rfl ?_
      refine BB_neT rfl (rfl) ?_
      refine R_la0 rfl ?_
      refine R_getI rfl sh_146 rfl e8 ?_
      refine BB_eq rfl (fun h_7 => ?_) (fun h_7 => ?_)
      · refine R_la0 rfl ?_
        refine R_la0 rfl ?_
        refine R_getI rfl sh_146 rfl e7 ?_
        refine R_n 5 rfl rfl ?_
        refine R_c1 rfl (xo_runs hrf hR1 hk6) rfl rfl rfl sh_146 rfl rfl ?_
        refine R_n 1 rfl rfl ?_
        refine B2_ne rfl (fun h_16 => ?_) (fun h_16 => ?_)
        · refine R_la0 rfl ?_
          refine R_getR rfl sh_146 rfl (rf_146_11 hrf) ?_
          refine R_la0 rfl ?_
          refine R_getI rfl sh_146 rfl e7 ?_
          refine R_dup2 rfl ?_
          refine R_ald rfl sh_152 (by first | decide | omega) (by omega) ((congrFun h152 _).trans (hc _ hk6)) ?_
          refine R_n 1 rfl rfl ?_
          refine R_addN rfl ?_
          refine R_ast rfl sh_152 (by decide) (by omega) ?_
          refine R_la0 rfl ?_
          refine R_getR rfl sh_146 rfl (rf_146_11 hrf) ?_
          refine R_la0 rfl ?_
          refine R_getI rfl sh_146 rfl ((congrFun (u2_ne (by decide)) 8).trans e7) ?_
          refine R_ald rfl sh_152 (by first | decide | omega) (by omega) (u2s ρ1 152 (T a - 48) (nI (c (T a - 48) + 1))) ?_
          refine R_n 4 rfl rfl ?_
          refine N2_le rfl (by omega) (by omega) (fun h_34 => ?_) (fun h_34 => ?_)
          · refine R_n 0 rfl rfl ?_
            exact R_iret rfl (by
                refine ⟨_, _, ⟨0, rfl, hm.y _ _, ((congrFun (u2_ne (by decide)) 12).trans h12), Or.inr ⟨e, e1, e2, e3, e4, ?_, fun _ => ⟨(congrFun (u2_ne (by decide)) 7).trans e6, fun m hm6 => ?_⟩⟩⟩, rfl⟩
                · unfold rs
                  rw [if_neg (Nat.not_le.mpr (nd_f h_7)), if_neg (by rw [bIf.mp h_16]; decide), if_neg (by omega)]
                · by_cases q : m = T a - 48
                  · rw [if_pos q, q, u2s]
                  · rw [if_neg q, u2_at, up_ne q, h152]; exact hc m hm6)
          · refine R_n 4 rfl rfl ?_
            refine R_goto rfl ?_
            exact R_iret rfl (⟨_, _, ⟨4, rfl, hm.y _ _, ((congrFun (u2_ne (by decide)) 12).trans h12), Or.inr ⟨e, e1, e2, e3, e4, (by unfold rs; rw [if_neg (Nat.not_le.mpr (nd_f h_7)), if_neg (by rw [bIf.mp h_16]; decide), if_pos (by omega)]), fun q => absurd q (by decide)⟩⟩, rfl⟩)
        · refine R_n 3 rfl rfl ?_
          exact R_iret rfl (⟨_, _, ⟨3, rfl, hm, h12, Or.inr ⟨e, e1, e2, e3, e4, (by unfold rs; rw [if_neg (Nat.not_le.mpr (nd_f h_7)), if_pos (bIt.mp h_16)]), fun q => absurd q (by decide)⟩⟩, rfl⟩)
      · refine R_n 2 rfl rfl ?_
        exact R_iret rfl (⟨_, _, ⟨2, rfl, hm, h12, Or.inr ⟨e, e1, e2, e3, e4, (by unfold rs; rw [if_pos (nd_t h_7)]), fun q => absurd q (by decide)⟩⟩, rfl⟩)
  obtain ⟨r, ρ', ⟨q, h1, h2⟩, h3⟩ := key
  rw [h1] at h3
  exact ⟨q, ρ', h2, h3⟩
/-- behind reasonOfText -/
def RT (T : Nat → Nat) (l : Nat) (F : Nat → Nat → Nat) (ρ : pR) (r : Nat) (ρ' : pR) : Prop := Md ρ ρ' ∧ ((pf T F l = none ∧ r = 0) ∨ ∃ p, pf T F l = some p ∧ 0 < r ∧ r = F p (eor T l p) ∧ ρ' 146 12 = nI p)
theorem rt_exit {F : Nat → Nat → Nat} {r : Nat} (hrf : RFok rf) (hr : 0 < r) (hr4 : r < 2 ^ 31) (h : RT T l F ρ0 r ρ) : PW p_c_X5_reasonOfText 20 [some (.ref 146), some (.int (nI r))] [] (HP sl ρ rf) (fun zz => ∃ r ρ', (∃ q, r = some (.int (nI q)) ∧ RT T l F ρ0 q ρ') ∧ zz = (r, HP sl ρ' rf)) := by
  refine R_la0 rfl ?_
  refine R_getI rfl sh_146 rfl rfl ?_
  refine R_la0 rfl ?_
  refine R_getI rfl sh_146 rfl rfl ?_
  refine B2_ge rfl (fun h24 => ?_) (fun h24 => ?_)
  · refine R_ld1 rfl ?_
    exact R_iret rfl (⟨_, _, ⟨r, rfl, h⟩, rfl⟩)
  · refine R_ld1 rfl ?_
    refine B1_neT rfl (nI_ne0 hr hr4) ?_
    refine R_ld1 rfl ?_
    exact R_iret rfl (⟨_, _, ⟨r, rfl, h⟩, rfl⟩)
theorem rt_loop (hrf : RFok rf) (hR : Rel σ (ρ0 147) n rc) (hT0 : TM ρ0 T l) : ∀ (f a : Nat) (ρ : pR), l - a ≤ f → a ≤ l → Md ρ0 ρ → ρ 146 7 = nI a → fr T a = a → (∀ j, j < a → fp T (fo T l n (σ 12 0) rc) j = false) → (∀ m, m < 6 → ρ 152 m = nI (rc m + ctR T a m)) → PW p_c_X5_reasonOfText 20 [some (.ref 146), some (.int (nI 0))] [] (HP sl ρ rf) (fun zz => ∃ r ρ', (∃ q, r = some (.int (nI q)) ∧ RT T l (fo T l n (σ 12 0) rc) ρ0 q ρ') ∧ zz = (r, HP sl ρ' rf)) := by
  intro f
  induction f with
  | zero =>
    intro a ρ hf hal hm hp hfr hno hc
    have e : a = l := by omega
    subst e
    have hT := hT0.md hm
    have hl80 := hT0.2.1
    refine R_la0 rfl ?_
    refine R_getI rfl sh_146 rfl hp ?_
    refine R_la0 rfl ?_
    refine R_getI rfl sh_146 rfl hT.1 ?_
    refine N2_geT rfl (by omega) (by omega) (by omega) ?_
    refine R_ld1 rfl ?_
    exact R_iret rfl (⟨_, _, ⟨0, rfl, hm, Or.inl ⟨pf_none hfr hno, rfl⟩⟩, rfl⟩)
  | succ f ih =>
    intro a ρ hf hal hm hp hfr hno hc
    have hT := hT0.md hm
    have hl80 := hT0.2.1
    by_cases hlt : a < l
    · have hm1 : Md ρ0 (u2 ρ 146 12 (nI a)) := hm.w (by decide) _
      have hR1 : Rel σ ((u2 ρ 146 12 (nI a)) 147) n rc := by rw [hm1.1 147 (by decide) (by decide)]; exact hR
      have hb : ∀ m, m < 6 → rc m + ctR T a m ≤ 100 := fun m hm6 => by
        have h1 := (hR.m hm6).1
        have h2 := ctR_le T a m
        omega
      obtain ⟨q, ρ2, h2, hpc⟩ := e_here (sl := sl) (c := fun m => rc m + ctR T a m) hrf hR1 (hT0.md hm1) (by (simp (disch := omega) only [u2_at, u2_ne, up_eq, up_ne]); exact hp) hal (fun m hm6 => by rw [u2_ne (by decide)]; exact hc m hm6) hb
      have hfo := hr_fo hlt h2 (fun _ _ => rfl)
      have hm2 := hm1.tr h2.1
      refine R_la0 rfl ?_
      refine R_getI rfl sh_146 rfl hp ?_
      refine R_la0 rfl ?_
      refine R_getI rfl sh_146 rfl hT.1 ?_
      refine N2_geF rfl (by omega) (by omega) (hlt) ?_
      refine R_ld1 rfl ?_
      refine B1_neF rfl (rfl) ?_
      refine R_la0 rfl ?_
      refine R_la0 rfl ?_
      refine R_getI rfl sh_146 rfl hp ?_
      refine R_putI rfl sh_146 rfl ?_
      refine R_la0 rfl ?_
      refine R_c1 rfl (hpc) rfl rfl rfl sh_146 rfl rfl ?_
      refine R_st1 rfl ?_
      refine R_goto rfl ?_
      by_cases hq : q = 0
      · obtain ⟨h3, h4, h5 | h5⟩ := h2
        · omega
        · obtain ⟨e, e1, e2, e3, e4, e5, e6⟩ := h5
          obtain ⟨e7, e8⟩ := e6 hq
          rw [hq]
          refine ih (e + 1) ρ2 (by omega) (by omega) hm2 e7 (fr_t e3) (fun j hj => ?_) (fun m hm6 => ?_)
          · by_cases j1 : j < a
            · exact hno j j1
            · by_cases j2 : j = e
              · rw [eor_eq (by omega) e2 e3 (row_59 e4), hq] at hfo
                unfold fp
                rw [j2, fr_to hfr (by omega) (row_59 e4), ← hfo, decide_eq_false (show ¬ ¬ (0 : Nat) = 0 by decide), Bool.and_false]
              · unfold fp
                rw [decide_eq_false (row_59 e4 j (by omega) (by omega))]
                rfl
          · rw [e8 m hm6, ctR_row e4 e3 hm6]
            by_cases j1 : m = T a - 48
            · rw [if_pos j1, if_pos j1]; rfl
            · rw [if_neg j1, if_neg j1]
      · refine rt_exit hrf (by omega) (by have := fo_le T l n (σ 12 0) rc a (eor T l a); omega) ⟨hm2, Or.inr ⟨a, pf_bad hfr hlt hno (by rw [← hfo]; exact hq), by omega, hfo, ?_⟩⟩
        rw [h2.2.1, u2s]
    · have e : a = l := by omega
      subst e
      refine R_la0 rfl ?_
      refine R_getI rfl sh_146 rfl hp ?_
      refine R_la0 rfl ?_
      refine R_getI rfl sh_146 rfl hT.1 ?_
      refine N2_geT rfl (by omega) (by omega) (by omega) ?_
      refine R_ld1 rfl ?_
      exact R_iret rfl (⟨_, _, ⟨0, rfl, hm, Or.inl ⟨pf_none hfr hno, rfl⟩⟩, rfl⟩)
theorem e_reason (hrf : RFok rf) (hR : Rel σ (ρ 147) n rc) (hT : TM ρ T l) : ∃ (q : Nat) (ρ' : pR), RT T l (fo T l n (σ 12 0) rc) ρ q ρ' ∧ PC 166 [.ref 146] (HP sl ρ rf) (some (.int (nI q))) (HP sl ρ' rf) := by
  have key : ∃ r ρ', (∃ q, r = some (.int (nI q)) ∧ RT T l (fo T l n (σ 12 0) rc) ρ q ρ') ∧ PC 166 [.ref 146] (HP sl ρ rf) r (HP sl ρ' rf) := by
    have hl := down (n := 6) (P := fun j => ∀ ρ1 : pR, Md ρ ρ1 → (∀ m, m < j → ρ1 152 m = nI (rc m)) → PW p_c_X5_reasonOfText 2 [some (.ref 146), some (.int (nI j))] [] (HP sl ρ1 rf) (fun zz => ∃ r ρ', (∃ q, r = some (.int (nI q)) ∧ RT T l (fo T l n (σ 12 0) rc) ρ q ρ') ∧ zz = (r, HP sl ρ' rf))) ?_ ?_
    · refine PC_o (cd := p_c_X5_reasonOfText) (L0 := [some (.ref 146), none]) rfl rfl ?_
      refine R_n 0 rfl rfl ?_
      refine R_st1 rfl ?_
      exact hl 0 (Nat.zero_le _) ρ (Md.rf ρ) (fun m hm => absurd hm (Nat.not_lt_zero _))
    · intro ρ1 hm h1
      refine R_ld1 rfl ?_
      refine R_n 6 rfl rfl ?_
      refine N2_geT rfl (by omega) (by omega) (by omega) ?_
      refine R_la0 rfl ?_
      refine R_n 0 rfl rfl ?_
      refine R_putI rfl sh_146 rfl ?_
      refine R_n 0 rfl rfl ?_
      refine R_st1 rfl ?_
      exact rt_loop hrf hR hT _ 0 _ (Nat.le_refl _) (Nat.zero_le _) (hm.w (by decide) _) (up7 _ _) rfl (fun j hj => absurd hj (Nat.not_lt_zero _)) (fun m hm6 => by rw [u2_ne (by decide)]; exact h1 m hm6)
    · intro j hj hnext ρ1 hm h1
      have hR1 : Rel σ (ρ1 147) n rc := by rw [hm.1 147 (by decide) (by decide)]; exact hR
      refine R_ld1 rfl ?_
      refine R_n 6 rfl rfl ?_
      refine N2_geF rfl (by omega) (by omega) (hj) ?_
      refine R_la0 rfl ?_
      refine R_getR rfl sh_146 rfl (rf_146_11 hrf) ?_
      refine R_ld1 rfl ?_
      refine R_la0 rfl ?_
      refine R_ld1 rfl ?_
      refine R_n 0 rfl rfl ?_
      refine R_c1 rfl (xo_rows hrf hR1 hj) rfl rfl rfl sh_146 rfl rfl ?_
      refine R_ast rfl sh_152 (by decide) (by omega) ?_
      refine R_in1 rfl rfl ?_
      refine R_goto rfl ?_
      refine hnext _ (hm.y _ _) (fun m hm6 => ?_)
      by_cases q : m = j
      · rw [q, u2s]
      · rw [u2_at, up_ne q]; exact h1 m (by omega)
  obtain ⟨r, ρ', ⟨q, h1, h2⟩, h3⟩ := key
  rw [h1] at h3
  exact ⟨q, ρ', h2, h3⟩
end
