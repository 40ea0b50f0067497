/-! the model takes a row of its text -/
theorem nv_0 {T : Nat → Nat} {a i : Nat} (h : ds T a i = some 0) : nv T a i = 0 := by
  have := nv_le h
  omega
theorem dgB_t {c : Nat} (h : 48 ≤ c ∧ c ≤ 57) : dgB c = true := by
  unfold dgB
  rw [decide_eq_true h.1, decide_eq_true h.2]
  rfl
theorem dgB_f {c : Nat} (h : ¬ (48 ≤ c ∧ c ≤ 57)) : dgB c = false := by
  cases e : dgB c with
  | false => rfl
  | true =>
    unfold dgB at e
    simp only [Bool.and_eq_true, decide_eq_true_eq] at e
    exact absurd e h
theorem dstep_d {d c : Nat} (h : 48 ≤ c ∧ c ≤ 57) (hd : d < 2) : dstep d c = some (d + 1) := if_pos ⟨dgB_t h, hd⟩
theorem dstep_p {d : Nat} (hd : 0 < d) : dstep d 46 = some 0 := by
  unfold dstep
  rw [if_neg (fun q => absurd q.1 (by decide)), if_pos ⟨rfl, hd⟩]
theorem dstep_n {d c : Nat} (h : ¬ (48 ≤ c ∧ c ≤ 57) ∨ 2 ≤ d) (h2 : c ≠ 46 ∨ d = 0) : dstep d c = none := by
  unfold dstep
  rw [if_neg (fun q => by rcases h with h | h; · rw [dgB_f h] at q; exact absurd q.1 (by decide)
                          · omega), if_neg (fun q => by rcases h2 with h2 | h2; · exact h2 q.1
                                                        · omega)]
theorem nv_s {T : Nat → Nat} {a i : Nat} (h : T (a + 2 + i) ≠ 46) : nv T a (i + 1) = nv T a i * 10 + T (a + 2 + i) - 48 := if_neg h
theorem iv_s {T : Nat → Nat} {a i : Nat} (h : T (a + 2 + i) ≠ 46) : iv T a (i + 1) = iv T a i := if_neg h
theorem nv_p {T : Nat → Nat} {a i : Nat} (h : T (a + 2 + i) = 46) : nv T a (i + 1) = 0 := if_pos h
theorem iv_p {T : Nat → Nat} {a i : Nat} (h : T (a + 2 + i) = 46) : iv T a (i + 1) = wI (iv T a i) (nv T a i) true := if_pos h
theorem hv_s (T : Nat → Nat) (a i : Nat) : hv T a (i + 1) = max (hv T a i) (nv T a (i + 1)) := rfl
/-- no row of the form begins at a -/
theorem nofail {T : Nat → Nat} {l a i d : Nat} (hd : ds T a i = some d) (hc : ∀ j, a ≤ j → j < a + 2 + i → ¬ T j = 59) (h1 : a + 2 + i < l → dstep d (T (a + 2 + i)) = none) (h2 : a + 2 + i < l → T (a + 2 + i) = 59 → d = 0) (e : Nat) (he : T e = 59) : isRowT T l a e = false := by
  cases h : isRowT T l a e with
  | false => rfl
  | true =>
    exfalso
    obtain ⟨q1, q2, q3, q4, d', q5, q6⟩ := isRowT_c h
    have hpe : a + 2 + i ≤ e := Nat.le_of_not_lt fun q => hc e (by omega) q he
    rcases Nat.eq_or_lt_of_le hpe with q | q
    · rw [show e - (a + 2) = i by omega, hd] at q5
      cases q5
      exact absurd (h2 (by omega) (by rw [q]; exact he)) (by omega)
    · have hn : ds T a (i + 1) = none := by rw [ds_step hd]; exact h1 (by omega)
      have := ds_none hn (e - (a + 2) - (i + 1))
      rw [show i + 1 + (e - (a + 2) - (i + 1)) = e - (a + 2) by omega, q5] at this
      cases this
/-- ahead of an input, and behind it -/
def Bf (T : Nat → Nat) (l n a : Nat) (ρ0 : pR) (i : Nat) (g : Bool) (ρ : pR) : Prop := Md ρ0 ρ ∧ ρ 146 12 = ρ0 146 12 ∧ ρ 152 = ρ0 152 ∧ ρ 146 7 = nI (a + 2 + i) ∧ ρ 146 8 = nI (T a - 48) ∧ a + 2 + i ≤ l ∧ (48 ≤ T a ∧ T a ≤ 53 ∧ T (a + 1) = 58) ∧ ds T a i = some 0 ∧ (∀ j, a ≤ j → j < a + 2 + i → ¬ T j = 59) ∧ ρ 146 10 = bI (!g) ∧ (g = true → ρ 146 9 = iv T a i) ∧ ∀ v, (g && decide (v < n)) = decide (max (hv T a i) v < n)
def LI (T : Nat → Nat) (l n a : Nat) (ρ0 : pR) (i d : Nat) (ρ : pR) : Prop := Md ρ0 ρ ∧ ρ 146 12 = ρ0 146 12 ∧ ρ 152 = ρ0 152 ∧ ρ 146 7 = nI (a + 2 + i) ∧ ρ 146 8 = nI (T a - 48) ∧ a + 2 + i ≤ l ∧ (48 ≤ T a ∧ T a ≤ 53 ∧ T (a + 1) = 58) ∧ ds T a i = some d ∧ 0 < d ∧ (d = 2 ∨ atT T l (a + 2 + i) 48 57 = false) ∧ (∀ j, a ≤ j → j < a + 2 + i → ¬ T j = 59) ∧ ρ 146 10 = bI (!decide (hv T a i < n)) ∧ (hv T a i < n → ρ 146 9 = wI (iv T a i) (nv T a i) true)
section
variable {T : Nat → Nat} {l n a : Nat} {ρ0 ρ ρ' : pR}
theorem tk_step {i : Nat} {g : Bool} (hB : Bf T l n a ρ0 i g ρ) {t v : Nat} {r : Option Value} (hw : t = 0 ∧ atT T l (a + 2 + i) 48 57 = false ∨ t = 1 ∧ atT T l (a + 2 + i) 48 57 = true ∧ atT T l (a + 2 + i + 1) 48 57 = false ∧ v = T (a + 2 + i) - 48 ∨ t = 2 ∧ atT T l (a + 2 + i) 48 57 = true ∧ atT T l (a + 2 + i + 1) 48 57 = true ∧ v = 10 * (T (a + 2 + i) - 48) + T (a + 2 + i + 1) - 48) (hT : TI_ ρ (a + 2 + i) t v n g r ρ') : (0 < t → ∃ d, LI T l n a ρ0 (i + t) d ρ') ∧ (¬ 0 < t → ∀ e, T e = 59 → isRowT T l a e = false) := by
  obtain ⟨b1, b2, b3, b4, b5, b6, b7, b8, b9, b10, b11, b12⟩ := hB
  obtain ⟨t1, t2, t3, t4, t5, t6, t7⟩ := hT
  have hn0 := nv_0 b8
  rcases hw with ⟨h0, h1⟩ | ⟨h0, h1, h2, h3⟩ | ⟨h0, h1, h2, h3⟩
  · subst h0
    refine ⟨fun q => absurd q (by decide), fun _ => nofail b8 b9 (fun q => dstep_n (Or.inl fun q2 => atT_f h1 ⟨q, q2⟩) (Or.inr rfl)) (fun _ _ => rfl)⟩
  · subst h0
    refine ⟨fun q => ⟨1, ?_⟩, fun q => absurd (by decide) q⟩
    obtain ⟨u1_, u2_⟩ := t7 q
    obtain ⟨c1, c2⟩ := atT_t h1
    have e1 : ds T a (i + 1) = some 1 := by rw [ds_step b8]; exact dstep_d c2 (by decide)
    have e2 : nv T a (i + 1) = v := by rw [nv_s (by omega), hn0, h3]; omega
    have e3 : iv T a (i + 1) = iv T a i := iv_s (by omega)
    have e4 : hv T a (i + 1) = max (hv T a i) v := by rw [hv_s, e2]
    refine ⟨b1.tr t2, t4.trans b2, t5.trans b3, t6, t3.trans b5, by omega, b7, e1, by decide, Or.inr h2, fun j j1 j2 => ?_, ?_, fun q2 => ?_⟩
    · by_cases q : j = a + 2 + i
      · subst q; omega
      · exact b9 j j1 (by omega)
    · rw [u1_, b12, e4]
    · rw [e4] at q2
      have hg := b12 v
      rw [decide_eq_true q2] at hg
      simp only [Bool.and_eq_true, decide_eq_true_eq] at hg
      rw [u2_ hg.2, e3, e2, b11 hg.1]
  · subst h0
    refine ⟨fun q => ⟨2, ?_⟩, fun q => absurd (by decide) q⟩
    obtain ⟨u1_, u2_⟩ := t7 q
    obtain ⟨c1, c2⟩ := atT_t h1
    obtain ⟨d1, d2⟩ := atT_t h2
    have f1 : ds T a (i + 1) = some 1 := by rw [ds_step b8]; exact dstep_d c2 (by decide)
    have e1 : ds T a (i + 2) = some 2 := by rw [show i + 2 = i + 1 + 1 from rfl, ds_step f1]; exact dstep_d (by rw [show a + 2 + (i + 1) = a + 2 + i + 1 from rfl]; exact d2) (by decide)
    have f2 : nv T a (i + 1) = T (a + 2 + i) - 48 := by rw [nv_s (by omega), hn0]; omega
    have hs : T (a + 2 + (i + 1)) = T (a + 2 + i + 1) := rfl
    have e2 : nv T a (i + 2) = v := by rw [show i + 2 = i + 1 + 1 from rfl, nv_s (by omega), f2, h3]; omega
    have e3 : iv T a (i + 2) = iv T a i := by rw [show i + 2 = i + 1 + 1 from rfl, iv_s (by omega), iv_s (by omega)]
    have e4 : hv T a (i + 2) = max (hv T a i) v := by rw [show i + 2 = i + 1 + 1 from rfl, hv_s, hv_s, f2, show i + 1 + 1 = i + 2 from rfl, e2]; omega
    refine ⟨b1.tr t2, t4.trans b2, t5.trans b3, t6, t3.trans b5, by omega, b7, e1, by decide, Or.inl rfl, fun j j1 j2 => ?_, ?_, fun q2 => ?_⟩
    · by_cases q : j = a + 2 + i
      · subst q; omega
      · by_cases q2 : j = a + 2 + i + 1
        · subst q2; omega
        · exact b9 j j1 (by omega)
    · rw [u1_, b12, e4]
    · rw [e4] at q2
      have hg := b12 v
      rw [decide_eq_true q2] at hg
      simp only [Bool.and_eq_true, decide_eq_true_eq] at hg
      rw [u2_ hg.2, e3, e2, b11 hg.1]
/-- behind isFormed -/
def FR (T : Nat → Nat) (l n a : Nat) (ρ ρ' : pR) (b : Bool) : Prop := Md ρ ρ' ∧ ρ' 146 12 = ρ 146 12 ∧ ρ' 152 = ρ 152 ∧ (b = false → ∀ e, T e = 59 → isRowT T l a e = false) ∧ (b = true → ∃ e, a + 2 ≤ e ∧ e < l ∧ T e = 59 ∧ isRowT T l a e = true ∧ (∀ j, a ≤ j → j < e → ¬ T j = 59) ∧ ρ' 146 7 = nI (e + 1) ∧ ρ' 146 8 = nI (T a - 48) ∧ ρ' 146 10 = bI (!decide (hv T a (e - (a + 2)) < n)) ∧ (hv T a (e - (a + 2)) < n → ρ' 146 9 = wI (iv T a (e - (a + 2))) (nv T a (e - (a + 2))) true))
theorem fm_end {i d x y : Nat} (hL : LI T l n a ρ0 i d ρ) (h46 : atT T l (a + 2 + i) 46 46 = false) {b : Bool} (h59 : atT T l (a + 2 + i) 59 59 = b) (hy : b = true → y = a + 2 + i + 1) : FR T l n a ρ0 (u2 (u2 ρ 146 7 (nI x)) 146 7 (nI y)) b := by
  obtain ⟨b1, b2, b3, b4, b5, b6, b7, b8, b9, b10, b11, b12, b13⟩ := hL
  refine ⟨(b1.w (by decide) _).w (by decide) _, by (simp (disch := omega) only [u2_at, u2_ne, up_eq, up_ne]); exact b2, by (simp (disch := omega) only [u2_at, u2_ne, up_eq, up_ne]); exact b3, fun q => ?_, fun q => ?_⟩
  · subst q
    refine nofail b8 b11 (fun q => dstep_n ?_ (Or.inl fun q2 => atT_f h46 ⟨q, by omega, by omega⟩)) (fun q q2 => (atT_f h59 ⟨q, by omega, by omega⟩).elim)
    rcases b10 with q3 | q3
    · exact Or.inr (by omega)
    · exact Or.inl fun q4 => atT_f q3 ⟨q, q4⟩
  · subst q
    obtain ⟨c1, c2⟩ := atT_t h59
    have e1 : a + 2 + i - (a + 2) = i := by omega
    have hd3 : 1 ≤ i := by
      rcases Nat.eq_zero_or_pos i with q | q
      · subst q; cases b8; omega
      · exact q
    refine ⟨a + 2 + i, by omega, c1, by omega, ?_, b11, by rw [hy rfl]; (simp (disch := omega) only [u2_at, u2_ne, up_eq, up_ne]), by (simp (disch := omega) only [u2_at, u2_ne, up_eq, up_ne]); exact b5, by rw [e1]; (simp (disch := omega) only [u2_at, u2_ne, up_eq, up_ne]); exact b12, by rw [e1]; (simp (disch := omega) only [u2_at, u2_ne, up_eq, up_ne]); exact b13⟩
    unfold isRowT
    rw [decide_eq_true c1, decide_eq_true (show a + 3 ≤ a + 2 + i by omega), decide_eq_true (show 48 ≤ T a ∧ T a ≤ 53 from ⟨b7.1, b7.2.1⟩), decide_eq_true b7.2.2, e1, b8]
    show (true && (true && (true && (true && decide (0 < d))))) = true
    rw [decide_eq_true b9]
    rfl
theorem fm_next {i d x : Nat} (hL : LI T l n a ρ0 i d ρ) (h46 : atT T l (a + 2 + i) 46 46 = true) (hx : x = a + 2 + i + 1) : Bf T l n a ρ0 (i + 1) (decide (hv T a i < n)) (u2 ρ 146 7 (nI x)) := by
  obtain ⟨b1, b2, b3, b4, b5, b6, b7, b8, b9, b10, b11, b12, b13⟩ := hL
  obtain ⟨c1, c2⟩ := atT_t h46
  have hc : T (a + 2 + i) = 46 := by omega
  refine ⟨b1.w (by decide) _, by (simp (disch := omega) only [u2_at, u2_ne, up_eq, up_ne]); exact b2, by (simp (disch := omega) only [u2_at, u2_ne, up_eq, up_ne]); exact b3, by rw [hx]; (simp (disch := omega) only [u2_at, u2_ne, up_eq, up_ne]) <;> rfl, by (simp (disch := omega) only [u2_at, u2_ne, up_eq, up_ne]); exact b5, by omega, b7, by rw [ds_step b8, hc]; exact dstep_p b9, fun j j1 j2 => ?_, by (simp (disch := omega) only [u2_at, u2_ne, up_eq, up_ne]); exact b12, fun q => ?_, fun v => ?_⟩
  · by_cases q : j = a + 2 + i
    · subst q; omega
    · exact b11 j j1 (by omega)
  · rw [iv_p hc]; (simp (disch := omega) only [u2_at, u2_ne, up_eq, up_ne]); exact b13 (of_decide_eq_true q)
  · rw [hv_s, nv_p hc, ← Bool.decide_and]
    exact decide_eq_decide.mpr (by omega)
end
section
variable {sl : Nat} {ρ ρ0 : pR} {rf : pF} {T : Nat → Nat} {l n a : Nat}
theorem e_tk (hrf : RFok rf) (hT0 : TM ρ0 T l) (hn0 : ρ0 147 1 = nI n) (h16 : n ≤ 16) {i : Nat} {g : Bool} (hB : Bf T l n a ρ0 i g ρ) : ∃ (b : Bool) (ρ' : pR), PC 163 [.ref 146] (HP sl ρ rf) (some (.int (bI b))) (HP sl ρ' rf) ∧ Md ρ0 ρ' ∧ ρ' 146 12 = ρ0 146 12 ∧ ρ' 152 = ρ0 152 ∧ (b = true → ∃ j d, i < j ∧ LI T l n a ρ0 j d ρ') ∧ (b = false → ∀ e, T e = 59 → isRowT T l a e = false) := by
  obtain ⟨r, ρ', t, v, h1, h2, h3⟩ := e_tI (sl := sl) hrf (hT0.md hB.1) hB.2.2.2.1 hB.2.2.2.2.2.1 (hB.1.n hn0) h16 hB.2.2.2.2.2.2.2.2.2.1
  obtain ⟨h4, h5⟩ := tk_step hB h1 h2
  rw [h2.1] at h3
  refine ⟨_, ρ', h3, hB.1.tr h2.2.1, h2.2.2.2.1.trans hB.2.1, h2.2.2.2.2.1.trans hB.2.2.1, fun q => ?_, fun q => h5 (of_decide_eq_false q)⟩
  have q1 := of_decide_eq_true q
  obtain ⟨d, hd⟩ := h4 q1
  exact ⟨i + t, d, by omega, hd⟩
theorem fm_loop (hrf : RFok rf) (hT0 : TM ρ0 T l) (hn0 : ρ0 147 1 = nI n) (h16 : n ≤ 16) : ∀ (f i d : Nat) (ρ : pR), l - i ≤ f → LI T l n a ρ0 i d ρ → PW p_c_X5_isFormed 37 [some (.ref 146)] [] (HP sl ρ rf) (fun zz => ∃ r ρ', (∃ b, r = some (.int (bI b)) ∧ FR T l n a ρ0 ρ' b) ∧ zz = (r, HP sl ρ' rf)) := by
  intro f
  induction f with
  | zero =>
    intro i d ρ hf hL
    have := hL.2.2.2.2.2.1
    omega
  | succ f ih =>
    intro i d ρ hf hL
    have hle := hL.2.2.2.2.2.1
    have hT := hT0.md hL.1
    have hl80 := hT0.2.1
    refine R_la0 rfl ?_
    refine R_n 46 rfl rfl ?_
    refine R_c1 rfl (x_takes hrf hT hL.2.2.2.1 hle (by decide)) rfl rfl rfl sh_146 rfl rfl ?_
    refine BB_eq rfl (fun h40 => ?_) (fun h40 => ?_)
    · have hp1 : (u2 ρ 146 7 (nI (if atT T l (a + 2 + i) 46 46 = true then a + 2 + i + 1 else a + 2 + i + 0))) 146 7 = nI (a + 2 + i) := (up7 _ _).trans (congrArg nI (if_neg (by rw [h40]; decide)))
      refine R_la0 rfl ?_
      refine R_n 59 rfl rfl ?_
      refine R_c1 rfl (x_takes hrf (hT.md ((Md.rf ρ).w (by decide) _)) hp1 hle (by decide)) rfl rfl rfl sh_146 rfl rfl ?_
      exact R_zret rfl (⟨_, _, ⟨_, rfl, fm_end hL h40 rfl (fun q => if_pos q)⟩, rfl⟩)
    · have hx1 : (if atT T l (a + 2 + i) 46 46 = true then a + 2 + i + 1 else a + 2 + i + 0) = a + 2 + i + 1 := if_pos h40
      obtain ⟨b, ρ2, hpc, hm, h12, h152, ht, hff⟩ := e_tk (sl := sl) hrf hT0 hn0 h16 (fm_next hL h40 hx1)
      refine R_la0 rfl ?_
      refine R_c1 rfl (hpc) rfl rfl rfl sh_146 rfl rfl ?_
      refine BB_ne rfl (fun h43 => ?_) (fun h43 => ?_)
      · obtain ⟨j, d2, hij, hL2⟩ := ht h43
        exact ih j d2 ρ2 (by omega) hL2
      · refine R_n 0 rfl rfl ?_
        exact R_zret0 rfl (⟨_, _, ⟨false, rfl, hm, h12, h152, fun _ => hff h43, fun q => absurd q (by decide)⟩, rfl⟩)
theorem e_form (hrf : RFok rf) (hT : TM ρ T l) (hn : ρ 147 1 = nI n) (h16 : n ≤ 16) (ha : ρ 146 7 = nI a) (hal : a ≤ l) : ∃ (b : Bool) (ρ' : pR), FR T l n a ρ ρ' b ∧ PC 164 [.ref 146] (HP sl ρ rf) (some (.int (bI b))) (HP sl ρ' rf) := by
  have hl80 := hT.2.1
  have hm0 : Md ρ (u2 (u2 ρ 146 9 (nI 0)) 146 10 (bI false)) := ((Md.rf ρ).w (by decide) _).w (by decide) _
  have hp0 : (u2 (u2 ρ 146 9 (nI 0)) 146 10 (bI false)) 146 7 = nI a := by (simp (disch := omega) only [u2_at, u2_ne, up_eq, up_ne]); exact ha
  have hT1 := hT.md hm0
  have key : ∃ r ρ', (∃ b, r = some (.int (bI b)) ∧ FR T l n a ρ ρ' b) ∧ PC 164 [.ref 146] (HP sl ρ rf) r (HP sl ρ' rf) := by
    refine PC_o (cd := p_c_X5_isFormed) (L0 := [some (.ref 146)]) rfl rfl ?_
    refine R_la0 rfl ?_
    refine R_n 0 rfl rfl ?_
    refine R_putI rfl sh_146 rfl ?_
    refine R_la0 rfl ?_
    refine R_n 0 rfl rfl ?_
    refine PW_top (show nI 0 = bI false from rfl) ?_
    refine R_putZ rfl sh_146 rfl ?_
    refine R_la0 rfl ?_
    refine R_n 48 rfl rfl ?_
    refine R_n 53 rfl rfl ?_
    refine R_c1 rfl (x_isAt hrf hT1 hp0 hal (by decide) (by decide)) rfl rfl rfl sh_146 rfl rfl ?_
    refine BB_ne rfl (fun h10 => ?_) (fun h10 => ?_)
    · obtain ⟨c1, c2⟩ := atT_t h10
      have hp3 : (u2 (u2 (u2 ρ 146 9 (nI 0)) 146 10 (bI false)) 146 8 (nI (T a - 48))) 146 7 = nI a := by (simp (disch := omega) only [u2_at, u2_ne, up_eq, up_ne]); exact ha
      refine R_la0 rfl ?_
      refine R_la0 rfl ?_
      refine R_getR rfl sh_146 rfl (rf_146_5 hrf) ?_
      refine R_la0 rfl ?_
      refine R_getI rfl sh_146 rfl hp0 ?_
      refine R_ald rfl sh_151 (by first | decide | omega) (by omega) (hT1.2.2 a c1).1 ?_
      refine R_n 48 rfl rfl ?_
      refine R_subN rfl (by omega) ?_
      refine R_putI rfl sh_146 rfl ?_
      refine R_la0 rfl ?_
      refine R_dupR rfl ?_
      refine R_getI rfl sh_146 rfl hp3 ?_
      refine R_n 1 rfl rfl ?_
      refine R_addN rfl ?_
      refine R_putI rfl sh_146 rfl ?_
      have hm2 : Md ρ (u2 (u2 (u2 (u2 ρ 146 9 (nI 0)) 146 10 (bI false)) 146 8 (nI (T a - 48))) 146 7 (nI (a + 1))) := ((((Md.rf ρ).w (by decide) _).w (by decide) _).w (by decide) _).w (by decide) _
      have hT2 := hT.md hm2
      have hp2 := up7 (u2 (u2 (u2 ρ 146 9 (nI 0)) 146 10 (bI false)) 146 8 (nI (T a - 48))) (nI (a + 1))
      refine R_la0 rfl ?_
      refine R_n 58 rfl rfl ?_
      refine R_c1 rfl (x_takes hrf hT2 hp2 (by omega) (by decide)) rfl rfl rfl sh_146 rfl rfl ?_
      refine BB_eq rfl (fun h31 => ?_) (fun h31 => ?_)
      · refine R_n 0 rfl rfl ?_
        exact R_zret0 rfl (by
                refine ⟨_, _, ⟨false, rfl, hm2.w (by decide) _, by (simp (disch := omega) only [u2_at, u2_ne, up_eq, up_ne]), by (simp (disch := omega) only [u2_at, u2_ne, up_eq, up_ne]), fun _ e he => ?_, fun q => absurd q (by decide)⟩, rfl⟩
                cases h : isRowT T l a e with
                | false => rfl
                | true =>
                  obtain ⟨q1, q2, q3, q4, q5⟩ := isRowT_c h
                  exact (atT_f h31 ⟨by omega, by omega, by omega⟩).elim)
      · obtain ⟨f1, f2⟩ := atT_t h31
        have hB : Bf T l n a ρ (0) true (u2 (u2 (u2 (u2 (u2 ρ 146 9 (nI 0)) 146 10 (bI false)) 146 8 (nI (T a - 48))) 146 7 (nI (a + 1))) 146 7 (nI (if atT T l (a + 1) 58 58 = true then a + 1 + 1 else a + 1 + 0))) := ⟨hm2.w (by decide) _, by (simp (disch := omega) only [u2_at, u2_ne, up_eq, up_ne]), by (simp (disch := omega) only [u2_at, u2_ne, up_eq, up_ne]), (up7 _ _).trans (congrArg nI (if_pos h31)), by (simp (disch := omega) only [u2_at, u2_ne, up_eq, up_ne]), by omega, ⟨c2.1, c2.2, by omega⟩, rfl, fun j j1 j2 => by
          rcases (show j = a ∨ j = a + 1 by omega) with q | q <;> rw [q] <;> omega, by (simp (disch := omega) only [u2_at, u2_ne, up_eq, up_ne]) <;> rfl, fun _ => by (simp (disch := omega) only [u2_at, u2_ne, up_eq, up_ne]) <;> rfl, fun v => by rw [Bool.true_and]; exact decide_eq_decide.mpr (by show v < n ↔ max 0 v < n; omega)⟩
        obtain ⟨b, ρ2, hpc, hm, h12, h152, ht, hff⟩ := e_tk (sl := sl) hrf hT hn h16 hB
        refine R_la0 rfl ?_
        refine R_c1 rfl (hpc) rfl rfl rfl sh_146 rfl rfl ?_
        refine BB_ne rfl (fun h34 => ?_) (fun h34 => ?_)
        · obtain ⟨j, d2, hij, hL2⟩ := ht h34
          exact fm_loop hrf hT hn h16 _ j d2 ρ2 (Nat.le_refl _) hL2
        · refine R_n 0 rfl rfl ?_
          exact R_zret0 rfl (⟨_, _, ⟨false, rfl, hm, h12, h152, fun _ => hff h34, fun q => absurd q (by decide)⟩, rfl⟩)
    · refine R_n 0 rfl rfl ?_
      exact R_zret0 rfl (by
                refine ⟨_, _, ⟨false, rfl, hm0, by (simp (disch := omega) only [u2_at, u2_ne, up_eq, up_ne]), by (simp (disch := omega) only [u2_at, u2_ne, up_eq, up_ne]), fun _ e he => ?_, fun q => absurd q (by decide)⟩, rfl⟩
                cases h : isRowT T l a e with
                | false => rfl
                | true =>
                  obtain ⟨q1, q2, q3, q4, q5⟩ := isRowT_c h
                  exact (atT_f h10 ⟨by omega, by omega, by omega⟩).elim)
  obtain ⟨r, ρ', ⟨b, h1, h2⟩, h3⟩ := key
  rw [h1] at h3
  exact ⟨b, ρ', h2, h3⟩
end
