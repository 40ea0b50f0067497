/-! what holds of a state of the class; what the law's `state` answers, as a function of the cells 3 to 21 -/
def nOf (σ : pR) : Nat := (σ 3 0).toNatClampNeg
def rcO (σ : pR) (m : Nat) : Nat := (σ 14 m).toNatClampNeg
abbrev cOf (σ : pR) : Nat → Bool := bt (σ 3 3)
def tOf (σ : pR) : Nat := (σ 3 1).toNatClampNeg
/-- the present state's cells are the same -/
def Eq3 (σ σ' : pR) : Prop := ∀ k, 3 ≤ k → k ≤ 21 → σ' k = σ k
def StC (σ : pR) : Prop := nOf σ ≤ 16 ∧ σ 3 0 = nI (nOf σ) ∧ σ 3 3 = M (cOf σ) ∧ (∀ m, m < 6 → σ 14 m = nI (rcO σ m) ∧ rcO σ m ≤ 4) ∧ σ 3 1 = nI (tOf σ) ∧ tOf σ ≤ 100000 ∧ fb_ct (br σ) (nOf σ) ≤ 3 ∧ (∀ i, nOf σ ≤ i → i < 16 → σ 8 i = 0) ∧ ∀ m, m < 6 → ∃ g : Option Nat, σ 16 m = fI g ∧ ∀ a, g = some a → a < 16
theorem nOf_eq {σ : pR} {n : Nat} (hn : n ≤ 16) (h : σ 3 0 = nI n) : nOf σ = n := by
  unfold nOf
  rw [h, nI_clamp (by omega)]
theorem rcO_eq {σ : pR} {m r : Nat} (hr : r ≤ 4) (h : σ 14 m = nI r) : rcO σ m = r := by
  unfold rcO
  rw [h, nI_clamp (by omega)]
theorem tOf_eq {σ : pR} {t : Nat} (ht : t ≤ 100000) (h : σ 3 1 = nI t) : tOf σ = t := by
  unfold tOf
  rw [h, nI_clamp (by omega)]
theorem M_cO {x : Int32} {c : Nat → Bool} (h : x = M c) : x = M (bt x) := by
  rw [h]
  refine M_ext fun i hi => ?_
  rw [M_bt c (by omega), decide_eq_true hi, Bool.true_and]
theorem StC_mk {σ : pR} {n t : Nat} {c : Nat → Bool} {rc : Nat → Nat} (h1 : n ≤ 16) (h2 : σ 3 0 = nI n) (h3 : σ 3 3 = M c) (h4 : ∀ m, m < 6 → σ 14 m = nI (rc m) ∧ rc m ≤ 4) (h5 : σ 3 1 = nI t) (h6 : t ≤ 100000) (h7 : fb_ct (br σ) n ≤ 3) (h8 : ∀ i, n ≤ i → i < 16 → σ 8 i = 0) (h9 : ∀ m, m < 6 → ∃ g : Option Nat, σ 16 m = fI g ∧ ∀ a, g = some a → a < 16) : StC σ := by
  have e1 := nOf_eq h1 h2
  have e2 := tOf_eq h6 h5
  refine ⟨by rw [e1]; exact h1, by rw [e1]; exact h2, M_cO h3, fun m hm => ?_, by rw [e2]; exact h5, by rw [e2]; exact h6, by rw [e1]; exact h7, fun i h => h8 i (by rw [← e1]; exact h), h9⟩
  obtain ⟨q1, q2⟩ := h4 m hm
  rw [rcO_eq q2 q1]
  exact ⟨q1, q2⟩
theorem StC_c {σ σ' : pR} (h : Eq3 σ σ') (hS : StC σ) : StC σ' := by
  obtain ⟨a1, a2, a3, a4, a5, a6, a7, a8, a9⟩ := hS
  have e3 := h 3 (by decide) (by decide)
  have e8 := h 8 (by decide) (by decide)
  have e14 := h 14 (by decide) (by decide)
  have e16 := h 16 (by decide) (by decide)
  exact StC_mk (n := nOf σ) (t := tOf σ) (c := cOf σ) (rc := rcO σ) a1 (by rw [e3]; exact a2) (by rw [e3]; exact a3) (fun m hm => by rw [e14]; exact a4 m hm) (by rw [e3]; exact a5) a6 (brc_e e8 a7) (fun i h1 h2 => by rw [e8]; exact a8 i h1 h2) (fun m hm => by rw [e16]; exact a9 m hm)
/-! what the calls that only look answer -/
def cntV (σ : pR) (w : Nat) : Int32 := match w with
  | 0 => nI (nOf σ)
  | 1 => bcI (M (cM σ (nOf σ) (cOf σ)))
  | 2 => bcI (wA (ov σ) (nOf σ))
  | 3 => bcI (wA (br σ) (nOf σ))
  | 4 => nI (fb_ct (kL σ) (nOf σ))
  | 5 => bcI (σ 12 0)
  | 6 => nI (fb_ct (fun m => pmI (rw0 σ m) (rcO σ m) (M (cM σ (nOf σ) (cOf σ)))) 6)
  | 7 => nI (fb_ct (fun m => decide (¬ σ 16 m = -1)) 6)
  | 8 => σ 3 1
  | 9 => sI (σ 21) 6
  | 10 => sI (σ 19) 6
  | 11 => sI (σ 18) 6
  | 12 => sI (σ 9) 16
  | _ => σ 3 2
def infV (σ : pR) (j w : Nat) : Int32 := match w with
  | 0 => bI (decide (¬ σ 4 j = -1))
  | 1 => bI (bt (σ 3 3) j)
  | 2 => bI (bt (M (cM σ (nOf σ) (cOf σ))) j)
  | 3 => bI (bt (σ 3 4) j)
  | 4 => bI (bt (wA (ov σ) (nOf σ)) j)
  | 5 => σ 6 j
  | 6 => σ 7 j
  | 7 => σ 8 j
  | 8 => σ 9 j
  | 9 => σ 10 j
  | 10 => onf (σ 4 j)
  | _ => onf (σ 5 j)
def motV (σ : pR) (m w : Nat) : Int32 := match w with
  | 0 => σ 14 m
  | 1 => bI (pmI (rw0 σ m) (rcO σ m) (M (cM σ (nOf σ) (cOf σ))))
  | 2 => bI (bt (σ 12 0) m)
  | 3 => onf (σ 16 m)
  | 4 => onf (σ 17 m)
  | 5 => σ 21 m
  | 6 => σ 19 m
  | 7 => σ 18 m
  | 8 => if 0 < rcO σ m then rw0 σ m 0 else -4
  | 9 => if 1 < rcO σ m then rw0 σ m 1 else -4
  | 10 => if 2 < rcO σ m then rw0 σ m 2 else -4
  | 11 => if 3 < rcO σ m then rw0 σ m 3 else -4
  | _ => σ 15 m
def keyV (σ : pR) (k : Nat) : Int32 := onf (fI (ff (kA σ (nI k)) (nOf σ)))
def whyV (σ : pR) (m : Nat) : Int32 := nI (rsn (bt (σ 12 0) m) (σ 16 m) (pmI (rw0 σ m) (rcO σ m) (M (cM σ (nOf σ) (cOf σ)))) (σ 12 0 &&& σ 15 m))
def neeV (σ : pR) (m : Nat) : Int32 := if rcO σ m = 0 then -4 else feA (rw0 σ m) (M (cM σ (nOf σ) (cOf σ))) (rcO σ m - 1)
def mx (h v : Int64) : Int64 := Int64.ofNat 31 * h + v
def fN (f : Nat → Int64 → Int64) (h : Int64) : Nat → Int64
  | 0 => h
  | j + 1 => f j (fN f h j)
def fA (σ : pR) (w : Nat) (h : Int64) : Int64 := mx h (cntV σ w).toInt64
def fB (σ : pR) (k : Nat) (h : Int64) : Int64 := mx h (infV σ (k / 12) (k % 12)).toInt64
def fC (σ : pR) (k : Nat) (h : Int64) : Int64 := mx h (motV σ (k / 13) (k % 13)).toInt64
def fD (σ : pR) (k : Nat) (h : Int64) : Int64 := mx (mx (mx h (keyV σ k).toInt64) (whyV σ k).toInt64) (neeV σ k).toInt64
/-- the law's `state` -/
def sL (σ : pR) : Int64 := fN (fD σ) (fN (fC σ) (fN (fB σ) (fN (fA σ) (Int64.ofNat 3) 14) (12 * nOf σ)) 78) 6
theorem sL_c {σ σ' : pR} (h : Eq3 σ σ') : sL σ' = sL σ := by
  have e3 := h 3 (by decide) (by decide)
  have e4 := h 4 (by decide) (by decide)
  have e5 := h 5 (by decide) (by decide)
  have e6 := h 6 (by decide) (by decide)
  have e7 := h 7 (by decide) (by decide)
  have e8 := h 8 (by decide) (by decide)
  have e9 := h 9 (by decide) (by decide)
  have e10 := h 10 (by decide) (by decide)
  have e11 := h 11 (by decide) (by decide)
  have e12 := h 12 (by decide) (by decide)
  have e13 := h 13 (by decide) (by decide)
  have e14 := h 14 (by decide) (by decide)
  have e15 := h 15 (by decide) (by decide)
  have e16 := h 16 (by decide) (by decide)
  have e17 := h 17 (by decide) (by decide)
  have e18 := h 18 (by decide) (by decide)
  have e19 := h 19 (by decide) (by decide)
  have e20 := h 20 (by decide) (by decide)
  have e21 := h 21 (by decide) (by decide)
  have en : nOf σ' = nOf σ := by unfold nOf; rw [e3]
  have erc : rcO σ' = rcO σ := by funext m; unfold rcO; rw [e14]
  have eov : ov σ' = ov σ := by funext i; unfold ov; rw [e3, e6, e7]
  have ebr : br σ' = br σ := by funext i; unfold br; rw [e8]
  have ecM : ∀ n c, cM σ' n c = cM σ n c := fun n c => by funext i; unfold cM; rw [eov, ebr]
  have ekL : kL σ' = kL σ := by funext i; unfold kL; rw [e3, e4]
  have ekA : kA σ' = kA σ := by funext x i; unfold kA; rw [e3, e4]
  have erw : rw0 σ' = rw0 σ := by funext m j; show σ' 13 _ = σ 13 _; rw [e13]
  have c1 : fA σ' = fA σ := by
    funext w x
    unfold fA
    congr 2
    unfold cntV
    split <;> simp only [en, erc, eov, ebr, ecM, ekL, erw, cOf, e3, e4, e5, e6, e7, e8, e9, e10, e11, e12, e13, e14, e15, e16, e17, e18, e19, e20, e21]
  have c2 : fB σ' = fB σ := by
    funext k x
    unfold fB
    congr 2
    unfold infV
    split <;> simp only [en, eov, ecM, cOf, e3, e4, e5, e6, e7, e8, e9, e10, e11, e12, e13, e14, e15, e16, e17, e18, e19, e20, e21]
  have c3 : fC σ' = fC σ := by
    funext k x
    unfold fC
    congr 2
    unfold motV
    split <;> simp only [en, erc, ecM, erw, cOf, e3, e4, e5, e6, e7, e8, e9, e10, e11, e12, e13, e14, e15, e16, e17, e18, e19, e20, e21]
  have c4 : fD σ' = fD σ := by
    funext k x
    unfold fD keyV whyV neeV
    simp only [en, erc, ecM, ekA, erw, cOf, e3, e4, e5, e6, e7, e8, e9, e10, e11, e12, e13, e14, e15, e16, e17, e18, e19, e20, e21]
  unfold sL
  rw [c1, c2, c3, c4, en]
section
variable {sl : pS} {ρ : pR} {rf : pF}
theorem m_mixed (x y : Int64) : PC 97 [.long x, .long y] (HP sl ρ rf) (some (.long (mx x y))) (HP sl ρ rf) := by
  refine PC_of (cd := p_c_L_mixed) (L0 := [some (.long x), none, some (.long y), none]) rfl rfl ?_
  refine R_lc 31 rfl ?_
  refine R_ll0 rfl ?_
  refine R_lmul rfl ?_
  refine R_ll2 rfl ?_
  refine R_ladd rfl ?_
  exact R_lret rfl rfl
theorem s_cnt (hrf : RFok rf) (hS : StC ρ) : ∀ {w : Nat}, w < 14 → PC 66 [.ref 1, .int (nI w)] (HP sl ρ rf) (some (.int (cntV ρ w))) (HP sl ρ rf) := by
  obtain ⟨a1, a2, a3, a4, -⟩ := hS
  intro w hw
  match w, hw with
  | 0, _ => exact c_count_0 hrf a2 a1 a3 a4
  | 1, _ => exact c_count_1 hrf a2 a1 a3 a4
  | 2, _ => exact c_count_2 hrf a2 a1 a3 a4
  | 3, _ => exact c_count_3 hrf a2 a1 a3 a4
  | 4, _ => exact c_count_4 hrf a2 a1 a3 a4
  | 5, _ => exact c_count_5 hrf a2 a1 a3 a4
  | 6, _ => exact c_count_6 hrf a2 a1 a3 a4
  | 7, _ => exact c_count_7 hrf
  | 8, _ => exact c_count_8 hrf
  | 9, _ => exact c_count_9 hrf
  | 10, _ => exact c_count_10 hrf
  | 11, _ => exact c_count_11 hrf
  | 12, _ => exact c_count_12 hrf
  | 13, _ => exact c_count_13 hrf
  | n + 14, h => exact absurd h (by omega)
theorem s_inf (hrf : RFok rf) (hS : StC ρ) {j : Nat} (hj : j < nOf ρ) : ∀ {w : Nat}, w < 12 → PC 46 [.ref 1, .int (nI j), .int (nI w)] (HP sl ρ rf) (some (.int (infV ρ j w))) (HP sl ρ rf) := by
  obtain ⟨a1, a2, a3, a4, -⟩ := hS
  intro w hw
  match w, hw with
  | 0, _ => exact c_info_0 hrf a2 a1 hj
  | 1, _ => exact c_info_1 hrf a2 a1 hj
  | 2, _ => exact c_info_2 hrf a2 a1 hj a3
  | 3, _ => exact c_info_3 hrf a2 a1 hj
  | 4, _ => exact c_info_4 hrf a2 a1 hj
  | 5, _ => exact c_info_5 hrf a2 a1 hj
  | 6, _ => exact c_info_6 hrf a2 a1 hj
  | 7, _ => exact c_info_7 hrf a2 a1 hj
  | 8, _ => exact c_info_8 hrf a2 a1 hj
  | 9, _ => exact c_info_9 hrf a2 a1 hj
  | 10, _ => exact c_info_10 hrf a2 a1 hj
  | 11, _ => exact c_info_11 hrf a2 a1 hj
  | n + 12, h => exact absurd h (by omega)
theorem s_mot (hrf : RFok rf) (hS : StC ρ) {m : Nat} (hm : m < 6) : ∀ {w : Nat}, w < 13 → PC 60 [.ref 1, .int (nI m), .int (nI w)] (HP sl ρ rf) (some (.int (motV ρ m w))) (HP sl ρ rf) := by
  obtain ⟨a1, a2, a3, a4, -⟩ := hS
  obtain ⟨r1, r2⟩ := a4 m hm
  intro w hw
  match w, hw with
  | 0, _ => exact c_motion_0 hrf hm
  | 1, _ => exact c_motion_1 hrf a2 a1 a3 hm r1 r2
  | 2, _ => exact c_motion_2 hrf hm
  | 3, _ => exact c_motion_3 hrf hm
  | 4, _ => exact c_motion_4 hrf hm
  | 5, _ => exact c_motion_5 hrf hm
  | 6, _ => exact c_motion_6 hrf hm
  | 7, _ => exact c_motion_7 hrf hm
  | 8, _ => exact c_motion_8 hrf a2 a1 a3 hm r1 r2
  | 9, _ => exact c_motion_9 hrf a2 a1 a3 hm r1 r2
  | 10, _ => exact c_motion_10 hrf a2 a1 a3 hm r1 r2
  | 11, _ => exact c_motion_11 hrf a2 a1 a3 hm r1 r2
  | 12, _ => exact c_motion_12 hrf hm
  | n + 13, h => exact absurd h (by omega)
theorem s_key (hrf : RFok rf) (hS : StC ρ) {k : Nat} (hk : k < 6) : PC 49 [.ref 1, .int (nI k)] (HP sl ρ rf) (some (.int (keyV ρ k))) (HP sl ρ rf) := by
  obtain ⟨a1, a2, -⟩ := hS
  exact c_key_ok hrf a2 a1 hk
theorem s_why (hrf : RFok rf) (hS : StC ρ) {m : Nat} (hm : m < 6) : PC 57 [.ref 1, .int (nI m)] (HP sl ρ rf) (some (.int (whyV ρ m))) (HP sl ρ rf) := by
  obtain ⟨a1, a2, a3, a4, -⟩ := hS
  exact c_why_ok hrf a2 a1 a3 hm (a4 m hm).1 (a4 m hm).2
theorem s_nee (hrf : RFok rf) (hS : StC ρ) {m : Nat} (hm : m < 6) : PC 63 [.ref 1, .int (nI m)] (HP sl ρ rf) (some (.int (neeV ρ m))) (HP sl ρ rf) := by
  obtain ⟨a1, a2, a3, a4, -⟩ := hS
  obtain ⟨r1, r2⟩ := a4 m hm
  unfold neeV
  by_cases e : rcO ρ m = 0
  · rw [if_pos e]
    exact c_needed_nf hrf hm (by rw [r1, e])
  · rw [if_neg e]
    exact c_needed_ok hrf a2 a1 a3 hm r1 r2 (by omega)
/-- the law's `state` answers a number of the present state's cells and changes nothing -/
theorem m_state (hrf : RFok rf) (hS : StC ρ) : PC 98 [.ref 1] (HP sl ρ rf) (some (.long (sL ρ))) (HP sl ρ rf) := by
  have a1 : nOf ρ ≤ 16 := hS.1
  have lD : ∀ j, j ≤ 6 → PW p_c_L_state 60 [some (.ref 1), some (.long (fN (fD ρ) (fN (fC ρ) (fN (fB ρ) (fN (fA ρ) (Int64.ofNat 3) 14) (12 * nOf ρ)) 78) j)), none, some (.int (nI j))] [] (HP sl ρ rf) (fun zz => zz = (some (.long (sL ρ)), HP sl ρ rf)) := by
    refine down ?_ ?_
    · refine R_ld3 rfl ?_
      refine R_n 6 rfl rfl ?_
      refine N2_geT rfl (by omega) (by omega) (by omega) ?_
      refine R_ll1 rfl ?_
      exact R_lret rfl (rfl)
    · intro j hj hnext
      refine R_ld3 rfl ?_
      refine R_n 6 rfl rfl ?_
      refine N2_geF rfl (by omega) (by omega) (hj) ?_
      refine R_ll1 rfl ?_
      refine R_la0 rfl ?_
      refine R_ld3 rfl ?_
      refine R_c4 rfl (s_key hrf hS hj) rfl rfl rfl sh_1 rfl rfl ?_
      refine R_i2l rfl ?_
      refine R_c3 rfl (m_mixed _ _) rfl rfl rfl ?_
      refine R_la0 rfl ?_
      refine R_ld3 rfl ?_
      refine R_c4 rfl (s_why hrf hS hj) rfl rfl rfl sh_1 rfl rfl ?_
      refine R_i2l rfl ?_
      refine R_c3 rfl (m_mixed _ _) rfl rfl rfl ?_
      refine R_la0 rfl ?_
      refine R_ld3 rfl ?_
      refine R_c4 rfl (s_nee hrf hS hj) rfl rfl rfl sh_1 rfl rfl ?_
      refine R_i2l rfl ?_
      refine R_c3 rfl (m_mixed _ _) rfl rfl rfl ?_
      refine R_ls1 rfl ?_
      refine R_in3 rfl rfl ?_
      refine R_goto rfl ?_
      exact hnext
  have lC : ∀ j, j ≤ 78 → PW p_c_L_state 41 [some (.ref 1), some (.long (fN (fC ρ) (fN (fB ρ) (fN (fA ρ) (Int64.ofNat 3) 14) (12 * nOf ρ)) j)), none, some (.int (nI j))] [] (HP sl ρ rf) (fun zz => zz = (some (.long (sL ρ)), HP sl ρ rf)) := by
    refine down ?_ ?_
    · refine R_ld3 rfl ?_
      refine R_n 78 rfl rfl ?_
      refine N2_geT rfl (by omega) (by omega) (by omega) ?_
      refine R_n 0 rfl rfl ?_
      refine R_st3 rfl ?_
      exact lD 0 (Nat.zero_le _)
    · intro j hj hnext
      refine R_ld3 rfl ?_
      refine R_n 78 rfl rfl ?_
      refine N2_geF rfl (by omega) (by omega) (hj) ?_
      refine R_ll1 rfl ?_
      refine R_la0 rfl ?_
      refine R_ld3 rfl ?_
      refine R_n 13 rfl rfl ?_
      refine R_divN rfl (by omega) (by omega) (by omega) ?_
      refine R_ld3 rfl ?_
      refine R_n 13 rfl rfl ?_
      refine R_remN rfl (by omega) (by omega) (by omega) ?_
      refine R_c4 rfl (s_mot hrf hS (by omega) (by omega)) rfl rfl rfl sh_1 rfl rfl ?_
      refine R_i2l rfl ?_
      refine R_c3 rfl (m_mixed _ _) rfl rfl rfl ?_
      refine R_ls1 rfl ?_
      refine R_in3 rfl rfl ?_
      refine R_goto rfl ?_
      exact hnext
  have lB : ∀ j, j ≤ 12 * nOf ρ → PW p_c_L_state 18 [some (.ref 1), some (.long (fN (fB ρ) (fN (fA ρ) (Int64.ofNat 3) 14) j)), none, some (.int (nI j))] [] (HP sl ρ rf) (fun zz => zz = (some (.long (sL ρ)), HP sl ρ rf)) := by
    refine down ?_ ?_
    · refine R_ld3 rfl ?_
      refine R_n 12 rfl rfl ?_
      refine R_la0 rfl ?_
      refine R_n 0 rfl rfl ?_
      refine R_c1 rfl (s_cnt hrf hS (w := 0) (by decide)) rfl rfl rfl sh_1 rfl rfl ?_
      refine R_mulN rfl ?_
      refine N2_geT rfl (by omega) (by omega) (by omega) ?_
      refine R_n 0 rfl rfl ?_
      refine R_st3 rfl ?_
      exact lC 0 (Nat.zero_le _)
    · intro j hj hnext
      refine R_ld3 rfl ?_
      refine R_n 12 rfl rfl ?_
      refine R_la0 rfl ?_
      refine R_n 0 rfl rfl ?_
      refine R_c1 rfl (s_cnt hrf hS (w := 0) (by decide)) rfl rfl rfl sh_1 rfl rfl ?_
      refine R_mulN rfl ?_
      refine N2_geF rfl (by omega) (by omega) (hj) ?_
      refine R_ll1 rfl ?_
      refine R_la0 rfl ?_
      refine R_ld3 rfl ?_
      refine R_n 12 rfl rfl ?_
      refine R_divN rfl (by omega) (by omega) (by omega) ?_
      refine R_ld3 rfl ?_
      refine R_n 12 rfl rfl ?_
      refine R_remN rfl (by omega) (by omega) (by omega) ?_
      refine R_c4 rfl (s_inf hrf hS (by omega) (by omega)) rfl rfl rfl sh_1 rfl rfl ?_
      refine R_i2l rfl ?_
      refine R_c3 rfl (m_mixed _ _) rfl rfl rfl ?_
      refine R_ls1 rfl ?_
      refine R_in3 rfl rfl ?_
      refine R_goto rfl ?_
      exact hnext
  have lA : ∀ j, j ≤ 14 → PW p_c_L_state 4 [some (.ref 1), some (.long (fN (fA ρ) (Int64.ofNat 3) j)), none, some (.int (nI j))] [] (HP sl ρ rf) (fun zz => zz = (some (.long (sL ρ)), HP sl ρ rf)) := by
    refine down ?_ ?_
    · refine R_ld3 rfl ?_
      refine R_n 14 rfl rfl ?_
      refine N2_geT rfl (by omega) (by omega) (by omega) ?_
      refine R_n 0 rfl rfl ?_
      refine R_st3 rfl ?_
      exact lB 0 (Nat.zero_le _)
    · intro j hj hnext
      refine R_ld3 rfl ?_
      refine R_n 14 rfl rfl ?_
      refine N2_geF rfl (by omega) (by omega) (hj) ?_
      refine R_ll1 rfl ?_
      refine R_la0 rfl ?_
      refine R_ld3 rfl ?_
      refine R_c4 rfl (s_cnt hrf hS hj) rfl rfl rfl sh_1 rfl rfl ?_
      refine R_i2l rfl ?_
      refine R_c3 rfl (m_mixed _ _) rfl rfl rfl ?_
      refine R_ls1 rfl ?_
      refine R_in3 rfl rfl ?_
      refine R_goto rfl ?_
      exact hnext
  refine PC_of (cd := p_c_L_state) (L0 := [some (.ref 1), none, none, none]) rfl rfl ?_
  refine R_lc 3 rfl ?_
  refine R_ls1 rfl ?_
  refine R_n 0 rfl rfl ?_
  refine R_st3 rfl ?_
  exact lA 0 (Nat.zero_le _)
end
