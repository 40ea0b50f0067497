/-! the law's first two loops, and what stands between them and the third -/
def J1 (sl : pS) (ρ : pR) (rf : pF) (k : Nat) : Prop := ∃ h, CI sl ρ rf h (min k 4) ∧ nOf ρ = k ∧ ρ 12 0 = 0 ∧ (∀ m, m < 6 → rcO ρ m = 0) ∧ ρ 1 4 = 0
def J2 (sl : pS) (ρ : pR) (rf : pF) (k : Nat) : Prop := ∃ h, CI sl ρ rf h 4 ∧ nOf ρ = 16 ∧ ρ 12 0 = 0 ∧ (∀ m, m < 6 → rcO ρ m = k / 6 + if m < k % 6 then 1 else 0) ∧ (∀ j, j < rcO ρ 0 → ∃ w, w < 65536 ∧ ρ 13 j = nI w) ∧ ρ 1 4 = 0
theorem mp_min (k : Nat) : mp (min k 4) = min (k + 1) 4 := by
  unfold mp
  split <;> omega
theorem J1_next {sl : pS} {ρ ρ' : pR} {rf rf' : pF} {h h' : Nat → Nat} {k : Nat} (h12 : ρ 12 0 = 0) (h14 : ∀ m, m < 6 → rcO ρ m = 0) (hs : ρ 1 4 = 0) (q2 : Aft sl ρ rf h (min k 4) ρ' rf' h') (q3 : nOf ρ' = k + 1) (q4 : ρ' 12 = ρ 12) (q5 : ρ' 14 = ρ 14) : J1 sl ρ' rf' (k + 1) := by
  obtain ⟨g1, g2, g3, g4, g5, g6, g7⟩ := q2
  rw [mp_min] at g1
  exact ⟨h', g1, q3, by rw [q4]; exact h12, fun m hm => by unfold rcO; rw [q5]; exact h14 m hm, by rw [g5 4 (by decide)]; exact hs⟩
theorem y_ok {q j : Nat} (h : q < j + 1) (hj : j < 100) : nI q - nI 1 = -1 ∨ inR j (nI q - nI 1) = true := by
  by_cases e : q = 0
  · subst e
    exact Or.inl (by decide)
  · rw [pk_sub (by omega)]
    exact Or.inr (inR_N (by omega) (by omega))
theorem se_ok {q : Nat} (h : q < 60) : ¬ nI q < 0 ∧ nI q ≤ nI 5000 := ⟨nI_pos (by omega), nI_le (by omega) (by decide)⟩
theorem or_M {f : Nat → Int32} : ∀ {n : Nat}, (∀ j, j < n → ∃ w, w < 65536 ∧ f j = nI w) → ∃ c, orA f (fun _ => true) n = M c
  | 0, _ => ⟨fun _ => false, M_0.symm⟩
  | n + 1, h => by
    obtain ⟨c, hc⟩ := or_M (n := n) fun j hj => h j (by omega)
    obtain ⟨w, hw, e⟩ := h n (by omega)
    rw [orA_t (s := fun _ => true) rfl, hc, e, M_of hw, M_or]
    exact ⟨_, rfl⟩
theorem M_all : M (fun _ => true) = nI 65535 ∧ bcI (nI 65535) = nI 16 := by decide +kernel
section
variable {sl : pS} {ρ : pR} {rf : pF} {Q : Option Value × pH → Prop} {T : pL}
theorem lp1_step (hL : sl.1 ≤ 260) {k : Nat} (hk : k < 16) (hJ : J1 sl ρ rf k) {w : Option Value} (next : ∀ (ρ' : pR) (rf' : pF) (w : Option Value), J1 sl ρ' rf' (k + 1) → PW p_c_L_law 15 (some (.ref 0) :: some (.ref 1) :: some (.int (nI (k + 1))) :: w :: T) [] (HP sl ρ' rf') Q) : PW p_c_L_law 15 (some (.ref 0) :: some (.ref 1) :: some (.int (nI k)) :: w :: T) [] (HP sl ρ rf) Q := by
  obtain ⟨h, hC, hn, h12, h14, hs⟩ := hJ
  obtain ⟨x, hx⟩ := m_take (ρ := ρ) (rf := rf) hL (k := k) (by omega)
  refine R_ld2 rfl ?_
  refine R_n 16 rfl rfl ?_
  refine N2_geF rfl (by omega) (by omega) (hk) ?_
  refine R_la0 rfl ?_
  refine R_ld2 rfl ?_
  refine R_c0 rfl (hx) rfl rfl rfl ?_
  refine R_st3 rfl ?_
  refine R_ld2 rfl ?_
  refine R_n 4 rfl rfl ?_
  refine R_remN rfl (by omega) (by omega) (by omega) ?_
  refine R_n 3 rfl rfl ?_
  refine N2_ne rfl (by omega) (by omega) (fun h26 => ?_) (fun h26 => ?_)
  · refine R_la1 rfl ?_
    refine R_ld3 rfl ?_
    refine R_n 3 rfl rfl ?_
    refine R_c0 rfl (m_part _ (by omega) (by omega)) rfl rfl rfl ?_
    refine B1_ne rfl (fun h46 => ?_) (fun h46 => ?_)
    · refine R_ld3 rfl ?_
      refine R_n 4 rfl rfl ?_
      refine R_shr rfl ?_
      refine R_n 60 rfl rfl ?_
      refine R_c0 rfl (m_part _ (by omega) (by omega)) rfl rfl rfl ?_
      obtain ⟨ρ', rf', h', q1, q2, q3, q4, q5⟩ := a_sensor hC hn hk _ (se_ok (pt_lt _ (show 0 < 60 by decide))).1 (se_ok (pt_lt _ (show 0 < 60 by decide))).2
      refine R_c1 rfl q1 rfl rfl rfl sh_1 rfl rfl ?_
      refine R_ld2 rfl ?_
      refine N2_eqT rfl (by omega) (by omega) (rfl) ?_
      refine R_in2 rfl rfl ?_
      refine R_goto rfl ?_
      exact next _ _ _ (J1_next h12 h14 hs q2 q3 q4 q5)
    · refine R_n 0 rfl rfl ?_
      refine R_goto rfl ?_
      obtain ⟨ρ', rf', h', q1, q2, q3, q4, q5⟩ := a_sensor hC hn hk _ (se_ok (show 0 < 60 by decide)).1 (se_ok (show 0 < 60 by decide)).2
      refine R_c1 rfl q1 rfl rfl rfl sh_1 rfl rfl ?_
      refine R_ld2 rfl ?_
      refine N2_eqT rfl (by omega) (by omega) (rfl) ?_
      refine R_in2 rfl rfl ?_
      refine R_goto rfl ?_
      exact next _ _ _ (J1_next h12 h14 hs q2 q3 q4 q5)
  · refine R_la1 rfl ?_
    refine R_ld3 rfl ?_
    refine R_n 6 rfl rfl ?_
    refine R_c0 rfl (m_part _ (by omega) (by omega)) rfl rfl rfl ?_
    refine R_ld3 rfl ?_
    refine R_n 3 rfl rfl ?_
    refine R_shr rfl ?_
    refine R_ld2 rfl ?_
    refine R_n 1 rfl rfl ?_
    refine R_addN rfl ?_
    refine R_c0 rfl (m_part _ (by omega) (by omega)) rfl rfl rfl ?_
    refine R_n 1 rfl rfl ?_
    refine R_sub rfl ?_
    obtain ⟨ρ', rf', h', q1, q2, q3, q4, q5⟩ := a_lock hC hn hk (pt_lt x (show 0 < 6 by decide)) _ (y_ok (pt_lt _ (show 0 < k + 1 by omega)) (by omega))
    refine R_c1 rfl q1 rfl rfl rfl sh_1 rfl rfl ?_
    refine R_goto rfl ?_
    refine R_ld2 rfl ?_
    refine N2_eqT rfl (by omega) (by omega) (rfl) ?_
    refine R_in2 rfl rfl ?_
    refine R_goto rfl ?_
    exact next _ _ _ (J1_next h12 h14 hs q2 q3 q4 q5)
theorem lpA (hL : sl.1 ≤ 260) (hJ : J1 sl ρ rf 0) {w : Option Value} (next : ∀ (ρ' : pR) (rf' : pF) (w : Option Value), J1 sl ρ' rf' 16 → PW p_c_L_law 61 (some (.ref 0) :: some (.ref 1) :: some (.int (nI 16)) :: w :: T) [] (HP sl ρ' rf') Q) : PW p_c_L_law 15 (some (.ref 0) :: some (.ref 1) :: some (.int (nI 0)) :: w :: T) [] (HP sl ρ rf) Q := by
  have hl : ∀ j, j ≤ 16 → ∀ (ρ : pR) (rf : pF) (w : Option Value), J1 sl ρ rf j → PW p_c_L_law 15 (some (.ref 0) :: some (.ref 1) :: some (.int (nI j)) :: w :: T) [] (HP sl ρ rf) Q := by
    refine down ?_ ?_
    · intro ρ rf w hJ
      refine R_ld2 rfl ?_
      refine R_n 16 rfl rfl ?_
      refine N2_geT rfl (by omega) (by omega) (by decide) ?_
      exact next _ _ _ hJ
    · intro j hj hnext ρ rf w hJ
      exact lp1_step hL hj hJ hnext
  exact hl 0 (by decide) _ _ _ hJ
theorem chk1 (hJ : J1 sl ρ rf 16) {v w : Option Value} (next : PW p_c_L_law 90 (some (.ref 0) :: some (.ref 1) :: some (.int (nI 0)) :: w :: T) [] (HP sl ρ rf) Q) : PW p_c_L_law 61 (some (.ref 0) :: some (.ref 1) :: v :: w :: T) [] (HP sl ρ rf) Q := by
  obtain ⟨h, hC, hn, h12, h14, hs⟩ := hJ
  have hrf := hC.1
  have hS := hC.2.1
  have a2 : ρ 3 0 = nI 16 := by rw [← hn]; exact hS.2.1
  refine R_la1 rfl ?_
  refine R_n 0 rfl rfl ?_
  refine R_c1 rfl (c_sensor_full hrf a2 (nI 0) (by decide) (by decide +kernel)) rfl rfl rfl sh_1 rfl rfl ?_
  refine R_i rfl ?_
  refine B2_neF rfl (rfl) ?_
  refine R_la1 rfl ?_
  refine R_i rfl ?_
  refine R_c1 rfl (c_sensor_bad (-1) (Or.inl (by decide))) rfl rfl rfl sh_1 rfl rfl ?_
  refine R_i rfl ?_
  refine B2_neF rfl (rfl) ?_
  refine R_la1 rfl ?_
  refine R_n 0 rfl rfl ?_
  refine R_n 16 rfl rfl ?_
  refine R_c1 rfl (c_lock_bad hrf a2 (by decide) (nI 0) (nI 16) (Or.inr ⟨by decide, by decide +kernel⟩)) rfl rfl rfl sh_1 rfl rfl ?_
  refine R_i rfl ?_
  refine B2_neF rfl (rfl) ?_
  refine R_la1 rfl ?_
  refine R_n 0 rfl rfl ?_
  refine R_n 15 rfl rfl ?_
  refine R_c1 rfl (c_lock_full hrf a2 rfl (k := 0) (by decide) (nI 15) (Or.inr (by decide +kernel))) rfl rfl rfl sh_1 rfl rfl ?_
  refine R_i rfl ?_
  refine B2_neF rfl (rfl) ?_
  refine R_la1 rfl ?_
  refine R_c0 rfl (m_refused hrf hS) rfl rfl rfl ?_
  refine B1_neT rfl (by decide) ?_
  refine R_n 0 rfl rfl ?_
  refine R_st2 rfl ?_
  exact next
theorem J2_0 (hJ : J1 sl ρ rf 16) : J2 sl ρ rf 0 := by
  obtain ⟨h, hC, hn, h12, h14, hs⟩ := hJ
  refine ⟨h, hC, hn, h12, fun m hm => ?_, fun j hj => ?_, hs⟩
  · rw [h14 m hm, if_neg (by omega)]
  · rw [h14 0 (by decide)] at hj
    exact absurd hj (by omega)
theorem J2_next {ρ' : pR} {rf' : pF} {h h' : Nat → Nat} {k x : Nat} (hx : x < 65536) (hrc : ∀ m, m < 6 → rcO ρ m = k / 6 + if m < k % 6 then 1 else 0) (hro : ∀ j, j < rcO ρ 0 → ∃ w, w < 65536 ∧ ρ 13 j = nI w) (h12 : ρ 12 0 = 0) (hs : ρ 1 4 = 0) (q2 : Aft sl ρ rf h 4 ρ' rf' h') (q3 : nOf ρ' = 16) (q4 : ρ' 12 = ρ 12) (q5 : ∀ q, q < 6 → rcO ρ' q = if q = k % 6 then k / 6 + 1 else rcO ρ q) (q6 : ρ' 13 = upd (ρ 13) (k % 6 * 4 + k / 6) (nI x)) : J2 sl ρ' rf' (k + 1) := by
  obtain ⟨g1, g2, g3, g4, g5, g6, g7⟩ := q2
  refine ⟨h', g1, q3, by rw [q4]; exact h12, fun m hm => ?_, fun j hj => ?_, by rw [g5 4 (by decide)]; exact hs⟩
  · rw [q5 m hm, hrc m hm]
    by_cases e : k % 6 = 5
    · rw [show (k + 1) / 6 = k / 6 + 1 by omega, show (k + 1) % 6 = 0 by omega, if_neg (Nat.not_lt_zero m)]
      by_cases e2 : m = k % 6
      · rw [if_pos e2]
      · rw [if_neg e2, if_pos (by omega)]
    · rw [show (k + 1) / 6 = k / 6 by omega, show (k + 1) % 6 = k % 6 + 1 by omega]
      by_cases e2 : m = k % 6
      · rw [if_pos e2, if_pos (by omega)]
      · rw [if_neg e2]
        by_cases e3 : m < k % 6
        · rw [if_pos e3, if_pos (by omega)]
        · rw [if_neg e3, if_neg (by omega)]
  · rw [q6]
    by_cases e : j = k % 6 * 4 + k / 6
    · subst e
      exact ⟨x, hx, up_eq⟩
    · rw [up_ne e]
      refine hro j ?_
      rw [q5 0 (by decide)] at hj
      by_cases e2 : 0 = k % 6
      · rw [if_pos e2] at hj
        rw [hrc 0 (by decide), if_neg (by omega)]
        omega
      · rw [if_neg e2] at hj
        exact hj
theorem lp2_step (hL : sl.1 ≤ 260) {k : Nat} (hk : k < 18) (hJ : J2 sl ρ rf k) {w : Option Value} (next : ∀ (ρ' : pR) (rf' : pF) (w : Option Value), J2 sl ρ' rf' (k + 1) → PW p_c_L_law 90 (some (.ref 0) :: some (.ref 1) :: some (.int (nI (k + 1))) :: w :: T) [] (HP sl ρ' rf') Q) : PW p_c_L_law 90 (some (.ref 0) :: some (.ref 1) :: some (.int (nI k)) :: w :: T) [] (HP sl ρ rf) Q := by
  obtain ⟨h, hC, hn, h12, hrc, hro, hs⟩ := hJ
  obtain ⟨x, hx⟩ := m_take (ρ := ρ) (rf := rf) hL (k := 20 + k) (by omega)
  have hpt := pt_lt x (show 0 < 65535 by decide)
  obtain ⟨ρ', rf', h', q1, q2, q3, q4, q5, q6⟩ := a_row hC hn h12 (m := k % 6) (r := k / 6) (w := 1 + pt x 65535) (by omega) (by rw [hrc _ (by omega), if_neg (Nat.lt_irrefl _)]; rfl) (by omega) (by omega) (by omega)
  refine R_ld2 rfl ?_
  refine R_n 18 rfl rfl ?_
  refine N2_geF rfl (by omega) (by omega) (hk) ?_
  refine R_la1 rfl ?_
  refine R_ld2 rfl ?_
  refine R_n 6 rfl rfl ?_
  refine R_remN rfl (by omega) (by omega) (by omega) ?_
  refine R_n 1 rfl rfl ?_
  refine R_la0 rfl ?_
  refine R_n 20 rfl rfl ?_
  refine R_ld2 rfl ?_
  refine R_addN rfl ?_
  refine R_c0 rfl (hx) rfl rfl rfl ?_
  refine R_n 65535 rfl rfl ?_
  refine R_c0 rfl (m_part _ (by omega) (by omega)) rfl rfl rfl ?_
  refine R_addN rfl ?_
  refine R_c1 rfl (q1) rfl rfl rfl sh_1 rfl rfl ?_
  refine R_st3 rfl ?_
  refine R_ld3 rfl ?_
  refine R_n 1 rfl rfl ?_
  refine R_ld2 rfl ?_
  refine R_n 6 rfl rfl ?_
  refine R_divN rfl (by omega) (by omega) (by omega) ?_
  refine R_addN rfl ?_
  refine N2_eqT rfl (by omega) (by omega) (by omega) ?_
  refine R_in2 rfl rfl ?_
  refine R_goto rfl ?_
  exact next _ _ _ (J2_next (by omega) hrc hro h12 hs q2 q3 q4 q5 q6)
theorem lpB (hL : sl.1 ≤ 260) (hJ : J2 sl ρ rf 0) {w : Option Value} (next : ∀ (ρ' : pR) (rf' : pF) (w : Option Value), J2 sl ρ' rf' 18 → PW p_c_L_law 119 (some (.ref 0) :: some (.ref 1) :: some (.int (nI 18)) :: w :: T) [] (HP sl ρ' rf') Q) : PW p_c_L_law 90 (some (.ref 0) :: some (.ref 1) :: some (.int (nI 0)) :: w :: T) [] (HP sl ρ rf) Q := by
  have hl : ∀ j, j ≤ 18 → ∀ (ρ : pR) (rf : pF) (w : Option Value), J2 sl ρ rf j → PW p_c_L_law 90 (some (.ref 0) :: some (.ref 1) :: some (.int (nI j)) :: w :: T) [] (HP sl ρ rf) Q := by
    refine down ?_ ?_
    · intro ρ rf w hJ
      refine R_ld2 rfl ?_
      refine R_n 18 rfl rfl ?_
      refine N2_geT rfl (by omega) (by omega) (by decide) ?_
      exact next _ _ _ hJ
    · intro j hj hnext ρ rf w hJ
      exact lp2_step hL hj hJ hnext
  exact hl 0 (by decide) _ _ _ hJ
theorem chk2 (hJ : J2 sl ρ rf 18) {v w : Option Value} (next : ∀ (ρ' : pR) (rf' : pF) (h' : Nat → Nat), CI sl ρ' rf' h' 4 → ρ' 1 4 = 0 → PW p_c_L_law 160 (some (.ref 0) :: some (.ref 1) :: v :: w :: T) [] (HP sl ρ' rf') Q) : PW p_c_L_law 119 (some (.ref 0) :: some (.ref 1) :: v :: w :: T) [] (HP sl ρ rf) Q := by
  obtain ⟨h, hC, hn, h12, hrc, hro, hs⟩ := hJ
  have hr3 : rcO ρ 0 = 3 := by rw [hrc 0 (by decide)]; rfl
  obtain ⟨ρ1, rf1, h1, p1, p2, p3, p4, p5, p6⟩ := a_row hC hn h12 (m := 0) (r := 3) (w := 65535) (by decide) hr3 (by decide) (by decide) (by decide)
  obtain ⟨C1, -, -, -, S1, -, -⟩ := p2
  have r4 : rcO ρ1 0 = 4 := by rw [p5 0 (by decide), if_pos rfl]
  have e14 : ρ1 14 0 = nI 4 := by rw [← r4]; exact (C1.2.1.2.2.2.1 0 (by decide)).1
  have n1 : ρ1 3 0 = nI 16 := by rw [← p3]; exact C1.2.1.2.1
  have z1 : ρ1 12 0 = 0 := by rw [p4]; exact h12
  have hor : bcI (orA (rw0 ρ1 0) (fun _ => true) 4) = nI 16 := by
    have e3 : rw0 ρ1 0 3 = nI 65535 := by
      show ρ1 13 (0 * 4 + 3) = _
      rw [p6]
      exact up_eq
    obtain ⟨c, hc⟩ := or_M (f := rw0 ρ1 0) (n := 3) fun j hj => by
      obtain ⟨w, w1, w2⟩ := hro j (by omega)
      refine ⟨w, w1, ?_⟩
      show ρ1 13 (0 * 4 + j) = _
      rw [p6, up_ne (by omega), show 0 * 4 + j = j by omega]
      exact w2
    rw [orA_t (s := fun _ => true) (j := 3) rfl, hc, e3, ← M_all.1, M_or]
    rw [show (fun i => c i || true) = fun _ => true by funext i; cases c i <;> rfl, M_all.1]
    exact M_all.2
  obtain ⟨ρ2, rf2, h2, d1, d2, d3, d4, d5⟩ := a_drop C1 p3 z1 (m := 0) (r := 4) (by decide) r4
  obtain ⟨C2, -, -, -, S2, -, -⟩ := d2
  obtain ⟨ρ3, rf3, h3, u1, u2, u3, u4, u5, u6⟩ := a_row C2 d3 (by rw [d4]; exact z1) (m := 0) (r := 0) (w := 1) (by decide) (by rw [d5 0 (by decide), if_pos rfl]) (by decide) (by decide) (by decide)
  obtain ⟨C3, -, -, -, S3, -, -⟩ := u2
  refine R_la1 rfl ?_
  refine R_n 0 rfl rfl ?_
  refine R_n 65535 rfl rfl ?_
  refine R_c1 rfl (p1) rfl rfl rfl sh_1 rfl rfl ?_
  refine R_n 4 rfl rfl ?_
  refine N2_neF rfl (by omega) (by omega) (by decide) ?_
  refine R_la1 rfl ?_
  refine R_n 0 rfl rfl ?_
  refine R_n 1 rfl rfl ?_
  refine R_c1 rfl (c_row_full C1.1 n1 (by decide) (m := 0) (by decide) (nI 1) (by decide) (row_in (by decide)) (by rw [z1]; exact b_0 0) e14) rfl rfl rfl sh_1 rfl rfl ?_
  refine R_i rfl ?_
  refine B2_neF rfl (rfl) ?_
  refine R_la1 rfl ?_
  refine R_n 0 rfl rfl ?_
  refine R_n 65536 rfl rfl ?_
  refine R_c1 rfl (c_row_bad C1.1 n1 (by decide) (nI 0) (nI 65536) (Or.inr (Or.inr (by decide +kernel)))) rfl rfl rfl sh_1 rfl rfl ?_
  refine R_i rfl ?_
  refine B2_neF rfl (rfl) ?_
  refine R_la1 rfl ?_
  refine R_n 0 rfl rfl ?_
  refine R_c1 rfl (c_ways_full C1.1 (m := 0) (by decide) e14 (by decide) (p := 16) hor (by decide) (by decide)) rfl rfl rfl sh_1 rfl rfl ?_
  refine R_i rfl ?_
  refine B2_neF rfl (rfl) ?_
  refine R_la1 rfl ?_
  refine R_n 0 rfl rfl ?_
  refine R_c1 rfl (c_wag_full C1.1 (m := 0) (by decide) e14 (by decide) (p := 16) hor (by decide) (by decide)) rfl rfl rfl sh_1 rfl rfl ?_
  refine R_i rfl ?_
  refine B2_neF rfl (rfl) ?_
  refine R_la1 rfl ?_
  refine R_n 0 rfl rfl ?_
  refine R_c1 rfl (d1) rfl rfl rfl sh_1 rfl rfl ?_
  refine R_n 4 rfl rfl ?_
  refine N2_neF rfl (by omega) (by omega) (by decide) ?_
  refine R_la1 rfl ?_
  refine R_n 0 rfl rfl ?_
  refine R_n 1 rfl rfl ?_
  refine R_c1 rfl (u1) rfl rfl rfl sh_1 rfl rfl ?_
  refine R_n 1 rfl rfl ?_
  refine N2_eqT rfl (by omega) (by omega) (by decide) ?_
  exact next _ _ _ C3 (by rw [S3 4 (by decide), S2 4 (by decide), S1 4 (by decide)]; exact hs)
end
