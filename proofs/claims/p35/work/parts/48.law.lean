/-! the law's end: restore, the undos; then the law whole -/
section
variable {sl : pS} {ρ : pR} {rf : pF} {Q : Option Value × pH → Prop}
/-- behind j undos of the end -/
def U3 (sl : pS) (ρ : pR) (rf : pF) (ch j : Nat) : Prop := ∃ h, CI sl ρ rf h (4 - j) ∧ ∀ d, d < 4 - j → d + j ≤ ch → hL ρ h (4 - j) d = p_l (rf 436 (ch - (d + j)))
set_option maxRecDepth 20000 in
theorem end_y (hQ : ∀ (ρ : pR) (rf : pF), Q (some (.int 1), HP sl ρ rf)) {k ch : Nat} {kept : Int64} {w7 w8 w9 w10 : Option Value} : PW p_c_L_law 407 [some (.ref 0), some (.ref 1), some (.ref 436), some (.int (nI ch)), some (.long kept), none, some (.int (nI k)), w7, w8, w9, w10] [] (HP sl ρ rf) Q := by
  refine R_n 1 rfl rfl ?_
  refine R_goto rfl ?_
  exact R_zret1 rfl (hQ _ _)
set_option maxRecDepth 20000 in
theorem end_4 (hQ : ∀ (ρ : pR) (rf : pF), Q (some (.int 1), HP sl ρ rf)) {k ch : Nat} {kept : Int64} (hch : ch ≤ 36) (hz : ch < 3 ∨ ∃ h, CI sl ρ rf h 0) {w7 w8 w9 w10 : Option Value} : PW p_c_L_law 400 [some (.ref 0), some (.ref 1), some (.ref 436), some (.int (nI ch)), some (.long kept), none, some (.int (nI k)), w7, w8, w9, w10] [] (HP sl ρ rf) Q := by
  rcases hz with hz | ⟨h, hC⟩
  · refine R_ld3 rfl ?_
    refine R_n 3 rfl rfl ?_
    refine N2_ltT rfl (by omega) (by omega) (hz) ?_
    exact end_y hQ
  · refine R_ld3 rfl ?_
    refine R_n 3 rfl rfl ?_
    refine N2_lt rfl (by omega) (by omega) (fun _ => end_y hQ) (fun _ => ?_)
    refine R_la1 rfl ?_
    refine R_c1 rfl (c_undo_np hC.1 hC.2.2.2.2.2.1) rfl rfl rfl sh_1 rfl rfl ?_
    refine R_i rfl ?_
    refine B2_neF rfl (rfl) ?_
    exact end_y hQ
set_option maxRecDepth 20000 in
theorem lpD (hLen : sl.1 ≤ 260) (hW : (SH sl)[436]? = some (12, 40)) (hQ : ∀ (ρ : pR) (rf : pF), Q (some (.int 1), HP sl ρ rf)) {ch : Nat} {kept : Int64} (hch : ch ≤ 36) (hU : U3 sl ρ rf ch 1) {w7 w8 w9 w10 : Option Value} : PW p_c_L_law 375 [some (.ref 0), some (.ref 1), some (.ref 436), some (.int (nI ch)), some (.long kept), none, some (.int (nI 1)), w7, w8, w9, w10] [] (HP sl ρ rf) Q := by
  have hl : ∀ j, j ≤ 4 → 1 ≤ j → ∀ (ρ : pR), U3 sl ρ rf ch j → PW p_c_L_law 375 [some (.ref 0), some (.ref 1), some (.ref 436), some (.int (nI ch)), some (.long kept), none, some (.int (nI j)), w7, w8, w9, w10] [] (HP sl ρ rf) Q := by
    refine down ?_ ?_
    · intro _ ρ hU
      obtain ⟨h, hC, hh⟩ := hU
      refine R_ld6 rfl ?_
      refine R_n 3 rfl rfl ?_
      refine N2_gtT rfl (by omega) (by omega) (by decide) ?_
      exact end_4 hQ hch (Or.inr ⟨h, hC⟩)
    · intro j hj hnext j1 ρ hU
      obtain ⟨h, hC, hh⟩ := hU
      have hC' : CI sl ρ rf h (3 - j + 1) := by rw [show 3 - j + 1 = 4 - j by omega]; exact hC
      obtain ⟨ρ1, p1, p2, p3, p4, p5⟩ := a_undo hC'
      have hrf := p2.1
      have hS := p2.2.1
      rw [show 3 - j + 1 = 4 - j by omega] at p3 p4
      refine R_ld6 rfl ?_
      refine R_n 3 rfl rfl ?_
      refine N2_gtF rfl (by omega) (by omega) (by omega) ?_
      refine R_ld6 rfl ?_
      refine R_ld3 rfl ?_
      refine N2_gt rfl (by omega) (by omega) (fun hlt => end_4 hQ hch (Or.inl (by omega))) (fun hle => ?_)
      have e0 : sL ρ1 = p_l (rf 436 (ch - j)) := by
        rw [p3, hh 0 (by omega) (by omega), Nat.zero_add]
      refine R_la1 rfl ?_
      refine R_c1 rfl (p1) rfl rfl rfl sh_1 rfl rfl ?_
      refine R_n 3 rfl rfl ?_
      refine R_ld6 rfl ?_
      refine R_subN rfl (by omega) ?_
      refine N2_neF rfl (by omega) (by omega) (rfl) ?_
      refine R_la1 rfl ?_
      refine R_c0 rfl (m_state hrf hS) rfl rfl rfl ?_
      refine R_la2 rfl ?_
      refine R_ld3 rfl ?_
      refine R_ld6 rfl ?_
      refine R_subN rfl (by omega) ?_
      refine R_lald rfl hW (by decide) (by omega) rfl ?_
      refine R_lcmp rfl ?_
      refine B1_eqT rfl (by rw [e0]; exact lg_cmp_self _) ?_
      refine R_in6 rfl rfl ?_
      refine R_goto rfl ?_
      exact hnext (by omega) ρ1 ⟨h, by rw [show 4 - (j + 1) = 3 - j by omega]; exact p2, fun d d1 d2 => by rw [show 4 - (j + 1) = 3 - j by omega, p4 d (by omega), hh (d + 1) (by omega) (by omega), show d + 1 + j = d + (j + 1) by omega]⟩
  exact hl 1 (by decide) (by decide) ρ hU
set_option maxRecDepth 20000 in
theorem end_3 (hLen : sl.1 ≤ 260) (hW : (SH sl)[436]? = some (12, 40)) (hQ : ∀ (ρ : pR) (rf : pF), Q (some (.int 1), HP sl ρ rf)) {k ch : Nat} {kept : Int64} {h : Nat → Nat} (hch : ch ≤ 36) (hC : CI sl ρ rf h 4) (hh : ∀ d, d < 4 → d ≤ ch → hL ρ h 4 d = p_l (rf 436 (ch - d))) {w7 w8 w9 w10 : Option Value} : PW p_c_L_law 360 [some (.ref 0), some (.ref 1), some (.ref 436), some (.int (nI ch)), some (.long kept), none, some (.int (nI k)), w7, w8, w9, w10] [] (HP sl ρ rf) Q := by
  obtain ⟨ρ1, p1, p2, p3, p4, p5⟩ := a_undo (s := 3) hC
  have hrf := p2.1
  have hS := p2.2.1
  have e0 : sL ρ1 = p_l (rf 436 ch) := by rw [p3]; exact hh 0 (by decide) (Nat.zero_le _)
  refine R_la1 rfl ?_
  refine R_c1 rfl (p1) rfl rfl rfl sh_1 rfl rfl ?_
  refine R_n 3 rfl rfl ?_
  refine N2_neF rfl (by omega) (by omega) (by decide) ?_
  refine R_la1 rfl ?_
  refine R_c0 rfl (m_state hrf hS) rfl rfl rfl ?_
  refine R_la2 rfl ?_
  refine R_ld3 rfl ?_
  refine R_lald rfl hW (by decide) (by omega) rfl ?_
  refine R_lcmp rfl ?_
  refine B1_eqT rfl (by rw [e0]; exact lg_cmp_self _) ?_
  refine R_n 1 rfl rfl ?_
  refine R_st6 rfl ?_
  exact lpD hLen hW hQ hch ⟨h, p2, fun d d1 d2 => by rw [p4 d (by omega)]; exact hh (d + 1) (by omega) (by omega)⟩
set_option maxRecDepth 20000 in
theorem end_2 (hLen : sl.1 ≤ 260) (hW : (SH sl)[436]? = some (12, 40)) (hQ : ∀ (ρ : pR) (rf : pF), Q (some (.int 1), HP sl ρ rf)) {k ch : Nat} {kept : Int64} (hJ : J3 sl ρ rf 36 ch kept) {w7 w8 w9 w10 : Option Value} : PW p_c_L_law 320 [some (.ref 0), some (.ref 1), some (.ref 436), some (.int (nI ch)), some (.long kept), none, some (.int (nI k)), w7, w8, w9, w10] [] (HP sl ρ rf) Q := by
  obtain ⟨h, hC, hch, hpast, -, hsn⟩ := hJ
  obtain ⟨s1, s2, s3⟩ := hsn (by decide)
  have hrf := hC.1
  have hS := hC.2.1
  obtain ⟨C1, hh⟩ := CI_mv (sl' := sl) (ρ' := ρ) (rf' := q2 rf 436 ch (some (sL ρ).toUInt64.toNat)) hC (fun k hk => ⟨rfl, q2_ne (by omega)⟩) hC.2.2.1
  have hwr : p_l (q2 rf 436 ch (some (sL ρ).toUInt64.toNat) 436 ch) = sL ρ := by
    rw [q2_at, va_up_self]
    exact p_l_nat _
  have hpast1 : ∀ d, d < 4 → d < ch → hL ρ h 4 d = p_l (q2 rf 436 ch (some (sL ρ).toUInt64.toNat) 436 (ch - 1 - d)) := fun d d1 d2 => by
    rw [q2_at, va_up_ne _ _ (by omega)]
    exact hpast d d1 d2
  obtain ⟨ρ', rf', h', q1, q2', q3⟩ := a_rest C1 s1 s2
  obtain ⟨C2, g2, g3, g4, g5, g6, g7⟩ := q2'
  have hrf2 := C2.1
  have hS2 := C2.2.1
  have hp4 : ρ' 1 2 = nI 4 := C2.2.2.2.2.2.1
  have e436 := g6 436 (by decide)
  have hh2 : ∀ d, d < 4 → d ≤ ch → hL ρ' h' 4 d = p_l (rf' 436 (ch - d)) := fun d d1 d2 => by
    rw [e436]
    cases d with
    | zero =>
      rw [Nat.sub_zero, hwr]
      exact g2
    | succ d =>
      rw [show ch - (d + 1) = ch - 1 - d by omega, ← hpast1 d (by omega) (by omega)]
      exact g3 d d1
  have ek : sL ρ' = kept := q3.trans s3
  refine R_la1 rfl ?_
  refine R_c0 rfl (m_refused hrf hS) rfl rfl rfl ?_
  refine B1_neT rfl (by decide) ?_
  refine R_la2 rfl ?_
  refine R_ld3 rfl ?_
  refine R_la1 rfl ?_
  refine R_c0 rfl (m_state hrf hS) rfl rfl rfl ?_
  refine R_last rfl hW (by decide) (by omega) ?_
  refine R_la1 rfl ?_
  refine R_n 0 rfl rfl ?_
  refine R_c1 rfl (c_rest_np0 C1.1 (by rw [s1]; exact snap_v.2.2.2.1)) rfl rfl rfl sh_1 rfl rfl ?_
  refine R_i rfl ?_
  refine B2_neF rfl (rfl) ?_
  refine R_la1 rfl ?_
  refine R_n 1 rfl rfl ?_
  refine R_c1 rfl (q1) rfl rfl rfl sh_1 rfl rfl ?_
  refine R_la1 rfl ?_
  refine R_n 8 rfl rfl ?_
  refine R_c1 rfl (c_count_8 hrf2) rfl rfl rfl sh_1 rfl rfl ?_
  refine B2_neF rfl (rfl) ?_
  refine R_la1 rfl ?_
  refine R_c0 rfl (m_state hrf2 hS2) rfl rfl rfl ?_
  refine R_ll4 rfl ?_
  refine R_lcmp rfl ?_
  refine B1_neF rfl (by rw [ek]; exact lg_cmp_self _) ?_
  refine R_la1 rfl ?_
  refine R_n 14 rfl rfl ?_
  refine R_c1 rfl (c_count_14 hrf2) rfl rfl rfl sh_1 rfl rfl ?_
  refine R_ld3 rfl ?_
  refine B1_le rfl (fun h351 => ?_) (fun h351 => ?_)
  · refine R_la1 rfl ?_
    refine R_n 14 rfl rfl ?_
    refine R_c1 rfl (c_count_14 hrf2) rfl rfl rfl sh_1 rfl rfl ?_
    refine B2_eqT rfl (rfl) ?_
    exact end_3 hLen hW hQ hch C2 hh2
  · refine R_n 4 rfl rfl ?_
    refine R_goto rfl ?_
    refine B2_eqT rfl (hp4) ?_
    exact end_3 hLen hW hQ hch C2 hh2
end
set_option maxRecDepth 20000 in
theorem slC_sum (L : Nat) : ((SH (slC L)).map fun q => q.2).sum = L + (((SH (slC 0)).tail).map fun q => q.2).sum := rfl
theorem slC_num : (((SH (slC 0)).tail).map fun q => q.2).sum ≤ 100000 ∧ (SH (slC 0)).length = 437 := by decide +kernel
def Qf (x : Option Value × pH) : Prop := ∃ h', x = (some (.int 1), h') ∧ h'.1.length ≤ 600000 ∧ p_sl h' ≤ 7302250
theorem Qf_ok {L : Nat} (hL : L ≤ 260) (ρ : pR) (rf : pF) : Qf (some (.int 1), HP (slC L) ρ rf) := by
  refine ⟨_, rfl, ?_, ?_⟩
  · show (SH (slC L)).length ≤ 600000
    rw [← slC_eq, List.length_append, slB_len]
    decide
  · show ((SH (slC L)).map fun q => q.2).sum ≤ 7302250
    rw [slC_sum]
    have := slC_num.1
    omega
/-- from the longs' row on -/
theorem law_3 {L : Nat} (hL : L ≤ 260) {ρ : pR} {rf : pF} {h : Nat → Nat} (hC : CI (slB L) ρ rf h 4) (hs : ρ 1 4 = 0) {v w : Option Value} : PW p_c_L_law 160 (some (.ref 0) :: some (.ref 1) :: v :: w :: [none, none, none, none, none, none, none]) [] (HP (slB L) ρ rf) Qf := by
  have hLen : (slC L).1 ≤ 260 := hL
  have hW := slC_W L
  have hJ : J3 (slC L) (z2 ρ 436) (n2 rf 436) 0 0 (Int64.ofNat 0) := ⟨h, arr_CI hC, Nat.le_refl _, fun d d1 d2 => absurd d2 (by omega), fun _ => hs, fun e => absurd e (by omega)⟩
  refine R_n 40 rfl rfl ?_
  refine new_arr rfl ?_
  refine R_sa2 rfl ?_
  refine R_n 0 rfl rfl ?_
  refine R_st3 rfl ?_
  refine R_lc 0 rfl ?_
  refine R_ls4 rfl ?_
  refine R_n 0 rfl rfl ?_
  refine R_st6 rfl ?_
  exact lpC hLen hW hJ fun ρ' rf' ch kept w7 w8 w9 w10 hJ => end_2 hLen hW (fun ρ rf => Qf_ok hL ρ rf) hJ
/-- from the first loop on -/
theorem law_2 {L : Nat} (hL : L ≤ 260) {ρ : pR} {rf : pF} (hJ : J1 (slB L) ρ rf 0) {w : Option Value} : PW p_c_L_law 15 (some (.ref 0) :: some (.ref 1) :: some (.int (nI 0)) :: w :: [none, none, none, none, none, none, none]) [] (HP (slB L) ρ rf) Qf := by
  have hLen : (slB L).1 ≤ 260 := hL
  exact lpA hLen hJ fun ρ1 rf1 w1 h1 => chk1 h1 (lpB hLen (J2_0 h1) fun ρ2 rf2 w2 h2 => chk2 h2 fun ρ3 rf3 h3 c3 s3 => law_3 hL c3 s3)
theorem p_claim_ok : p_claim := by
  intro L xs hL
  suffices hw : PW p_c_L_law 0 (p_ent 105 [.ref 0]) [] (p_h0 L xs) Qf by
    obtain ⟨n, r, h1, h', rfl, h2, h3⟩ := hw
    exact ⟨n, h', h1, h2, h3⟩
  obtain ⟨ρ, rf, i1, i2, i3, i4, i5, i6⟩ := ini_ok L xs
  have hrf := i2.1
  have hS := i2.2.1
  obtain ⟨h2, t1, t2, t3⟩ := tx_run (h0 := HP (L, []) ρ rf) (SH_len L [])
  have e2 : h2.1 = SH (L, SHB) := by rw [t2]; exact SH_app L [] SHB
  obtain ⟨h3, k1, k2, k3⟩ := kn_run (h0 := h2) (by rw [e2, SH_len]; rfl)
  have e3 : h3.1 = SH (slB L) := by rw [k2, e2]; exact SH_app L SHB SHB
  have hc3 := PC_cln k1 (PC_cln t1 i2.2.2.1)
  obtain ⟨sh3, ρ3, rf3⟩ := h3
  have e3 : sh3 = SH (slB L) := e3
  subst e3
  have ag : ∀ k, k < 146 → ρ3 k = ρ k ∧ rf3 k = rf k := fun k hk => by
    have a1 := t3 k hk
    have a2 := k3 k (by omega)
    exact ⟨a2.1.trans a1.1, a2.2.trans a1.2⟩
  have hC3 := (CI_mv (sl' := slB L) i2 ag hc3).1
  have hJ : J1 (slB L) ρ3 rf3 0 := ⟨_, hC3, by unfold nOf; rw [(ag 3 (by decide)).1]; exact i3, by rw [(ag 12 (by decide)).1]; exact i4, fun m hm => by unfold rcO; rw [(ag 14 (by decide)).1]; exact i5 m hm, by rw [(ag 1 (by decide)).1]; exact i6⟩
  refine PW_op (L' := p_ent 105 [.ref 0]) (S' := [.ref 1]) (h' := ([(10, L), (4, 6)], z2 (p_h0 L xs).2.1 1, n2 (p_h0 L xs).2.2 1)) (o := 21) (a := 4) (b := 0) (z := 0) (t := [14]) rfl (by decide) rfl ?_
  refine R_dupR rfl ?_
  refine PW_call (a := 41) (args := [.ref 1]) rfl i1 rfl rfl rfl rfl ?_
  show PW p_c_L_law 3 [some (.ref 0), none, none, none, none, none, none, none, none, none, none] [.ref 1] (HP (L, []) ρ rf) Qf
  refine R_sa1 rfl ?_
  refine R_la1 rfl ?_
  refine R_c0 rfl (m_refused hrf hS) rfl rfl rfl ?_
  refine B1_eqF rfl (by decide) ?_
  refine PW_call (a := 103) (args := []) rfl t1 rfl rfl rfl rfl ?_
  refine B1_eqF rfl (by decide) ?_
  refine PW_call (a := 104) (args := []) rfl k1 rfl rfl rfl rfl ?_
  refine B1_neT rfl (by decide) ?_
  refine R_n 0 rfl rfl ?_
  refine R_st2 rfl ?_
  exact law_2 hL hJ
