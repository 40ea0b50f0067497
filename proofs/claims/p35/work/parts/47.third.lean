/-! the row of longs, and the law's third loop -/
theorem RL_lt : ∀ q ∈ RL_, q.1 < 146 := by decide +kernel
theorem CI_mv {sl sl' : pS} {ρ ρ' : pR} {rf rf' : pF} {h : Nat → Nat} {p : Nat} (hC : CI sl ρ rf h p) (hk : ∀ k, k < 146 → ρ' k = ρ k ∧ rf' k = rf k) (hc : Cln (HP sl' ρ' rf')) : CI sl' ρ' rf' h p ∧ ∀ d, d < p → hL ρ' h p d = hL ρ h p d := by
  obtain ⟨f1, f2, f3, f4, f5, f6, f7⟩ := hC
  have hr : ∀ i, i < 4 → h i = 23 ∨ h i = 43 ∨ h i = 63 ∨ h i = 83 := fun i hi => (f4.1 i hi).2
  have hvw : ∀ i, i < 4 → Eq3 (vw ρ (h i)) (vw ρ' (h i)) := fun i hi => Eq3_vw (by have := hr i hi; omega) fun k k1 k2 => (hk k (by have := hr i hi; omega)).1
  refine ⟨⟨fun q hq => by rw [(hk _ (RL_lt q hq)).2]; exact f1 q hq, StC_c (fun k k1 k2 => (hk k (by omega)).1) f2, hc, ⟨fun i hi => by rw [(hk 22 (by decide)).2]; exact f4.1 i hi, f4.2⟩, f5, by rw [(hk 1 (by decide)).1]; exact f6, fun i hi => StC_c (hvw i (by omega)) (f7 i hi)⟩, fun d hd => sL_c (hvw _ (by omega))⟩
def slB (L : Nat) : pS := (L, SHB ++ SHB)
def slC (L : Nat) : pS := (L, SHB ++ SHB ++ [(12, 40)])
theorem SHB_len : (SHB ++ SHB).length = 290 := by decide +kernel
set_option maxRecDepth 20000 in
theorem SH_len (L : Nat) (t : List (Nat × Nat)) : (SH (L, t)).length = t.length + 146 := rfl
set_option maxRecDepth 20000 in
theorem SH_app (L : Nat) (t u : List (Nat × Nat)) : SH (L, t) ++ u = SH (L, t ++ u) := rfl
theorem slB_len (L : Nat) : (SH (slB L)).length = 436 := by
  show (SH (L, SHB ++ SHB)).length = 436
  rw [SH_len, SHB_len]
theorem slC_eq (L : Nat) : SH (slB L) ++ [(12, 40)] = SH (slC L) := SH_app L (SHB ++ SHB) [(12, 40)]
theorem slC_W (L : Nat) : (SH (slC L))[436]? = some (12, 40) := by
  rw [← slC_eq, List.getElem?_append_right (by rw [slB_len]; exact Nat.le_refl _), slB_len]
  rfl
theorem new_arr {cd : List pI} {i L : Nat} {z : Int32} {t : List Nat} {Lc : pL} {S : List Value} {Q : Option Value × pH → Prop} {ρ : pR} {rf : pF} (hc : cd[i]? = some (22, 12, 0, z, t)) (kk : PW cd (i + 1) Lc (.ref 436 :: S) (HP (slC L) (z2 ρ 436) (n2 rf 436)) Q) : PW cd i Lc (.int (nI 40) :: S) (HP (slB L) ρ rf) Q := PW_op hc (by decide) (by
  simp only [p_op, o22]
  rw [slB_len, if_pos ⟨by decide, by decide, by decide, Or.inr (Or.inr trivial)⟩, show (nI 40).toNatClampNeg = 40 from rfl, slC_eq]) kk
theorem arr_CI {L : Nat} {ρ : pR} {rf : pF} {h : Nat → Nat} (hC : CI (slB L) ρ rf h 4) : CI (slC L) (z2 ρ 436) (n2 rf 436) h 4 := by
  have hc : Cln (SH (slB L) ++ [(12, 40)], z2 ρ (SH (slB L)).length, n2 rf 436) := Cln_new hC.2.2.1
  rw [slC_eq, slB_len] at hc
  exact (CI_mv hC (fun k hk => ⟨if_neg (by omega), if_neg (by omega)⟩) hc).1
def J3 (sl : pS) (ρ : pR) (rf : pF) (k ch : Nat) (kept : Int64) : Prop := ∃ h, CI sl ρ rf h 4 ∧ ch ≤ k ∧ (∀ d, d < 4 → d < ch → hL ρ h 4 d = p_l (rf 436 (ch - 1 - d))) ∧ (k ≤ 9 → ρ 1 4 = 0) ∧ (9 < k → ρ 1 4 = nI 2 ∧ StC (vw ρ 124) ∧ sL (vw ρ 124) = kept)
/-- in the loop, behind the writing of the number of the present state -/
def M3 (sl : pS) (ρ : pR) (rf : pF) (k ch : Nat) (kept : Int64) (h : Nat → Nat) : Prop := CI sl ρ rf h 4 ∧ ch ≤ k ∧ (∀ d, d < 4 → d < ch → hL ρ h 4 d = p_l (rf 436 (ch - 1 - d))) ∧ p_l (rf 436 ch) = sL ρ ∧ (k + 1 ≤ 9 → ρ 1 4 = 0) ∧ (9 < k + 1 → ρ 1 4 = nI 2 ∧ StC (vw ρ 124) ∧ sL (vw ρ 124) = kept)
theorem M3_no {sl : pS} {ρ : pR} {rf : pF} {k ch : Nat} {kept : Int64} {h : Nat → Nat} (hM : M3 sl ρ rf k ch kept h) : J3 sl ρ rf (k + 1) ch kept := ⟨h, hM.1, by have := hM.2.1; omega, hM.2.2.1, hM.2.2.2.2.1, hM.2.2.2.2.2⟩
theorem M3_yes {sl : pS} {ρ ρ' : pR} {rf rf' : pF} {k ch : Nat} {kept : Int64} {h h' : Nat → Nat} (hM : M3 sl ρ rf k ch kept h) (hA : Aft sl ρ rf h 4 ρ' rf' h') : J3 sl ρ' rf' (k + 1) (ch + 1) kept := by
  obtain ⟨m1, m2, m3, m4, m5, m6⟩ := hM
  obtain ⟨g1, g2, g3, g4, g5, g6, g7⟩ := hA
  have e436 : rf' 436 = rf 436 := g6 436 (by decide)
  refine ⟨h', g1, by omega, fun d d1 d2 => ?_, fun hk => by rw [g5 4 (by decide)]; exact m5 hk, fun hk => ?_⟩
  · rw [e436]
    cases d with
    | zero =>
      rw [show ch + 1 - 1 - 0 = ch by omega, m4]
      exact g2
    | succ d =>
      rw [show ch + 1 - 1 - (d + 1) = ch - 1 - d by omega, ← m3 d (by omega) (by omega)]
      exact g3 d d1
  · obtain ⟨n1, n2, n3⟩ := m6 hk
    have hE : Eq3 (vw ρ 124) (vw ρ' 124) := Eq3_vw (by decide) fun k k1 k2 => g4 k (by omega)
    exact ⟨by rw [g5 4 (by decide)]; exact n1, StC_c hE n2, by rw [sL_c hE]; exact n3⟩
section
variable {sl : pS} {ρ : pR} {rf : pF} {Q : Option Value × pH → Prop}
set_option maxRecDepth 20000 in
theorem lp3_a (hLen : sl.1 ≤ 260) (hW : (SH sl)[436]? = some (12, 40)) {k ch : Nat} (hk : k < 36) {kept : Int64} (hJ : J3 sl ρ rf k ch kept) {w7 w8 w9 w10 : Option Value} (next : ∀ (ρ' : pR) (rf' : pF) (h : Nat → Nat) (kept : Int64) (x : Int32) (i kd : Nat), M3 sl ρ' rf' k ch kept h → i < 16 → kd < 9 → PW p_c_L_law 212 [some (.ref 0), some (.ref 1), some (.ref 436), some (.int (nI ch)), some (.long kept), none, some (.int (nI k)), some (.int x), some (.int (nI i)), some (.int (nI kd)), w10] [] (HP sl ρ' rf') Q) : PW p_c_L_law 169 [some (.ref 0), some (.ref 1), some (.ref 436), some (.int (nI ch)), some (.long kept), none, some (.int (nI k)), w7, w8, w9, w10] [] (HP sl ρ rf) Q := by
  obtain ⟨h, hC, hck, hpast, hsn0, hsn1⟩ := hJ
  obtain ⟨x, hx⟩ := m_take (ρ := ρ) (rf := rf) hLen (k := 40 + k) (by omega)
  have hrf := hC.1
  have hS := hC.2.1
  have hi := pt_lt (x >>> (nI 3 &&& 31)) (show 0 < 16 by decide)
  have hkd := pt_lt x (show 0 < 9 by decide)
  obtain ⟨C1, hh⟩ := CI_mv (sl' := sl) (ρ' := ρ) (rf' := q2 rf 436 ch (some (sL ρ).toUInt64.toNat)) hC (fun k hk => ⟨rfl, q2_ne (by omega)⟩) hC.2.2.1
  have hwr : p_l (q2 rf 436 ch (some (sL ρ).toUInt64.toNat) 436 ch) = sL ρ := by
    rw [q2_at, va_up_self]
    exact p_l_nat _
  have hpast1 : ∀ d, d < 4 → d < ch → hL ρ h 4 d = p_l (q2 rf 436 ch (some (sL ρ).toUInt64.toNat) 436 (ch - 1 - d)) := fun d d1 d2 => by
    rw [q2_at, va_up_ne _ _ (by omega)]
    exact hpast d d1 d2
  refine R_ld6 rfl ?_
  refine R_n 36 rfl rfl ?_
  refine N2_geF rfl (by omega) (by omega) (hk) ?_
  refine R_la0 rfl ?_
  refine R_n 40 rfl rfl ?_
  refine R_ld6 rfl ?_
  refine R_addN rfl ?_
  refine R_c0 rfl (hx) rfl rfl rfl ?_
  refine R_st7 rfl ?_
  refine R_ld7 rfl ?_
  refine R_n 3 rfl rfl ?_
  refine R_shr rfl ?_
  refine R_n 16 rfl rfl ?_
  refine R_c0 rfl (m_part _ (by decide) (by decide)) rfl rfl rfl ?_
  refine R_st8 rfl ?_
  refine R_ld7 rfl ?_
  refine R_n 9 rfl rfl ?_
  refine R_c0 rfl (m_part _ (by decide) (by decide)) rfl rfl rfl ?_
  refine R_st9 rfl ?_
  refine R_la2 rfl ?_
  refine R_ld3 rfl ?_
  refine R_la1 rfl ?_
  refine R_c0 rfl (m_state hrf hS) rfl rfl rfl ?_
  refine R_last rfl hW (by decide) (by omega) ?_
  refine R_ld6 rfl ?_
  refine R_n 9 rfl rfl ?_
  refine N2_ne rfl (by omega) (by omega) (fun h195 => ?_) (fun h195 => ?_)
  · exact next _ _ _ _ _ _ _ ⟨C1, hck, hpast1, hwr, fun e => hsn0 (by omega), fun e => hsn1 (by omega)⟩ hi hkd
  · refine R_la2 rfl ?_
    refine R_ld3 rfl ?_
    refine R_lald rfl hW (by decide) (by omega) hwr ?_
    refine R_ls4 rfl ?_
    refine R_la1 rfl ?_
    refine R_n 1 rfl rfl ?_
    obtain ⟨ρ1, p1, p2, p3, p4, p5, p6, p7, p8⟩ := a_snap C1 (hsn0 (by omega))
    refine R_c1 rfl p1 rfl rfl rfl sh_1 rfl rfl ?_
    refine R_n 1 rfl rfl ?_
    refine N2_neF rfl (by omega) (by omega) (rfl) ?_
    refine R_la1 rfl ?_
    refine R_n 16 rfl rfl ?_
    refine R_c1 rfl (c_count_16 p2.1) rfl rfl rfl sh_1 rfl rfl ?_
    refine R_n 1 rfl rfl ?_
    refine B2_eqT rfl (by rw [p5]; exact snap_v.2.2.1) ?_
    exact next _ _ _ _ _ _ _ ⟨p2, hck, fun d d1 d2 => by rw [p4 d d1]; exact hpast1 d d1 d2, by rw [sL_c p3]; exact hwr, fun e => by omega, fun e => ⟨p5, p7, p6⟩⟩ hi hkd
set_option maxRecDepth 20000 in
theorem lp3_b {k ch i kd : Nat} {x : Int32} {kept : Int64} {h : Nat → Nat} (hi : i < 16) (hkd : kd < 9) (hC : CI sl ρ rf h 4) {w10 : Option Value} (nx1 : ∀ v : Int32, v < 0 → PW p_c_L_law 292 [some (.ref 0), some (.ref 1), some (.ref 436), some (.int (nI ch)), some (.long kept), none, some (.int (nI k)), some (.int x), some (.int (nI i)), some (.int (nI kd)), w10] [.int v] (HP sl ρ rf) Q) (nx2 : ∀ (v : Int32) (ρ' : pR) (rf' : pF) (h' : Nat → Nat), ¬ v < 0 → Aft sl ρ rf h 4 ρ' rf' h' → PW p_c_L_law 292 [some (.ref 0), some (.ref 1), some (.ref 436), some (.int (nI ch)), some (.long kept), none, some (.int (nI k)), some (.int x), some (.int (nI i)), some (.int (nI kd)), w10] [.int v] (HP sl ρ' rf') Q) : PW p_c_L_law 212 [some (.ref 0), some (.ref 1), some (.ref 436), some (.int (nI ch)), some (.long kept), none, some (.int (nI k)), some (.int x), some (.int (nI i)), some (.int (nI kd)), w10] [] (HP sl ρ rf) Q := by
  refine R_ld9 rfl ?_
  refine R_n 3 rfl rfl ?_
  refine N2_ge rfl (by omega) (by omega) (fun h214 => ?_) (fun h214 => ?_)
  · refine R_ld9 rfl ?_
    refine R_n 3 rfl rfl ?_
    refine N2_ne rfl (by omega) (by omega) (fun h230 => ?_) (fun h230 => ?_)
    · refine R_ld9 rfl ?_
      refine R_n 4 rfl rfl ?_
      refine N2_ne rfl (by omega) (by omega) (fun h244 => ?_) (fun h244 => ?_)
      · refine R_ld9 rfl ?_
        refine R_n 5 rfl rfl ?_
        refine N2_ne rfl (by omega) (by omega) (fun h257 => ?_) (fun h257 => ?_)
        · refine R_ld9 rfl ?_
          refine R_n 6 rfl rfl ?_
          refine N2_ne rfl (by omega) (by omega) (fun h268 => ?_) (fun h268 => ?_)
          · refine R_ld9 rfl ?_
            refine R_n 7 rfl rfl ?_
            refine N2_ne rfl (by omega) (by omega) (fun h275 => ?_) (fun h275 => ?_)
            · refine R_la1 rfl ?_
              refine R_ld7 rfl ?_
              refine R_n 7 rfl rfl ?_
              refine R_shr rfl ?_
              refine R_n 6 rfl rfl ?_
              refine R_c0 rfl (m_part _ (by decide) (by decide)) rfl rfl rfl ?_
              rcases r_reset hC (nI (pt (x >>> (nI 7 &&& 31)) 6)) with ⟨v, v1, v2⟩ | ⟨v, ρ', rf', h', v1, v2, v3⟩
              · refine R_c1 rfl v2 rfl rfl rfl sh_1 rfl rfl ?_
                exact nx1 v v1
              · refine R_c1 rfl v2 rfl rfl rfl sh_1 rfl rfl ?_
                exact nx2 v ρ' rf' h' v1 v3
            · refine R_la1 rfl ?_
              refine R_ld7 rfl ?_
              refine R_n 7 rfl rfl ?_
              refine R_shr rfl ?_
              refine R_n 6 rfl rfl ?_
              refine R_c0 rfl (m_part _ (by decide) (by decide)) rfl rfl rfl ?_
              refine R_ld8 rfl ?_
              rcases r_keyIn hC (nI (pt (x >>> (nI 7 &&& 31)) 6)) (nI i) with ⟨v, v1, v2⟩ | ⟨v, ρ', rf', h', v1, v2, v3⟩
              · refine R_c1 rfl v2 rfl rfl rfl sh_1 rfl rfl ?_
                refine R_goto rfl ?_
                exact nx1 v v1
              · refine R_c1 rfl v2 rfl rfl rfl sh_1 rfl rfl ?_
                refine R_goto rfl ?_
                exact nx2 v ρ' rf' h' v1 v3
          · refine R_la1 rfl ?_
            refine R_ld8 rfl ?_
            rcases r_test hC (nI i) with ⟨v, v1, v2⟩ | ⟨v, ρ', rf', h', v1, v2, v3⟩
            · refine R_c1 rfl v2 rfl rfl rfl sh_1 rfl rfl ?_
              refine R_goto rfl ?_
              exact nx1 v v1
            · refine R_c1 rfl v2 rfl rfl rfl sh_1 rfl rfl ?_
              refine R_goto rfl ?_
              exact nx2 v ρ' rf' h' v1 v3
        · refine R_la1 rfl ?_
          refine R_ld7 rfl ?_
          refine R_n 7 rfl rfl ?_
          refine R_shr rfl ?_
          refine R_n 6 rfl rfl ?_
          refine R_c0 rfl (m_part _ (by decide) (by decide)) rfl rfl rfl ?_
          rcases r_start hC (nI (pt (x >>> (nI 7 &&& 31)) 6)) with ⟨v, v1, v2⟩ | ⟨v, ρ', rf', h', v1, v2, v3⟩
          · refine R_c1 rfl v2 rfl rfl rfl sh_1 rfl rfl ?_
            refine R_goto rfl ?_
            exact nx1 v v1
          · refine R_c1 rfl v2 rfl rfl rfl sh_1 rfl rfl ?_
            refine R_goto rfl ?_
            exact nx2 v ρ' rf' h' v1 v3
      · refine R_la1 rfl ?_
        refine R_n 1 rfl rfl ?_
        refine R_ld7 rfl ?_
        refine R_n 7 rfl rfl ?_
        refine R_shr rfl ?_
        refine R_n 20 rfl rfl ?_
        refine R_c0 rfl (m_part _ (by decide) (by decide)) rfl rfl rfl ?_
        refine R_addN rfl ?_
        rcases r_run hC (nI (1 + pt (x >>> (nI 7 &&& 31)) 20)) with ⟨v, v1, v2⟩ | ⟨v, ρ', rf', h', v1, v2, v3⟩
        · refine R_c1 rfl v2 rfl rfl rfl sh_1 rfl rfl ?_
          refine R_goto rfl ?_
          exact nx1 v v1
        · refine R_c1 rfl v2 rfl rfl rfl sh_1 rfl rfl ?_
          refine R_goto rfl ?_
          exact nx2 v ρ' rf' h' v1 v3
    · refine R_la1 rfl ?_
      refine R_ld8 rfl ?_
      refine R_n 1 rfl rfl ?_
      refine R_ld7 rfl ?_
      refine R_n 7 rfl rfl ?_
      refine R_shr rfl ?_
      refine R_n 40 rfl rfl ?_
      refine R_c0 rfl (m_part _ (by decide) (by decide)) rfl rfl rfl ?_
      refine R_addN rfl ?_
      rcases r_bridge hC (nI i) (nI (1 + pt (x >>> (nI 7 &&& 31)) 40)) with ⟨v, v1, v2⟩ | ⟨v, ρ', rf', h', v1, v2, v3⟩
      · refine R_c1 rfl v2 rfl rfl rfl sh_1 rfl rfl ?_
        refine R_goto rfl ?_
        exact nx1 v v1
      · refine R_c1 rfl v2 rfl rfl rfl sh_1 rfl rfl ?_
        refine R_goto rfl ?_
        exact nx2 v ρ' rf' h' v1 v3
  · refine R_la1 rfl ?_
    refine R_ld8 rfl ?_
    refine R_ld7 rfl ?_
    refine R_n 8 rfl rfl ?_
    refine R_shr rfl ?_
    refine R_n 4 rfl rfl ?_
    refine R_c0 rfl (m_part _ (by decide) (by decide)) rfl rfl rfl ?_
    refine B1_ne rfl (fun h222 => ?_) (fun h222 => ?_)
    · refine R_n 1 rfl rfl ?_
      rcases r_input hC (nI i) (nI 1) with ⟨v, v1, v2⟩ | ⟨v, ρ', rf', h', v1, v2, v3⟩
      · refine R_c1 rfl v2 rfl rfl rfl sh_1 rfl rfl ?_
        refine R_goto rfl ?_
        exact nx1 v v1
      · refine R_c1 rfl v2 rfl rfl rfl sh_1 rfl rfl ?_
        refine R_goto rfl ?_
        exact nx2 v ρ' rf' h' v1 v3
    · refine R_n 0 rfl rfl ?_
      refine R_goto rfl ?_
      rcases r_input hC (nI i) (nI 0) with ⟨v, v1, v2⟩ | ⟨v, ρ', rf', h', v1, v2, v3⟩
      · refine R_c1 rfl v2 rfl rfl rfl sh_1 rfl rfl ?_
        refine R_goto rfl ?_
        exact nx1 v v1
      · refine R_c1 rfl v2 rfl rfl rfl sh_1 rfl rfl ?_
        refine R_goto rfl ?_
        exact nx2 v ρ' rf' h' v1 v3
set_option maxRecDepth 20000 in
theorem lp3_n (hLen : sl.1 ≤ 260) (hW : (SH sl)[436]? = some (12, 40)) {k ch : Nat} (hk : k < 36) {kept : Int64} {h : Nat → Nat} (hM : M3 sl ρ rf k ch kept h) {v : Int32} (hv : v < 0) {w7 w8 w9 w10 : Option Value} (next : ∀ w7 w8 w9 w10 : Option Value, J3 sl ρ rf (k + 1) ch kept → PW p_c_L_law 169 [some (.ref 0), some (.ref 1), some (.ref 436), some (.int (nI ch)), some (.long kept), none, some (.int (nI (k + 1))), w7, w8, w9, w10] [] (HP sl ρ rf) Q) : PW p_c_L_law 292 [some (.ref 0), some (.ref 1), some (.ref 436), some (.int (nI ch)), some (.long kept), none, some (.int (nI k)), w7, w8, w9, w10] [.int v] (HP sl ρ rf) Q := by
  have hrf := hM.1.1
  have hS := hM.1.2.1
  have hck := hM.2.1
  refine R_st10 rfl ?_
  refine R_ld3 rfl ?_
  refine R_ld10 rfl ?_
  refine B1_ltT rfl (hv) ?_
  refine R_n 0 rfl rfl ?_
  refine R_addN rfl ?_
  refine R_st3 rfl ?_
  refine R_ld10 rfl ?_
  refine B1_geF rfl (Int32.not_le.mpr hv) ?_
  refine R_la1 rfl ?_
  refine R_c0 rfl (m_state hrf hS) rfl rfl rfl ?_
  refine R_la2 rfl ?_
  refine R_ld3 rfl ?_
  refine R_lald rfl hW (by decide) (by omega) hM.2.2.2.1 ?_
  refine R_lcmp rfl ?_
  refine B1_neF rfl (lg_cmp_self _) ?_
  refine R_la1 rfl ?_
  refine R_c0 rfl (m_state hrf hS) rfl rfl rfl ?_
  refine R_la1 rfl ?_
  refine R_c3 rfl (m_state hrf hS) rfl rfl rfl ?_
  refine R_lcmp rfl ?_
  refine B1_eqT rfl (lg_cmp_self _) ?_
  refine R_in6 rfl rfl ?_
  refine R_goto rfl ?_
  exact next _ _ _ _ (M3_no hM)
set_option maxRecDepth 20000 in
theorem lp3_y (hLen : sl.1 ≤ 260) (hW : (SH sl)[436]? = some (12, 40)) {k ch : Nat} (hk : k < 36) {kept : Int64} {h : Nat → Nat} {ρ0 : pR} {rf0 : pF} {h0 : Nat → Nat} (hM : M3 sl ρ0 rf0 k ch kept h0) (hA : Aft sl ρ0 rf0 h0 4 ρ rf h) {v : Int32} (hv : ¬ v < 0) {w7 w8 w9 w10 : Option Value} (next : ∀ w7 w8 w9 w10 : Option Value, J3 sl ρ rf (k + 1) (ch + 1) kept → PW p_c_L_law 169 [some (.ref 0), some (.ref 1), some (.ref 436), some (.int (nI (ch + 1))), some (.long kept), none, some (.int (nI (k + 1))), w7, w8, w9, w10] [] (HP sl ρ rf) Q) : PW p_c_L_law 292 [some (.ref 0), some (.ref 1), some (.ref 436), some (.int (nI ch)), some (.long kept), none, some (.int (nI k)), w7, w8, w9, w10] [.int v] (HP sl ρ rf) Q := by
  have hrf := hA.1.1
  have hS := hA.1.2.1
  have hck := hM.2.1
  refine R_st10 rfl ?_
  refine R_ld3 rfl ?_
  refine R_ld10 rfl ?_
  refine B1_ltF rfl (hv) ?_
  refine R_n 1 rfl rfl ?_
  refine R_goto rfl ?_
  refine R_addN rfl ?_
  refine R_st3 rfl ?_
  refine R_ld10 rfl ?_
  refine B1_geT rfl (Int32.not_lt.mp hv) ?_
  refine R_la1 rfl ?_
  refine R_c0 rfl (m_state hrf hS) rfl rfl rfl ?_
  refine R_la1 rfl ?_
  refine R_c3 rfl (m_state hrf hS) rfl rfl rfl ?_
  refine R_lcmp rfl ?_
  refine B1_eqT rfl (lg_cmp_self _) ?_
  refine R_in6 rfl rfl ?_
  refine R_goto rfl ?_
  exact next _ _ _ _ (M3_yes hM hA)
theorem lp3_step (hLen : sl.1 ≤ 260) (hW : (SH sl)[436]? = some (12, 40)) {k ch : Nat} (hk : k < 36) {kept : Int64} (hJ : J3 sl ρ rf k ch kept) {w7 w8 w9 w10 : Option Value} (next : ∀ (ρ' : pR) (rf' : pF) (ch : Nat) (kept : Int64) (w7 w8 w9 w10 : Option Value), J3 sl ρ' rf' (k + 1) ch kept → PW p_c_L_law 169 [some (.ref 0), some (.ref 1), some (.ref 436), some (.int (nI ch)), some (.long kept), none, some (.int (nI (k + 1))), w7, w8, w9, w10] [] (HP sl ρ' rf') Q) : PW p_c_L_law 169 [some (.ref 0), some (.ref 1), some (.ref 436), some (.int (nI ch)), some (.long kept), none, some (.int (nI k)), w7, w8, w9, w10] [] (HP sl ρ rf) Q := by
  refine lp3_a hLen hW hk hJ fun ρ1 rf1 h1 kept1 x i kd hM hi hkd => ?_
  refine lp3_b hi hkd hM.1 (fun v hv => ?_) (fun v ρ' rf' h' hv hA => ?_)
  · exact lp3_n hLen hW hk hM hv fun w7 w8 w9 w10 hJ => next _ _ _ _ _ _ _ _ hJ
  · exact lp3_y hLen hW hk hM hA hv fun w7 w8 w9 w10 hJ => next _ _ _ _ _ _ _ _ hJ
set_option maxRecDepth 20000 in
theorem lpC (hLen : sl.1 ≤ 260) (hW : (SH sl)[436]? = some (12, 40)) {kept : Int64} (hJ : J3 sl ρ rf 0 0 kept) {w7 w8 w9 w10 : Option Value} (next : ∀ (ρ' : pR) (rf' : pF) (ch : Nat) (kept : Int64) (w7 w8 w9 w10 : Option Value), J3 sl ρ' rf' 36 ch kept → PW p_c_L_law 320 [some (.ref 0), some (.ref 1), some (.ref 436), some (.int (nI ch)), some (.long kept), none, some (.int (nI 36)), w7, w8, w9, w10] [] (HP sl ρ' rf') Q) : PW p_c_L_law 169 [some (.ref 0), some (.ref 1), some (.ref 436), some (.int (nI 0)), some (.long kept), none, some (.int (nI 0)), w7, w8, w9, w10] [] (HP sl ρ rf) Q := by
  have hl : ∀ j, j ≤ 36 → ∀ (ρ : pR) (rf : pF) (ch : Nat) (kept : Int64) (w7 w8 w9 w10 : Option Value), J3 sl ρ rf j ch kept → PW p_c_L_law 169 [some (.ref 0), some (.ref 1), some (.ref 436), some (.int (nI ch)), some (.long kept), none, some (.int (nI j)), w7, w8, w9, w10] [] (HP sl ρ rf) Q := by
    refine down ?_ ?_
    · intro ρ rf ch kept w7 w8 w9 w10 hJ
      refine R_ld6 rfl ?_
      refine R_n 36 rfl rfl ?_
      refine N2_geT rfl (by omega) (by omega) (by decide) ?_
      exact next _ _ _ _ _ _ _ _ hJ
    · intro j hj hnext ρ rf ch kept w7 w8 w9 w10 hJ
      exact lp3_step hLen hW hj hJ hnext
  exact hl 0 (by decide) _ _ _ _ _ _ _ _ hJ
end
