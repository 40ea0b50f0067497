/-! what the pure machine runs, the Java machine runs -/
def p_sl (h : pH) : Nat := (h.1.map fun q => q.2).sum
def p_pu (L : Nat) (xs : Nat → Int32) (h : pH) : Prop := 1 ≤ h.1.length ∧ h.1[0]? = some (10, L) ∧ ∀ j, j < L → h.2.1 0 j = xs j
def p_PC (b B L : Nat) (xs : Nat → Int32) (aC : Nat → ClassId) (D : va_G) (vals : List Value) (h : pH) : Array Value → State → Prop := fun a U => a = (vals.map (p_tv b B)).toArray ∧ p_NW U ∧ va_AO RX2 U ∧ va_X b L xs U U.heap ∧ va_K D p_cl (p_tys aC) U ∧ U.heap.size = B + (h.1.length - 1) ∧ va_P D p_cl (p_ws b B aC h) U.heap
def p_QC (b B L : Nat) (xs : Nat → Int32) (aC : Nat → ClassId) (D : va_G) (r : Option Value) (h' : pH) : Array Value → State → Outcome → State → Prop := fun _ st o t => o = .returned (r.map (p_tv b B)) ∧ p_pu L xs h' ∧ t.heap.size = B + (h'.1.length - 1) ∧ va_P D p_cl (p_ws b B aC h') t.heap ∧ ∀ q, q < st.heap.size → ¬ B ≤ q → t.heap[q]? = st.heap[q]?
def p_Mt (l : Launch) (b B L : Nat) (xs : Nat → Int32) (aC : Nat → ClassId) (D : va_G) (k : Nat) (vals : List Value) (h : pH) (r : Option Value) (h' : pH) : Prop :=
  Met l (p_y k) (Cond.code (p_y k) (p_by k) (p_ml k) (p_rt k) :: p_G) ({ frames := p_fr k, cells := h'.1.length - h.1.length, slots := p_sl h' - p_sl h, locals := p_lo k }) (p_PC b B L xs aC D vals h) (p_QC b B L xs aC D r h') (h'.1.length - h.1.length) (p_sl h' - p_sl h) (fun q => B ≤ q)
theorem p_PC_blind {b B L : Nat} {xs : Nat → Int32} {aC : Nat → ClassId} {D : va_G} {vals : List Value} {h : pH} : FrameBlind (p_PC b B L xs aC D vals h) := fun a U g mk q => by
  obtain ⟨q1, q2, q3, q4, q5, q6, q7⟩ := q
  exact ⟨q1, fun x hx hn => va_Nw.same (u := U) rfl rfl (q2 x hx hn), va_AO.moved (u := U) (U := U.calling g mk a) (Vm.Alike.refl U.vm) q3, q4.moved (u := U) (U := U.calling g mk a) (Vm.Alike.refl U.vm), va_K.moved (u := U) (U := U.calling g mk a) (Vm.Alike.refl U.vm) q5, q6, q7⟩
theorem p_goodIn {l : List Cond} (h : ∀ w ∈ l, w ∈ p_G) : GoodIn p_G l := fun w hw => p_GG w (h w hw)
theorem p_mok_at {k : Nat} (hk : k < 105) : lw_tbl[p_wc k]? = some (.code (p_y k) (p_by k) (p_ml k) (p_rt k)) ∧ (p_kd k = 0 → lw_tbl[p_wi k]? = some (.static (p_y k))) ∧ (p_kd k = 1 → lw_tbl[p_wi k]? = some (.instanceMethod (p_y k)) ∧ lw_tbl[p_wl k]? = some (.selects (p_cn (p_ow k)) (p_y k) (p_y k))) ∧ (p_kd k = 2 → lw_tbl[p_wi k]? = some (.instanceMethod (p_y k)) ∧ (p_y k).name = "<init>" ∧ p_rt k = none) ∧
    (p_y k).cls = p_cn (p_ow k) ∧ ((p_y k).cls ≠ "java/lang/invoke/MethodHandle" ∧ (p_y k).cls ≠ "java/lang/invoke/VarHandle") ∧ (parseMethodDescriptor (p_y k).desc).map (fun d => d.parameters.length) = some (p_na k - (if p_kd k = 0 then 0 else 1)) ∧ plainName (p_y k).cls = true ∧ p_na k ≤ p_ml k ∧ (p_kd k = 0 ∨ 1 ≤ p_na k) ∧ p_ow k < 9 := by
  have h := p_mok_all k hk
  simp only [p_mok, Bool.and_eq_true, decide_eq_true_eq] at h
  obtain ⟨⟨⟨⟨⟨⟨⟨⟨⟨h1, h2⟩, h3⟩, h4⟩, h5⟩, h6⟩, h7⟩, h8⟩, h9⟩, h10⟩ := h
  refine ⟨h1, fun e => ?_, fun e => ?_, fun e => ?_, h3, ⟨h4, h5⟩, h6, h7, h8, h9, h10⟩
  · rw [e] at h2
    exact of_decide_eq_true h2
  · rw [e] at h2
    simp only [Bool.and_eq_true, decide_eq_true_eq] at h2
    exact h2
  · rw [e] at h2
    simp only [Bool.and_eq_true, decide_eq_true_eq] at h2
    exact ⟨h2.1.1, h2.1.2, h2.2⟩
theorem p_inv_spec {k i a y idx kd : Nat} (h : p_inv k i a y idx kd = true) : (Cond.methodLink (p_cn (p_ow k)) idx (p_y a) ∈ p_G ∨ ∃ q ∈ p_ML, q.2.2.2.1 = 1 ∧ (Cond.methodLinkNest (p_cn q.1) q.2.1 (p_y q.2.2.1) "InterlockBoard") = Cond.methodLinkNest (p_cn (p_ow k)) idx (p_y a) "InterlockBoard") ∧ p_kd a = kd ∧ y = p_na a ∧ p_fr a + 1 ≤ p_fr k ∧ 8 + (p_ml a + 11) + p_lo a ≤ p_lo k ∧ a < 105 := by
  simp only [p_inv, Bool.and_eq_true, decide_eq_true_eq, beq_iff_eq] at h
  obtain ⟨⟨⟨⟨⟨h1, h2⟩, h3⟩, h4⟩, h5⟩, h6⟩ := h
  refine ⟨?_, h2, h3, h4, h5, h6⟩
  obtain ⟨q, hq, hq1⟩ := List.any_eq_true.mp h1
  simp only [Bool.and_eq_true, beq_iff_eq] at hq1
  obtain ⟨-, hlk | hlk⟩ := p_ML_ok q hq
  · left
    have h7 := hlk.2
    rw [hq1.1.1, hq1.1.2, hq1.2] at h7
    exact p_Gm h7 rfl
  · right
    exact ⟨q, hq, hlk.1, by rw [hq1.1.1, hq1.1.2, hq1.2]⟩
section
variable {p : Program} {l : Launch} {e : Env} {R : Room} {s : State} {m : MethodId} {args : Array Value} {below : List Frame} {meth : Method} {c : Code} {Q : State → Prop} {k b B L : Nat} {xs : Nat → Int32} {aC : Nat → ClassId} {D : va_G} {cells slots i : Nat}
/-- behind a call -/
theorem p_ran {pc mc ms : Nat} {ls : Array Slot} {H : Heap} {locs : List Loc} {st0 rest : List Value} {r : Option Value} {h' : pH} {a : Array Value}
    (hr : va_Run p l e R s m args below meth c H locs cells slots mc ms (F0 m pc ls st0) rest (p_QC b B L xs aC D r h' a) (fun q => B ≤ q)) (hS : va_S (fun q => B ≤ q) s.heap H locs) (hz : H.size ≤ B + (h'.1.length - 1))
    (kk : ∀ (H1 : Heap) (locs1 : List Loc), p_HI b B L xs aC D s h' H1 locs1 → W p l e R s m args below meth c H1 locs1 (cells + mc) (slots + ms) Q (F0 m (pc + 3) ls ((r.map (p_tv b B)).toList ++ rest))) : W p l e R s m args below meth c H locs cells slots Q (F0 m pc ls st0) := by
  intro T hT X
  obtain ⟨v, st₀, t, T', L', h0, X', hL, e1, e2, ⟨hv, hpu, hsz, hP, hk⟩, st⟩ := hr T hT X
  cases hv
  rw [h0] at hk
  obtain ⟨t2, a1, b1⟩ := kk T'.heap (locs ++ L') ⟨hpu.1, by rw [e1]; exact hsz, hpu.2.1, hpu.2.2, by rw [e1]; exact hP, by
    refine ⟨by rw [e1, hsz]; exact Nat.le_trans hS.1 hz, fun q h1 h2 => ?_, fun q hq => ?_⟩
    · rw [e1, hk q (Nat.lt_of_lt_of_le h1 hS.1) h2]
      exact hS.2.1 q h1 h2
    · rcases List.mem_append.mp hq with h | h
      · exact hS.2.2 q h
      · exact hL q h⟩ T' rfl X'
  exact ⟨t2, st t2 a1, b1⟩
theorem p_PC_at {H : Heap} {locs : List Loc} {vals : List Value} {h : pH} (X : p_CX p R s m args meth c k b B L xs aC D) (hH : p_HI b B L xs aC D s h H locs) (U : State) (hU : U.heap = H) (hW : s.WarmedH U.vm) : p_PC b B L xs aC D vals h (vals.map (p_tv b B)).toArray U := by
  obtain ⟨hx, hb, hr, hml, hown, hts, -, -, hK, hNW, hAO, hX, hbB, hBs, -⟩ := X
  obtain ⟨a1, a2, a3, a4, hP, hS⟩ := hH
  refine ⟨rfl, fun q hq hn => va_Nw.warmM hW (hNW q hq hn), va_AO.moved hW.alike hAO, ?_, va_K.moved hW.alike hK, by rw [hU]; exact a2, by rw [hU]; exact hP⟩
  rw [hU]
  exact (hX.kept (hS.2.1 b (Nat.lt_of_lt_of_le hbB hBs) (Nat.not_le.mpr hbB))).moved hW.alike
theorem s_call3 {o a y : Nat} {z : Int32} {t : List Nat} {Lc : pL} {S : List Value} {h h1 : pH} {r : Option Value} (X : p_CX p R s m args meth c k b B L xs aC D) (hk : p_ck k i o a y z t = true) (ho : ¬ o < 40) (ho2 : o < 43) (hy : y ≤ S.length) (hcs : p_cs (S.drop y) ≤ 8) (hcall : p_call o a (S.take y).reverse h = true)
    (hM : p_Mt l b B L xs aC D a (S.take y).reverse h r h1) (hcl : cells + (h1.1.length - h.1.length) ≤ R.cells) (hsl : slots + (p_sl h1 - p_sl h) ≤ R.slots) (hlen : h.1.length ≤ h1.1.length)
    (kk : p_go p l e R s m args below meth c Q k b B L xs aC D (cells + (h1.1.length - h.1.length)) (slots + (p_sl h1 - p_sl h)) (i + 1) Lc (r.toList ++ S.drop y) h1) : p_go p l e R s m args below meth c Q k b B L xs aC D cells slots i Lc S h := by
  intro ls H locs hL hn hH hz
  have X0 := X
  have hH0 := hH
  obtain ⟨hx, hb, hr, hml, hown, hts, -, -, hK, hNW, hAO, hX, hbB, hBs, hfr, hlo, -⟩ := X
  obtain ⟨a1, a2, a3, a4, hP, hS⟩ := hH
  have hrest : ((S.drop y).map (p_tv b B)).map (fun v => v.category) = ((S.drop y).map (p_tv b B)).map fun v => v.category := rfl
  have hW8 : 2 * 0 + (((S.drop y).map (p_tv b B)).map fun v => v.category).sum ≤ 8 := by
    rw [p_tv_cs b B _]
    omega
  have fin : ∀ (H1 : Heap) (locs1 : List Loc), p_HI b B L xs aC D s h1 H1 locs1 → p_pc k (i + 1) = p_pc k i + 3 → W p l e R s m args below meth c H1 locs1 (cells + (h1.1.length - h.1.length)) (slots + (p_sl h1 - p_sl h)) Q (F0 m (p_pc k i + 3) ls ((r.map (p_tv b B)).toList ++ (S.drop y).map (p_tv b B))) := fun H1 locs1 g hp => by
    have kk := kk ls H1 locs1 hL hn g (by rw [g.2.1]; omega)
    rw [hp] at kk
    have e1 : (r.toList ++ S.drop y).map (p_tv b B) = (r.map (p_tv b B)).toList ++ (S.drop y).map (p_tv b B) := by
      cases r <;> rfl
    rw [e1] at kk
    exact kk
  have hzz : H.size ≤ B + (h1.1.length - 1) := by omega
  rcases (show o = 40 ∨ o = 41 ∨ o = 42 ∨ 42 < o by omega) with rfl | rfl | rfl | h43
  · simp only [p_ck, Bool.and_eq_true] at hk
    obtain ⟨hd, hp⟩ := p_de_spec hk.1
    obtain ⟨hlk, hkd, hya, hfa, hla, ha⟩ := p_inv_spec hk.2
    obtain ⟨m1, m2, -, -, m5, m6, m7, -, -, -, m11⟩ := p_mok_at ha
    have hst : (Cond.static (p_y a)).before args s = true := hts _ (p_Gm (m2 hkd) rfl)
    rw [hkd, if_pos rfl, Nat.sub_zero] at m7
    have hstack : S.map (p_tv b B) = ((S.take y).reverse.map (p_tv b B)).reverse ++ (S.drop y).map (p_tv b B) := by
      rw [List.map_reverse, List.reverse_reverse, ← List.map_append, List.take_append_drop]
    have hAs : ((S.take y).reverse.map (p_tv b B)).length = p_na a := by
      rw [List.length_map, List.length_reverse, List.length_take]
      omega
    have hpre : PreS s H (p_PC b B L xs aC D (S.take y).reverse h) ((S.take y).reverse.map (p_tv b B)) := ⟨p_PC_blind, fun U hU hW => p_PC_at X0 hH0 U hU hW⟩
    have hini : Cond.initialized (p_y a).cls ∈ p_G := by rw [m5]; exact p_iniG m11
    rcases hlk with hlk | ⟨q, hq, hq1, hq2⟩
    · exact p_ran (va_runS ⟨hx, hb, hml, hown, hts⟩ hM (va_cwS (p_na a) hts (p_goodIn (fun w hw => by
        rcases List.mem_append.mp hw with h2 | h2
        · simp only [List.mem_cons, List.not_mem_nil, or_false] at h2
          rcases h2 with rfl | rfl | rfl
          · exact hlk
          · exact p_Gm (m2 hkd) rfl
          · exact hini
        · rcases List.mem_cons.mp h2 with rfl | h3
          · exact p_Gm m1 rfl
          · exact h3)) rfl rfl rfl ⟨m6.1, m6.2, m7⟩ ⟨by show p_fr a + 1 ≤ _; omega, by show 8 + (p_ml a + 11) + p_lo a ≤ _; omega⟩) hpre rfl hAs (by show ls.size = _; rw [hL.1, hn]) hstack hW8 hd ⟨hcl, hsl⟩) hS hzz (fun H1 locs1 g => fin H1 locs1 g hp)
    · have hnw := hNW q hq hq1
      rw [hq2] at hnw
      exact p_ran (va_runSN ⟨hx, hb, hml, hown, hts⟩ hM ⟨va_cnB (p_na a) hts (p_goodIn (fun w hw => by
        rcases List.mem_cons.mp hw with rfl | h3
        · exact p_Gm m1 rfl
        · exact h3)) rfl rfl rfl hnw (hts _ hini) ⟨m6.1, m6.2, m7⟩ ⟨by show p_fr a + 1 ≤ _; omega, by show 8 + (p_ml a + 11) + p_lo a ≤ _; omega⟩, hst, trivial⟩ hpre rfl hAs (by show ls.size = _; rw [hL.1, hn]) hstack hW8 hd ⟨hcl, hsl⟩) hS hzz (fun H1 locs1 g => fin H1 locs1 g hp)
  · simp only [p_ck, Bool.and_eq_true] at hk
    obtain ⟨hd, hp⟩ := p_de_spec hk.1
    obtain ⟨hlk, hkd, hya, hfa, hla, ha⟩ := p_inv_spec hk.2
    obtain ⟨m1, -, m3, -, m5, m6, m7, -, -, -, m11⟩ := p_mok_at ha
    obtain ⟨m3a, m3b⟩ := m3 hkd
    rw [hkd, if_neg (by decide)] at m7
    simp only [p_call] at hcall
    split at hcall
    · rename_i v vs hvs
      split at hcall
      · rename_i kd nn hcell
        simp only [Bool.and_eq_true, beq_iff_eq, decide_eq_true_eq] at hcall
        obtain ⟨hcall, h1v, h6⟩ := hcall
        have hat := p_ws_at (b := b) (B := B) (aC := aC) hcell h1v
        rw [p_en_o h6] at hat
        rw [hcall] at hat h6
        have hte : S.take y = vs.reverse ++ [.ref v] := by
          rw [← List.reverse_reverse (S.take y), hvs, List.reverse_cons]
        have hstack : S.map (p_tv b B) = (vs.map (p_tv b B)).reverse ++ .ref (p_ad b B v) :: (S.drop y).map (p_tv b B) := by
          rw [show S.map (p_tv b B) = (S.take y ++ S.drop y).map (p_tv b B) by rw [List.take_append_drop], hte]
          simp only [List.map_append, List.map_cons, List.map_nil, List.append_assoc, List.singleton_append, List.map_reverse]
          rfl
        have hAs : (vs.map (p_tv b B)).length = p_na a - 1 := by
          have h2 : (S.take y).length = y := by rw [List.length_take]; omega
          rw [hte, List.length_append, List.length_reverse, List.length_singleton] at h2
          rw [List.length_map]
          omega
        have hpre : PreV s H (p_cn (p_ow a)) (p_ad b B v) (p_PC b B L xs aC D (S.take y).reverse h) (vs.map (p_tv b B)) := ⟨p_PC_blind, va_recv hK hP (p_cls _ h6) hat, fun U hU hW => by
          have h2 := p_PC_at (vals := (S.take y).reverse) X0 hH0 U hU hW
          rw [hvs] at h2 ⊢
          exact h2⟩
        have hini : Cond.initialized (p_y a).cls ∈ p_G := by rw [m5]; exact p_iniG m11
        rcases hlk with hlk | ⟨q, hq, hq1, hq2⟩
        · exact p_ran (va_runV ⟨hx, hb, hml, hown, hts⟩ hM (cwV (p_na a - 1) hts (p_goodIn (fun w hw => by
            rcases List.mem_append.mp hw with h2 | h2
            · simp only [List.mem_cons, List.not_mem_nil, or_false] at h2
              rcases h2 with rfl | rfl | rfl | rfl
              · exact hlk
              · exact p_Gm m3a rfl
              · exact p_Gm m3b rfl
              · exact p_iniG m11
            · rcases List.mem_cons.mp h2 with rfl | h3
              · exact p_Gm m1 rfl
              · exact h3)) rfl rfl rfl ⟨m5, m6.1, m6.2, m7⟩ ⟨by show p_fr a + 1 ≤ _; omega, by show 8 + (p_ml a + 11) + p_lo a ≤ _; omega⟩) hpre rfl hAs (by show ls.size = _; rw [hL.1, hn]) hstack hW8 hd ⟨hcl, hsl⟩) hS hzz (fun H1 locs1 g => fin H1 locs1 g hp)
        · have hnw := hNW q hq hq1
          rw [hq2] at hnw
          exact p_ran (va_runVN ⟨hx, hb, hml, hown, hts⟩ hM ⟨va_cnB (p_na a - 1) hts (p_goodIn (fun w hw => by
            rcases List.mem_cons.mp hw with rfl | h3
            · exact p_Gm m1 rfl
            · exact h3)) rfl rfl rfl hnw (hts _ hini) ⟨m6.1, m6.2, m7⟩ ⟨by show p_fr a + 1 ≤ _; omega, by show 8 + (p_ml a + 11) + p_lo a ≤ _; omega⟩, hts _ (p_Gm m3a rfl), hts _ (p_Gm m3b rfl)⟩ hpre rfl hAs (by show ls.size = _; rw [hL.1, hn]) hstack hW8 hd ⟨hcl, hsl⟩) hS hzz (fun H1 locs1 g => fin H1 locs1 g hp)
      · cases hcall
    · cases hcall
  · simp only [p_ck, Bool.and_eq_true] at hk
    obtain ⟨hd, hp⟩ := p_de_spec hk.1
    obtain ⟨hlk, hkd, hya, hfa, hla, ha⟩ := p_inv_spec hk.2
    obtain ⟨m1, -, -, m4, m5, m6, m7, -, -, -, m11⟩ := p_mok_at ha
    obtain ⟨m4a, m4b, m4c⟩ := m4 hkd
    rw [hkd, if_neg (by decide)] at m7
    have hM := hM
    unfold p_Mt at hM
    rw [m4c] at hM m1
    simp only [p_call] at hcall
    split at hcall
    · rename_i v vs hvs
      have hte : S.take y = vs.reverse ++ [.ref v] := by
        rw [← List.reverse_reverse (S.take y), hvs, List.reverse_cons]
      have hstack : S.map (p_tv b B) = (vs.map (p_tv b B)).reverse ++ .ref (p_ad b B v) :: (S.drop y).map (p_tv b B) := by
        rw [show S.map (p_tv b B) = (S.take y ++ S.drop y).map (p_tv b B) by rw [List.take_append_drop], hte]
        simp only [List.map_append, List.map_cons, List.map_nil, List.append_assoc, List.singleton_append, List.map_reverse]
        rfl
      have hAs : (vs.map (p_tv b B)).length = p_na a - 1 := by
        have h2 : (S.take y).length = y := by rw [List.length_take]; omega
        rw [hte, List.length_append, List.length_reverse, List.length_singleton] at h2
        rw [List.length_map]
        omega
      have hpre : PreS s H (p_PC b B L xs aC D (S.take y).reverse h) (.ref (p_ad b B v) :: vs.map (p_tv b B)) := ⟨p_PC_blind, fun U hU hW => by
        have h2 := p_PC_at (vals := (S.take y).reverse) X0 hH0 U hU hW
        rw [hvs] at h2 ⊢
        exact h2⟩
      have hini : Cond.initialized (p_y a).cls ∈ p_G := by rw [m5]; exact p_iniG m11
      have hgood : GoodIn p_G (Cond.code (p_y a) (p_by a) (p_ml a) none :: p_G) := p_goodIn (fun w hw => by
        rcases List.mem_cons.mp hw with rfl | h3
        · exact p_Gm m1 rfl
        · exact h3)
      rcases hlk with hlk | ⟨q, hq, hq1, hq2⟩
      · exact p_ran (va_runI ⟨hx, hb, hml, hown, hts⟩ hM (cwI (p_na a - 1) hts hgood rfl rfl rfl (hts _ hini) (hts _ hlk) (hts _ (p_Gm m4a rfl)) m4b ⟨m6.1, m6.2, m7⟩ ⟨by show p_fr a + 1 ≤ _; omega, by show 8 + (p_ml a + 11) + p_lo a ≤ _; omega⟩) hpre rfl hAs (by show ls.size = _; rw [hL.1, hn]) hstack hW8 hd ⟨hcl, hsl⟩) hS hzz (fun H1 locs1 g => fin H1 locs1 g hp)
      · have hnw := hNW q hq hq1
        rw [hq2] at hnw
        exact p_ran (va_runIN ⟨hx, hb, hml, hown, hts⟩ hM ⟨va_cnB (p_na a - 1) hts hgood rfl rfl rfl hnw (hts _ hini) ⟨m6.1, m6.2, m7⟩ ⟨by show p_fr a + 1 ≤ _; omega, by show 8 + (p_ml a + 11) + p_lo a ≤ _; omega⟩, m4b, hts _ (p_Gm m4a rfl)⟩ hpre rfl hAs (by show ls.size = _; rw [hL.1, hn]) hstack hW8 hd ⟨hcl, hsl⟩) hS hzz (fun H1 locs1 g => fin H1 locs1 g hp)
    · cases hcall
  · omega
/-- a call, with longs or without -/
theorem s_call {o a y : Nat} {z : Int32} {t : List Nat} {Lc : pL} {S : List Value} {h h1 : pH} {r : Option Value} (X : p_CX p R s m args meth c k b B L xs aC D) (hk : p_ck k i o a y z t = true) (ho : ¬ o < 40) (ho2 : o < 50) (hy : y ≤ S.length) (hcs : p_cs (S.drop y) ≤ 8) (hcall : p_call o a (S.take y).reverse h = true)
    (hM : p_Mt l b B L xs aC D a (S.take y).reverse h r h1) (hcl : cells + (h1.1.length - h.1.length) ≤ R.cells) (hsl : slots + (p_sl h1 - p_sl h) ≤ R.slots) (hlen : h.1.length ≤ h1.1.length)
    (kk : p_go p l e R s m args below meth c Q k b B L xs aC D (cells + (h1.1.length - h.1.length)) (slots + (p_sl h1 - p_sl h)) (i + 1) Lc (r.toList ++ S.drop y) h1) : p_go p l e R s m args below meth c Q k b B L xs aC D cells slots i Lc S h := by
  by_cases h43 : o < 43
  · exact s_call3 X hk ho h43 hy hcs hcall hM hcl hsl hlen kk
  · rcases (show o = 43 ∨ o = 44 ∨ o = 45 ∨ o = 46 ∨ o = 47 ∨ o = 48 ∨ o = 49 by omega) with rfl | rfl | rfl | rfl | rfl | rfl | rfl
    · exact s_call3 (o := 40) (z := z) (t := t) X hk (by decide) (by decide) hy hcs rfl hM hcl hsl hlen kk
    · exact s_call3 (o := 41) (z := z) (t := t) X hk (by decide) (by decide) hy hcs hcall hM hcl hsl hlen kk
    all_goals (simp only [p_ck] at hk; cases hk)
end
/-- an instruction that goes on keeps the cells that are there, and its room is what it adds -/
theorem p_op_len {o a y : Nat} {z : Int32} {Lc L' : pL} {S S' : List Value} {h h' : pH} (ho : p_op o a y z Lc S h = some (L', S', h')) : L'.length = Lc.length ∧ ((o < 21 ∨ 23 < o) ∧ h'.1 = h.1 ∨ o = 21 ∧ h'.1 = h.1 ++ [(a, p_N a)] ∨ (o = 22 ∨ o = 23) ∧ ∃ n q, S.head? = some (.int n) ∧ h'.1 = h.1 ++ [(q, n.toNatClampNeg)]) := by
  unfold p_op at ho
  split at ho
  case _ => cases ho; exact ⟨rfl, Or.inl ⟨by omega, rfl⟩⟩
  case _ => unfold o1 at ho; split at ho <;> first | (cases ho; exact ⟨rfl, Or.inl ⟨by omega, rfl⟩⟩) | cases ho
  case _ => unfold o2 at ho; split at ho <;> first | (cases ho; exact ⟨rfl, Or.inl ⟨by omega, rfl⟩⟩) | cases ho
  case _ => unfold o3 at ho; split at ho <;> first | (split at ho <;> first | (cases ho; exact ⟨by simp, Or.inl ⟨by omega, rfl⟩⟩) | cases ho) | cases ho
  case _ => unfold o4 at ho; split at ho <;> first | (split at ho <;> first | (cases ho; exact ⟨by simp, Or.inl ⟨by omega, rfl⟩⟩) | cases ho) | cases ho
  case _ => unfold o5 at ho; split at ho <;> first | (cases ho; exact ⟨by simp, Or.inl ⟨by omega, rfl⟩⟩) | cases ho
  case _ => unfold o6 at ho; split at ho <;> first | (cases ho; exact ⟨rfl, Or.inl ⟨by omega, rfl⟩⟩) | cases ho
  case _ => unfold o7 at ho; split at ho <;> first | (cases ho; exact ⟨rfl, Or.inl ⟨by omega, rfl⟩⟩) | cases ho
  case _ => unfold o8 at ho; split at ho <;> first | (split at ho <;> first | (cases ho; exact ⟨rfl, Or.inl ⟨by omega, rfl⟩⟩) | cases ho) | cases ho
  case _ => unfold o9 at ho; split at ho <;> first | (cases ho; exact ⟨rfl, Or.inl ⟨by omega, rfl⟩⟩) | cases ho
  case _ => unfold o10 at ho; split at ho <;> first | (split at ho <;> first | (cases ho; exact ⟨rfl, Or.inl ⟨by omega, rfl⟩⟩) | cases ho) | cases ho
  case _ => unfold o11 at ho; split at ho <;> first | (split at ho <;> first | (cases ho; exact ⟨rfl, Or.inl ⟨by omega, rfl⟩⟩) | cases ho) | cases ho
  case _ => unfold o12 at ho; split at ho <;> first | (split at ho <;> first | (cases ho; exact ⟨rfl, Or.inl ⟨by omega, rfl⟩⟩) | cases ho) | cases ho
  case _ => unfold o13 at ho; split at ho <;> first | (split at ho <;> first | (split at ho <;> first | (cases ho; exact ⟨rfl, Or.inl ⟨by omega, rfl⟩⟩) | cases ho) | cases ho) | cases ho
  case _ => unfold o14 at ho; split at ho <;> first | (split at ho <;> first | (split at ho <;> first | (cases ho; exact ⟨rfl, Or.inl ⟨by omega, rfl⟩⟩) | cases ho) | cases ho) | cases ho
  case _ => unfold o15 at ho; split at ho <;> first | (split at ho <;> first | (split at ho <;> first | (cases ho; exact ⟨rfl, Or.inl ⟨by omega, rfl⟩⟩) | cases ho) | cases ho) | cases ho
  case _ => unfold o16 at ho; split at ho <;> first | (split at ho <;> first | (split at ho <;> first | (cases ho; exact ⟨rfl, Or.inl ⟨by omega, rfl⟩⟩) | cases ho) | cases ho) | cases ho
  case _ => unfold o17 at ho; split at ho <;> first | (split at ho <;> first | (split at ho <;> first | (cases ho; exact ⟨rfl, Or.inl ⟨by omega, rfl⟩⟩) | cases ho) | cases ho) | cases ho
  case _ => unfold o18 at ho; split at ho <;> first | (split at ho <;> first | (split at ho <;> first | (cases ho; exact ⟨rfl, Or.inl ⟨by omega, rfl⟩⟩) | cases ho) | cases ho) | cases ho
  case _ => unfold o19 at ho; split at ho <;> first | (split at ho <;> first | (split at ho <;> first | (cases ho; exact ⟨rfl, Or.inl ⟨by omega, rfl⟩⟩) | cases ho) | cases ho) | cases ho
  case _ => unfold o19 at ho; split at ho <;> first | (split at ho <;> first | (split at ho <;> first | (cases ho; exact ⟨rfl, Or.inl ⟨by omega, rfl⟩⟩) | cases ho) | cases ho) | cases ho
  case _ => unfold o21 at ho; split at ho <;> first | (cases ho; exact ⟨rfl, Or.inr (Or.inl ⟨rfl, rfl⟩)⟩) | cases ho
  case _ => unfold o22 at ho; split at ho <;> first | (split at ho <;> first | (cases ho; exact ⟨rfl, Or.inr (Or.inr ⟨by omega, _, _, rfl, rfl⟩)⟩) | cases ho) | cases ho
  case _ => unfold o23 at ho; split at ho <;> first | (split at ho <;> first | (cases ho; exact ⟨rfl, Or.inr (Or.inr ⟨by omega, _, _, rfl, rfl⟩)⟩) | cases ho) | cases ho
  case _ => unfold o24 at ho; split at ho <;> first | (split at ho <;> first | (cases ho; exact ⟨rfl, Or.inl ⟨by omega, rfl⟩⟩) | cases ho) | cases ho
  case _ => unfold o25 at ho; split at ho <;> first | (split at ho <;> first | (split at ho <;> first | (cases ho; exact ⟨rfl, Or.inl ⟨by omega, rfl⟩⟩) | cases ho) | cases ho) | cases ho
  case _ => unfold o26 at ho; split at ho <;> first | (split at ho <;> first | (cases ho; exact ⟨rfl, Or.inl ⟨by omega, rfl⟩⟩) | cases ho) | cases ho
  case _ => unfold o27 at ho; split at ho <;> first | (split at ho <;> first | (cases ho; exact ⟨rfl, Or.inl ⟨by omega, rfl⟩⟩) | cases ho) | cases ho
  case _ =>
    unfold o28 at ho
    split at ho
    case _ => cases ho; exact ⟨rfl, Or.inl ⟨by omega, rfl⟩⟩
    case _ => unfold ol1 at ho; split at ho <;> first | (cases ho; exact ⟨rfl, Or.inl ⟨by omega, rfl⟩⟩) | cases ho
    case _ => unfold ol2 at ho; split at ho <;> first | (split at ho <;> first | (cases ho; exact ⟨by simp, Or.inl ⟨by omega, rfl⟩⟩) | cases ho) | cases ho
    case _ => unfold ol3 at ho; split at ho <;> first | (cases ho; exact ⟨rfl, Or.inl ⟨by omega, rfl⟩⟩) | cases ho
    case _ => unfold ol3 at ho; split at ho <;> first | (cases ho; exact ⟨rfl, Or.inl ⟨by omega, rfl⟩⟩) | cases ho
    case _ => unfold ol3 at ho; split at ho <;> first | (cases ho; exact ⟨rfl, Or.inl ⟨by omega, rfl⟩⟩) | cases ho
    case _ => unfold ol6 at ho; split at ho <;> first | (cases ho; exact ⟨rfl, Or.inl ⟨by omega, rfl⟩⟩) | cases ho
    case _ => unfold ol3 at ho; split at ho <;> first | (cases ho; exact ⟨rfl, Or.inl ⟨by omega, rfl⟩⟩) | cases ho
    case _ => unfold ol8 at ho; split at ho <;> first | (cases ho; exact ⟨rfl, Or.inl ⟨by omega, rfl⟩⟩) | cases ho
    case _ => unfold ol9 at ho; split at ho <;> first | (cases ho; exact ⟨rfl, Or.inl ⟨by omega, rfl⟩⟩) | cases ho
    case _ => unfold ol10 at ho; split at ho <;> first | (split at ho <;> first | (split at ho <;> first | (cases ho; exact ⟨rfl, Or.inl ⟨by omega, rfl⟩⟩) | cases ho) | cases ho) | cases ho
    case _ => unfold ol11 at ho; split at ho <;> first | (split at ho <;> first | (split at ho <;> first | (cases ho; exact ⟨rfl, Or.inl ⟨by omega, rfl⟩⟩) | cases ho) | cases ho) | cases ho
    case _ => unfold ol12 at ho; split at ho <;> first | (split at ho <;> first | (cases ho; exact ⟨rfl, Or.inl ⟨by omega, rfl⟩⟩) | cases ho) | cases ho
    case _ => cases ho
  case _ => cases ho
theorem p_sl_app {sh : List (Nat × Nat)} {ρ ρ' : pR} {rf rf' : pF} {q : Nat × Nat} : p_sl (sh ++ [q], ρ, rf) = p_sl (sh, ρ', rf') + q.2 := by simp [p_sl]
theorem p_op_room {o a y : Nat} {z : Int32} {Lc L' : pL} {S S' : List Value} {h h' : pH} (ho : p_op o a y z Lc S h = some (L', S', h')) : h.1.length ≤ h'.1.length ∧ p_sl h ≤ p_sl h' := by
  obtain ⟨-, ⟨-, e⟩ | ⟨-, e⟩ | ⟨-, n, q, -, e⟩⟩ := p_op_len ho
  · unfold p_sl
    rw [e]
    exact ⟨Nat.le_refl _, Nat.le_refl _⟩
  · unfold p_sl
    rw [e]
    simp
  · unfold p_sl
    rw [e]
    simp
theorem p_mono : ∀ (n : Nat) (cd : List pI) (i : Nat) (Lc : pL) (S : List Value) (h : pH) (r : Option Value) (h' : pH), pex n cd i Lc S h = some (r, h') → h.1.length ≤ h'.1.length ∧ p_sl h ≤ p_sl h'
  | 0, cd, i, Lc, S, h, r, h', hx => by cases hx
  | n + 1, cd, i, Lc, S, h, r, h', hx => by
    unfold pex at hx
    split at hx
    · cases hx
    · split at hx
      · split at hx
        · cases hx
        · rename_i ho
          have h1 := p_op_room ho
          have h2 := p_mono n _ _ _ _ _ _ _ hx
          exact ⟨Nat.le_trans h1.1 h2.1, Nat.le_trans h1.2 h2.2⟩
      · split at hx
        · split at hx
          · cases hx
          · exact p_mono n _ _ _ _ _ _ _ hx
        · split at hx
          · split at hx
            · split at hx
              · cases hx
              · rename_i hc
                have h1 := p_mono n _ _ _ _ _ _ _ hc
                have h2 := p_mono n _ _ _ _ _ _ _ hx
                exact ⟨Nat.le_trans h1.1 h2.1, Nat.le_trans h1.2 h2.2⟩
            · cases hx
          · split at hx
            · cases hx
            · cases hx
              exact ⟨Nat.le_refl _, Nat.le_refl _⟩
