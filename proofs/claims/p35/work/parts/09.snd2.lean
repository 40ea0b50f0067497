/-! the induction over a run -/
theorem p_pc0 : ∀ k, k < 106 → p_pc k 0 = 0 := by decide +kernel
theorem p_entlen {k : Nat} {vals : List Value} (h : (p_e2 vals).length ≤ p_ml k) : (p_ent k vals).length = p_ml k := by
  unfold p_ent
  simp
  omega
def p_rf (k i : Nat) (r : Option Value) : Prop := (r = none ∧ decode (p_by k) (p_pc k i) = .ok (.return_, 1) ∧ p_rt k = none) ∨ (∃ x : Int32, r = some (.int x) ∧ decode (p_by k) (p_pc k i) = .ok (.ireturn, 1) ∧ (p_rt k = some .int ∨ p_rt k = some .boolean ∧ (x = 0 ∨ x = 1))) ∨ ∃ x : Int64, r = some (.long x) ∧ decode (p_by k) (p_pc k i) = .ok (.lreturn, 1) ∧ p_rt k = some .long
def p_fi (p : Program) (l : Launch) (e : Env) (R : Room) (s : State) (m : MethodId) (args : Array Value) (below : List Frame) (meth : Method) (c : Code) (Q : State → Prop) (k b B L : Nat) (xs : Nat → Int32) (aC : Nat → ClassId) (D : va_G) (r : Option Value) (h' : pH) (cells' slots' : Nat) : Prop :=
  ∀ (i : Nat) (ls : Array Slot) (H : Heap) (locs : List Loc), p_rf k i r → p_HI b B L xs aC D s h' H locs → H.size = s.heap.size + cells' → W p l e R s m args below meth c H locs cells' slots' Q (F0 m (p_pc k i) ls (r.map (p_tv b B)).toList)
def p_body (n : Nat) : Prop := ∀ (k i : Nat) (Lc : pL) (S : List Value) (h : pH) (r : Option Value) (h' : pH), pex n (p_cd k) i Lc S h = some (r, h') →
  ∀ {p : Program} {l : Launch} {e : Env} {R : Room} {s : State} {m : MethodId} {args : Array Value} {below : List Frame} {meth : Method} {c : Code} {Q : State → Prop} {b B L : Nat} {xs : Nat → Int32} {aC : Nat → ClassId} {D : va_G} {cells slots cells' slots' : Nat},
    p_CX p R s m args meth c k b B L xs aC D → p_pu L xs h → cells + (h'.1.length - h.1.length) = cells' → slots + (p_sl h' - p_sl h) = slots' → cells' ≤ R.cells → slots' ≤ R.slots → p_fi p l e R s m args below meth c Q k b B L xs aC D r h' cells' slots' → p_go p l e R s m args below meth c Q k b B L xs aC D cells slots i Lc S h
theorem p_cc_spec {o a y : Nat} {S : List Value} (h : p_cc o a y S = true) (hm : y ≤ p_ml a) : y ≤ S.length ∧ p_cs (S.drop y) ≤ 8 ∧ p_ok2 (p_up a) 0 (S.take y).reverse = true ∧ (p_e2 (S.take y).reverse).length ≤ p_ml a := by
  unfold p_cc at h
  split at h
  · simp only [Bool.and_eq_true, decide_eq_true_eq] at h
    obtain ⟨h1, h2, h3⟩ := h
    have h4 := p_c1_rev (p_c1_take y h3)
    refine ⟨h1, by rw [p_cs_c1 (p_c1_drop y h3)]; exact h2, p_ok2_c1 _ 0 h4, ?_⟩
    rw [p_e2_c1 h4, List.length_map, List.length_reverse, List.length_take]
    omega
  · simp only [Bool.and_eq_true, decide_eq_true_eq] at h
    exact h
theorem p_met {n : Nat} (IH : p_body n) (l : Launch) {b B L : Nat} {xs : Nat → Int32} {aC : Nat → ClassId} {D : va_G} {a : Nat} (ha : a < 105) {vals : List Value} {h h' : pH} {r : Option Value} (hex : pex n (p_cd a) 0 (p_ent a vals) [] h = some (r, h')) (hc : p_ok2 (p_up a) 0 vals = true) (hn2 : (p_e2 vals).length ≤ p_ml a) (hbB : b < B) (hpu : p_pu L xs h) : p_Mt l b B L xs aC D a vals h r h' := by
  obtain ⟨m1, -, -, m4, m5, m6, m7, m8, m9, -, m11⟩ := p_mok_at ha
  refine Met.ofW (cc := p_by a) (maxL := p_ml a) (ret := p_rt a) m8 rfl ?_
  intro p e s m args below meth c s₁ B0 hml hv
  have hts := atoms_spec (ws := Cond.code (p_y a) (p_by a) (p_ml a) (p_rt a) :: p_G) B0.pre
  have hown : s.vm.findClass (p_cn (p_ow a)) = some m.cls := by rw [← m5]; exact findClass_of_methodNamed B0.named
  have hnm : meth.name = (p_y a).name := (name_of_methodNamed B0.named B0.method).1
  obtain ⟨rfl, hNW, hAO, hX, hK, hsz, hP⟩ := hv
  have X : p_CX p (headSpec (Cond.code (p_y a) (p_by a) (p_ml a) (p_rt a) :: p_G) { frames := p_fr a, cells := h'.1.length - h.1.length, slots := p_sl h' - p_sl h, locals := p_lo a }).room s m (vals.map (p_tv b B)).toArray meth c a b B L xs aC D :=
    ⟨B0.exec, B0.bytes, B0.returns, hml, hown, fun w hw => hts w (List.mem_cons_of_mem _ hw), B0.notSynchronized, fun hk2 => hnm.trans (m4 hk2).2.1, hK, hNW, hAO, hX, hbB, by rw [hsz]; omega, Nat.le_refl _, Nat.le_refl _, by omega⟩
  have hlocks := B0.notSynchronized
  have hH : p_HI b B L xs aC D s h s.heap [] := ⟨hpu.1, hsz, hpu.2.1, hpu.2.2, hP, va_S.rf⟩
  have K := IH a 0 (p_ent a vals) [] h r h' hex (l := l) (e := e) (below := below) (Q := MQ below (p_QC b B L xs aC D r h') (vals.map (p_tv b B)).toArray s (h'.1.length - h.1.length) (p_sl h' - p_sl h) (fun q => B ≤ q)) (cells := 0) (slots := 0) X hpu (Nat.zero_add _) (Nat.zero_add _) (Nat.le_refl _) (Nat.le_refl _) (by
    intro i ls H locs hr hHI hzz
    obtain ⟨g1, g2, g3, g4, g5, g6⟩ := hHI
    have hq : ∀ (t : State), t.heap = H → p_QC b B L xs aC D r h' (vals.map (p_tv b B)).toArray s (.returned (r.map (p_tv b B))) t := fun t ht => ⟨rfl, ⟨g1, g3, g4⟩, by rw [ht]; exact g2, by rw [ht]; exact g5, fun q q1 q2 => by rw [ht]; exact g6.2.1 q q1 q2⟩
    rcases hr with ⟨rfl, hd, hrt⟩ | ⟨x, rfl, hd, hrt⟩ | ⟨x, rfl, hd, hrt⟩
    · exact W.vret B0.exec B0.bytes (by rw [B0.returns]; exact hrt) (fun t ht _ => hq t ht) g6.2.2 hd hlocks
    · rcases hrt with hrt | ⟨hrt, h01⟩
      · exact W.zret (v := x) B0.exec B0.bytes (by rw [B0.returns]; exact hrt) rfl (fun t ht _ => hq t ht) g6.2.2 hd hlocks
      · exact W.zret (v := x) B0.exec B0.bytes (by rw [B0.returns]; exact hrt) (by rcases h01 with rfl | rfl <;> rfl) (fun t ht _ => hq t ht) g6.2.2 hd hlocks
    · exact W.lret (v := x) B0.exec B0.bytes (by rw [B0.returns]; exact hrt) (fun t ht _ => hq t ht) g6.2.2 hd hlocks)
  have hent := p_LR_entry (b := b) (B := B) (n := p_ml a) vals hc hn2
  rw [lg_entry_eq]
  have K2 := K _ s.heap [] hent (p_entlen hn2) hH rfl
  rw [p_pc0 a (by omega)] at K2
  exact K2
theorem p_snd : ∀ n, p_body n
  | 0 => fun k i Lc S h r h' hx => by cases hx
  | n + 1 => by
    intro k i Lc S h r h' hx p l e R s m args below meth c Q b B L xs aC D cells slots cells' slots' X hpu hc1 hs1 hc2 hs2 hfi
    have IH := p_snd n
    have hk170 : k < 106 := X.2.2.2.2.2.2.2.2.2.2.2.2.2.2.2.2
    unfold pex at hx
    split at hx
    · cases hx
    · rename_i o a y z t hcode
      have hck := p_ck_at hk170 hcode
      split at hx
      · split at hx
        · cases hx
        · rename_i L1 S1 h1 ho
          have hlen := p_op_len ho
          have hm := p_mono _ _ _ _ _ _ _ _ hx
          have hpu1 : p_pu L xs h1 → ∀ cells1 slots1, cells1 + (h'.1.length - h1.1.length) = cells' → slots1 + (p_sl h' - p_sl h1) = slots' → p_go p l e R s m args below meth c Q k b B L xs aC D cells1 slots1 (i + 1) L1 S1 h1 := fun hpu1 cells1 slots1 e1 e2 => IH _ _ _ _ _ _ _ hx X hpu1 e1 e2 hc2 hs2 hfi
          clear hx
          have hnx : ∀ cells1 slots1, cells1 + (h'.1.length - h1.1.length) = cells' → slots1 + (p_sl h' - p_sl h1) = slots' → p_go p l e R s m args below meth c Q k b B L xs aC D cells1 slots1 (i + 1) L1 S1 h1 := fun cells1 slots1 e1 e2 ls H locs q1 q2 q3 q4 => hpu1 ⟨q3.1, q3.2.2.1, q3.2.2.2.1⟩ cells1 slots1 e1 e2 ls H locs q1 q2 q3 q4
          have kk : h1.1 = h.1 → p_go p l e R s m args below meth c Q k b B L xs aC D cells slots (i + 1) L1 S1 h1 := fun e1 => hnx cells slots (by rw [e1]; exact hc1) (by rw [show p_sl h1 = p_sl h by unfold p_sl; rw [e1]]; exact hs1)
          have same : (o < 21 ∨ 23 < o) → h1.1 = h.1 := fun q => by
            rcases hlen.2 with ⟨-, e1⟩ | ⟨e1, -⟩ | ⟨e1, -⟩
            · exact e1
            · omega
            · omega
          have h21 : o = 21 → h1.1 = h.1 ++ [(a, p_N a)] := fun q => by
            rcases hlen.2 with ⟨e1, -⟩ | ⟨-, e1⟩ | ⟨e1, -⟩
            · omega
            · exact e1
            · omega
          have h22 : (o = 22 ∨ o = 23) → ∃ n q, S.head? = some (.int n) ∧ h1.1 = h.1 ++ [(q, n.toNatClampNeg)] := fun q => by
            rcases hlen.2 with ⟨e1, -⟩ | ⟨e1, -⟩ | ⟨-, e1⟩
            · omega
            · omega
            · exact e1
          unfold p_op at ho
          split at ho
          case _ => cases ho; exact s_0 X hck (kk rfl)
          case _ => exact s_1 X hck ho (kk (same (by omega)))
          case _ => exact s_2 X hck ho (kk (same (by omega)))
          case _ => exact s_3 X hck ho (kk (same (by omega)))
          case _ => exact s_4 X hck ho (kk (same (by omega)))
          case _ => exact s_5 X hck ho (kk (same (by omega)))
          case _ => exact s_6 X hck ho (kk (same (by omega)))
          case _ => exact s_7 X hck ho (kk (same (by omega)))
          case _ => exact s_8 X hck ho (kk (same (by omega)))
          case _ => exact s_9 X hck ho (kk (same (by omega)))
          case _ => exact s_10 X hck ho (kk (same (by omega)))
          case _ => exact s_11 X hck ho (kk (same (by omega)))
          case _ => exact s_12 X hck ho (kk (same (by omega)))
          case _ => exact s_13 X hck ho (kk (same (by omega)))
          case _ => exact s_14 X hck ho (kk (same (by omega)))
          case _ => exact s_15 X hck ho (kk (same (by omega)))
          case _ => exact s_16 X hck ho (kk (same (by omega)))
          case _ => exact s_17 X hck ho (kk (same (by omega)))
          case _ => exact s_18 X hck ho (kk (same (by omega)))
          case _ => exact s_19 X hck ho (kk (same (by omega)))
          case _ => exact s_20 X hck ho (kk (same (by omega)))
          case _ =>
            have e1 := h21 rfl
            have e2 : h1.1.length = h.1.length + 1 := by rw [e1]; simp
            have e3 : p_sl h1 = p_sl h + p_N a := by unfold p_sl; rw [e1]; simp
            exact s_21 X hck ho (by omega) (by omega) (hnx _ _ (by omega) (by omega))
          case _ =>
            obtain ⟨n0, q0, e0, e1⟩ := h22 (Or.inl rfl)
            have e2 : h1.1.length = h.1.length + 1 := by rw [e1]; simp
            have e3 : p_sl h1 = p_sl h + n0.toNatClampNeg := by unfold p_sl; rw [e1]; simp
            exact s_22 X hck ho (by omega) (sl := n0.toNatClampNeg) (fun n1 hn1 => by rw [e0] at hn1; cases hn1; rfl) (by omega) (hnx _ _ (by omega) (by omega))
          case _ =>
            obtain ⟨n0, q0, e0, e1⟩ := h22 (Or.inr rfl)
            have e2 : h1.1.length = h.1.length + 1 := by rw [e1]; simp
            have e3 : p_sl h1 = p_sl h + n0.toNatClampNeg := by unfold p_sl; rw [e1]; simp
            exact s_23 X hck ho (by omega) (sl := n0.toNatClampNeg) (fun n1 hn1 => by rw [e0] at hn1; cases hn1; rfl) (by omega) (hnx _ _ (by omega) (by omega))
          case _ => exact s_24 X hck ho (kk (same (by omega)))
          case _ => exact s_25 X hck ho (kk (same (by omega)))
          case _ => exact s_26 X hck ho (by omega) (by omega) (kk (same (by omega)))
          case _ => exact s_27 X hck ho (by omega) (by omega) (kk (same (by omega)))
          case _ => exact s_28 X hck ho (kk (same (by omega)))
          case _ => cases ho
      · split at hx
        · split at hx
          · cases hx
          · rename_i ho
            exact s_br X hck ho (IH _ _ _ _ _ _ _ hx X hpu hc1 hs1 hc2 hs2 hfi)
        · split at hx
          · split at hx
            · rename_i ho30 ho40 ho50 hcond
              obtain ⟨qc, q4⟩ := hcond
              split at hx
              · cases hx
              · rename_i r1 h1 hcall
                have hm1 := p_mono _ _ _ _ _ _ _ _ hcall
                have hm2 := p_mono _ _ _ _ _ _ _ _ hx
                have hbB : b < B := X.2.2.2.2.2.2.2.2.2.2.2.2.1
                have hca : y = p_na a ∧ a < 105 := by
                  rcases (show o = 40 ∨ o = 41 ∨ o = 42 ∨ 42 < o by omega) with rfl | rfl | rfl | h43
                  · simp only [p_ck, Bool.and_eq_true] at hck
                    have h9 := p_inv_spec hck.2
                    exact ⟨h9.2.2.1, h9.2.2.2.2.2⟩
                  · simp only [p_ck, Bool.and_eq_true] at hck
                    have h9 := p_inv_spec hck.2
                    exact ⟨h9.2.2.1, h9.2.2.2.2.2⟩
                  · simp only [p_ck, Bool.and_eq_true] at hck
                    have h9 := p_inv_spec hck.2
                    exact ⟨h9.2.2.1, h9.2.2.2.2.2⟩
                  · rcases (show o = 43 ∨ o = 44 ∨ o = 45 ∨ o = 46 ∨ o = 47 ∨ o = 48 ∨ o = 49 by omega) with rfl | rfl | rfl | rfl | rfl | rfl | rfl
                    · simp only [p_ck, Bool.and_eq_true] at hck
                      have h9 := p_inv_spec hck.2
                      exact ⟨h9.2.2.1, h9.2.2.2.2.2⟩
                    · simp only [p_ck, Bool.and_eq_true] at hck
                      have h9 := p_inv_spec hck.2
                      exact ⟨h9.2.2.1, h9.2.2.2.2.2⟩
                    all_goals (simp only [p_ck] at hck; cases hck)
                obtain ⟨q1, q2, q3, q5⟩ := p_cc_spec qc (by rw [hca.1]; exact (p_mok_at hca.2).2.2.2.2.2.2.2.2.1)
                have hM : p_Mt l b B L xs aC D a (S.take y).reverse h r1 h1 := p_met IH l hca.2 hcall q3 q5 hbB hpu
                refine s_call X hck ho40 ho50 q1 q2 q4 hM (by omega) (by omega) hm1.1 ?_
                intro ls H locs w1 w2 w3 w4
                exact IH _ _ _ _ _ _ _ hx X ⟨w3.1, w3.2.2.1, w3.2.2.2.1⟩ (by omega) (by omega) hc2 hs2 hfi ls H locs w1 w2 w3 w4
            · cases hx
          · rename_i ho30 ho40 ho50
            split at hx
            · cases hx
            · rename_i r1 hret
              cases hx
              have e1 : cells = cells' := by omega
              have e2 : slots = slots' := by omega
              subst e1
              subst e2
              intro ls H locs w1 w2 w3 w4
              unfold p_ret at hret
              split at hret
              · split at hret
                · cases hret
                  simp only [p_ck, Bool.and_eq_true] at hck
                  exact hfi i ls H locs (Or.inl ⟨rfl, p_dj_spec hck.1, of_decide_eq_true hck.2⟩) w3 w4
                · cases hret
              · split at hret
                · cases hret
                  simp only [p_ck, Bool.and_eq_true] at hck
                  exact hfi i ls H locs (Or.inr (Or.inl ⟨_, rfl, p_dj_spec hck.1, Or.inl (of_decide_eq_true hck.2)⟩)) w3 w4
                · cases hret
              · split at hret
                · split at hret
                  · rename_i h01
                    cases hret
                    simp only [p_ck, Bool.and_eq_true] at hck
                    exact hfi i ls H locs (Or.inr (Or.inl ⟨_, rfl, p_dj_spec hck.1, Or.inr ⟨of_decide_eq_true hck.2, h01⟩⟩)) w3 w4
                  · cases hret
                · cases hret
              · split at hret
                · cases hret
                  simp only [p_ck, Bool.and_eq_true] at hck
                  exact hfi i ls H locs (Or.inr (Or.inr ⟨_, rfl, p_dj_spec hck.1, of_decide_eq_true hck.2⟩)) w3 w4
                · cases hret
              · cases hret
