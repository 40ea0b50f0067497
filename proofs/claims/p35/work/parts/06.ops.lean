/-! each instruction of the pure machine, in the Java machine -/
def p_NW (U : State) : Prop := ∀ q ∈ p_ML, q.2.2.2.1 = 1 → va_Nw (.methodLinkNest (p_cn q.1) q.2.1 (p_y q.2.2.1) "InterlockBoard") U
/-- what holds of the method that runs -/
def p_CX (p : Program) (R : Room) (s : State) (m : MethodId) (args : Array Value) (meth : Method) (c : Code) (k b B L : Nat) (xs : Nat → Int32) (aC : Nat → ClassId) (D : va_G) : Prop :=
  p.tables.exec = Jvm.exec ∧ c.code = p_by k ∧ meth.sig.returnType = p_rt k ∧ c.maxLocals = p_ml k ∧ s.vm.findClass (p_cn (p_ow k)) = some m.cls ∧ (∀ w ∈ p_G, w.before args s = true) ∧ meth.locks = false ∧ (p_kd k = 2 → meth.name = "<init>") ∧ va_K D p_cl (p_tys aC) s ∧ p_NW s ∧ va_AO RX2 s ∧ va_X b L xs s s.heap ∧ b < B ∧ B ≤ s.heap.size ∧ p_fr k ≤ R.frames ∧ p_lo k ≤ R.locals ∧ k < 106
def p_go (p : Program) (l : Launch) (e : Env) (R : Room) (s : State) (m : MethodId) (args : Array Value) (below : List Frame) (meth : Method) (c : Code) (Q : State → Prop) (k b B L : Nat) (xs : Nat → Int32) (aC : Nat → ClassId) (D : va_G) (cells slots i : Nat) (Lc : pL) (S : List Value) (h : pH) : Prop :=
  ∀ (ls : Array Slot) (H : Heap) (locs : List Loc), p_LR b B (p_up k) ls Lc → Lc.length = p_ml k → p_HI b B L xs aC D s h H locs → H.size = s.heap.size + cells → W p l e R s m args below meth c H locs cells slots Q (F0 m (p_pc k i) ls (S.map (p_tv b B)))
theorem p_de_spec {k i len : Nat} {ins : Jvm.ClassFile.Instr} (h : p_de k i ins len = true) : decode (p_by k) (p_pc k i) = .ok (ins, len) ∧ p_pc k (i + 1) = p_pc k i + len := by
  simp only [p_de, p_dj, Bool.and_eq_true, decide_eq_true_eq, beq_iff_eq] at h
  exact h
theorem p_dj_spec {k i len : Nat} {ins : Jvm.ClassFile.Instr} (h : p_dj k i ins len = true) : decode (p_by k) (p_pc k i) = .ok (ins, len) := of_decide_eq_true h
theorem p_fl_spec {k a b idx : Nat} (h : p_fl k a b idx = true) : a < 6 ∧ b < p_N a ∧ Cond.fieldLink (p_cn (p_ow k)) idx (p_cn a) (p_T a b).2.1 (p_T a b).2.2.1 ∈ p_G := by
  obtain ⟨q, hq, h1⟩ := List.any_eq_true.mp h
  simp only [Bool.and_eq_true, beq_iff_eq] at h1
  obtain ⟨⟨⟨e1, e2⟩, e3⟩, e4⟩ := h1
  obtain ⟨g1, g2, g3⟩ := p_FL_ok q hq
  rw [e1, e2, e3, e4] at g3
  rw [e3] at g1 g2
  rw [e4] at g2
  exact ⟨g1, g2, p_Gm g3 rfl⟩
theorem p_layG {a : Nat} (ha : a < 6) : ∀ w ∈ u_ws (p_cn a) (p_T a) (p_N a), w ∈ p_G := fun w hw => List.mem_filter.mpr ⟨p_lay a ha w hw, by
  obtain ⟨j, -, rfl⟩ := List.mem_map.mp hw
  unfold u_lay
  split <;> rfl⟩
theorem p_in_vp {i : Int32} {n : Nat} (h : p_in i n = true) : vp_in i n := of_decide_eq_true (p := ¬ (i < 0 ∨ n ≤ i.toNatClampNeg)) h
section
variable {p : Program} {l : Launch} {e : Env} {R : Room} {s : State} {m : MethodId} {args : Array Value} {below : List Frame} {meth : Method} {c : Code} {Q : State → Prop} {k b B L : Nat} {xs : Nat → Int32} {aC : Nat → ClassId} {D : va_G} {cells slots i : Nat}
theorem p_szW {H : Heap} {locs : List Loc} {g : JFrame} (kk : H.size ≤ s.heap.size + cells → W p l e R s m args below meth c H locs cells slots Q g) : W p l e R s m args below meth c H locs cells slots Q g := fun T hT X => kk (hT ▸ X.heapSize) T hT X
theorem p_S_self {A : Nat → Prop} {H0 H : Heap} {locs : List Loc} (h : va_S A H0 H locs) : va_S A H H locs := ⟨Nat.le_refl _, fun _ _ _ => rfl, h.2.2⟩
theorem p_S_trans {A : Nat → Prop} {H0 H H1 : Heap} {l0 l1 : List Loc} (h : va_S A H0 H l0) (h1 : va_S A H H1 l1) : va_S A H0 H1 l1 := ⟨Nat.le_trans h.1 h1.1, fun q hq hA => (h1.2.1 q (Nat.lt_of_lt_of_le hq h.1) hA).trans (h.2.1 q hq hA), h1.2.2⟩
theorem p_HI_st {sh : List (Nat × Nat)} {ρ ρ' : pR} {rf rf' : pF} {H H1 : Heap} {locs locs1 : List Loc} {o : Nat} {q : Nat × Nat} {E : va_E} (hH : p_HI b B L xs aC D s (sh, ρ, rf) H locs) (hz : H.size = s.heap.size + cells) (hk : sh[o]? = some q) (h1 : 1 ≤ o) (hr : ∀ x, x ≠ o → ρ' x = ρ x) (hf : ∀ x, x ≠ o → rf' x = rf x)
    (hP1 : va_P D p_cl ((p_ws b B aC (sh, ρ, rf)).set (o - 1) (p_ad b B o, E)) H1) (hE : E = p_en b B aC ρ' rf' o q) (hS1 : va_S (fun q => B ≤ q) H H1 locs1) (hle : H1.size ≤ s.heap.size + cells) : p_HI b B L xs aC D s (sh, ρ', rf') H1 locs1 ∧ H1.size = s.heap.size + cells := by
  obtain ⟨a1, a2, a3, a4, a5, a6⟩ := hH
  have hz1 : H1.size = H.size := by have := hS1.1; omega
  subst hE
  rw [p_ws_set hk h1 hr hf] at hP1
  refine ⟨⟨a1, by rw [hz1]; exact a2, a3, fun j hj => ?_, hP1, p_S_trans a6 hS1⟩, by rw [hz1]; exact hz⟩
  show ρ' 0 j = xs j
  rw [hr 0 (by omega)]
  exact a4 j hj
theorem p_en_arr {ρ : pR} {rf : pF} {o kd n : Nat} (h1 : ¬ kd < 6) (h2 : ¬ kd = 12 ∧ ¬ kd = 13) : p_en b B aC ρ rf o (kd, n) = .inl (aC kd, n, .inl (ρ o)) := by
  unfold p_en
  rw [if_neg h1, if_neg h2.1, if_neg h2.2]
theorem p_en_l {ρ : pR} {rf : pF} {o n : Nat} : p_en b B aC ρ rf o (12, n) = .inl (aC 12, n, .inr (.inl fun j => p_l (rf o j))) := by
  unfold p_en
  rw [if_neg (show ¬ (12 < 6) by decide), if_pos rfl]
theorem p_en_q {ρ : pR} {rf : pF} {o n : Nat} : p_en b B aC ρ rf o (13, n) = .inl (aC 13, n, .inr (.inr (.inr (.inr fun j => (rf o j).map (p_ad b B))))) := by
  unfold p_en
  rw [if_neg (show ¬ (13 < 6) by decide), if_neg (show ¬ (13 = 12) by decide), if_pos rfl]
def p_fs (b B : Nat) (ρ : pR) (rf : pF) (o a n : Nat) : List Value := (List.range n).map fun j => if p_isI a j = true then .int (ρ o j) else va_rf ((rf o j).map (p_ad b B))
theorem p_en_o {ρ : pR} {rf : pF} {o a n : Nat} (h : a < 6) : p_en b B aC ρ rf o (a, n) = .inr (a, p_fs b B ρ rf o a n) := by
  unfold p_en
  rw [if_pos h]
  rfl
theorem u2_ne {f : pR} {o j x : Nat} {v : Int32} (h : x ≠ o) : u2 f o j v x = f x := if_neg h
theorem q2_ne {f : pF} {o j x : Nat} {v : Option Nat} (h : x ≠ o) : q2 f o j v x = f x := if_neg h
theorem u2_at {f : pR} {o j : Nat} {v : Int32} : u2 f o j v o = upd (f o) j v := if_pos rfl
theorem q2_at {f : pF} {o j : Nat} {v : Option Nat} : q2 f o j v o = va_up (f o) j v := if_pos rfl
theorem p_fs_put {ρ : pR} {rf : pF} {o a n j : Nat} {v : Int32} (hj : j < n) (hI : p_isI a j = true) : (p_fs b B ρ rf o a n).set j (.int v) = p_fs b B (u2 ρ o j v) rf o a n := by
  apply List.ext_getElem?
  intro x
  unfold p_fs
  by_cases hx : x = j
  · subst hx
    rw [List.getElem?_set_self (by simpa using hj), List.getElem?_map, List.getElem?_range hj]
    simp only [Option.map_some, hI, if_true, u2_at, upd]
  · rw [List.getElem?_set_ne (Ne.symm hx)]
    simp only [List.getElem?_map, u2_at]
    by_cases hn : x < n
    · rw [List.getElem?_range hn]
      simp only [Option.map_some, upd, if_neg hx]
    · rw [List.getElem?_eq_none (by simpa using hn)]
      rfl
theorem p_fs_putq {ρ : pR} {rf : pF} {o a n j v : Nat} (hj : j < n) (hI : p_isI a j = false) : (p_fs b B ρ rf o a n).set j (.ref (p_ad b B v)) = p_fs b B ρ (q2 rf o j (some v)) o a n := by
  apply List.ext_getElem?
  intro x
  unfold p_fs
  by_cases hx : x = j
  · subst hx
    rw [List.getElem?_set_self (by simpa using hj), List.getElem?_map, List.getElem?_range hj]
    simp only [Option.map_some, hI, Bool.false_eq_true, if_false, q2_at, va_up, if_true]
    rfl
  · rw [List.getElem?_set_ne (Ne.symm hx)]
    simp only [List.getElem?_map, q2_at]
    by_cases hn : x < n
    · rw [List.getElem?_range hn]
      simp only [Option.map_some, va_up, if_neg hx]
    · rw [List.getElem?_eq_none (by simpa using hn)]
      rfl
theorem s_0 {a y : Nat} {z : Int32} {t : List Nat} {Lc : pL} {S : List Value} {h : pH} (X : p_CX p R s m args meth c k b B L xs aC D) (hk : p_ck k i 0 a y z t = true)
    (kk : p_go p l e R s m args below meth c Q k b B L xs aC D cells slots (i + 1) Lc (.int z :: S) h) : p_go p l e R s m args below meth c Q k b B L xs aC D cells slots i Lc S h := by
  intro ls H locs hL hn hH hz
  have kk := kk ls H locs hL hn hH hz
  obtain ⟨hx, hb, hr, hml, hown, hts, -⟩ := X
  simp only [p_ck] at hk
  split at hk
  · rw [Bool.and_eq_true] at hk
    obtain ⟨hd, hp⟩ := p_de_spec hk.1
    rw [hp] at kk
    exact lv_iconst hx hb hd (of_decide_eq_true hk.2) kk
  · rw [Bool.and_eq_true] at hk
    obtain ⟨hd, hp⟩ := p_de_spec hk.1
    rw [hp] at kk
    exact lv_bipush hx hb hd (of_decide_eq_true hk.2) kk
  · rw [Bool.and_eq_true] at hk
    obtain ⟨hd, hp⟩ := p_de_spec hk.1
    rw [hp] at kk
    exact lv_sipush hx hb hd (of_decide_eq_true hk.2) kk
  · rw [Bool.and_eq_true] at hk
    obtain ⟨hd, hp⟩ := p_de_spec hk.1
    rw [hp] at kk
    exact lv_ldc hx hb hown (hts _ (p_Gm (of_decide_eq_true hk.2) rfl)) hd kk
  · rw [Bool.and_eq_true] at hk
    obtain ⟨hd, hp⟩ := p_de_spec hk.1
    rw [hp] at kk
    exact lv_ldcw hx hb hown (hts _ (p_Gm (of_decide_eq_true hk.2) rfl)) hd kk
theorem p_f4_val {a : Nat} (h : a < 4) : ((p_f4 a : Fin 4) : Nat) = a := Nat.mod_eq_of_lt h
theorem s_1 {a y : Nat} {z : Int32} {t : List Nat} {Lc L' : pL} {S S' : List Value} {h h' : pH} (X : p_CX p R s m args meth c k b B L xs aC D) (hk : p_ck k i 1 a y z t = true) (ho : o1 a Lc S h = some (L', S', h'))
    (kk : p_go p l e R s m args below meth c Q k b B L xs aC D cells slots (i + 1) L' S' h') : p_go p l e R s m args below meth c Q k b B L xs aC D cells slots i Lc S h := by
  intro ls H locs hL hn hH hz
  unfold o1 at ho
  split at ho
  · rename_i x hv
    cases ho
    have kk := kk ls H locs hL hn hH hz
    have hg : ls[a]? = some (.val (.int x)) := (hL.2.2 _ _ hv).1
    obtain ⟨hx, hb, -⟩ := X
    simp only [p_ck] at hk
    split at hk
    · rw [Bool.and_eq_true] at hk
      obtain ⟨hd, hp⟩ := p_de_spec hk.1
      rw [hp] at kk
      exact lv_iload_n hx hb hd (p_f4_val (of_decide_eq_true hk.2)) hg kk
    · obtain ⟨hd, hp⟩ := p_de_spec hk
      rw [hp] at kk
      exact lv_iload hx hb hd hg kk
  · cases ho
theorem s_2 {a y : Nat} {z : Int32} {t : List Nat} {Lc L' : pL} {S S' : List Value} {h h' : pH} (X : p_CX p R s m args meth c k b B L xs aC D) (hk : p_ck k i 2 a y z t = true) (ho : o2 a Lc S h = some (L', S', h'))
    (kk : p_go p l e R s m args below meth c Q k b B L xs aC D cells slots (i + 1) L' S' h') : p_go p l e R s m args below meth c Q k b B L xs aC D cells slots i Lc S h := by
  intro ls H locs hL hn hH hz
  unfold o2 at ho
  split at ho
  · rename_i x hv
    cases ho
    have kk := kk ls H locs hL hn hH hz
    have hg : ls[a]? = some (.val (.ref (p_ad b B x))) := (hL.2.2 _ _ hv).1
    obtain ⟨hx, hb, -⟩ := X
    simp only [p_ck] at hk
    split at hk
    · rw [Bool.and_eq_true] at hk
      obtain ⟨hd, hp⟩ := p_de_spec hk.1
      rw [hp] at kk
      exact lv_aload_n hx hb hd (p_f4_val (of_decide_eq_true hk.2)) hg kk
    · obtain ⟨hd, hp⟩ := p_de_spec hk
      rw [hp] at kk
      exact lv_aload hx hb hd hg kk
  · cases ho
theorem s_3 {a y : Nat} {z : Int32} {t : List Nat} {Lc L' : pL} {S S' : List Value} {h h' : pH} (X : p_CX p R s m args meth c k b B L xs aC D) (hk : p_ck k i 3 a y z t = true) (ho : o3 a Lc S h = some (L', S', h'))
    (kk : p_go p l e R s m args below meth c Q k b B L xs aC D cells slots (i + 1) L' S' h') : p_go p l e R s m args below meth c Q k b B L xs aC D cells slots i Lc S h := by
  intro ls H locs hL hn hH hz
  unfold o3 at ho
  split at ho
  · split at ho
    · rename_i x S0 ha
      cases ho
      obtain ⟨hx, hb, -⟩ := X
      simp only [p_ck] at hk
      rw [Bool.and_eq_true, Bool.not_eq_true'] at hk
      have hup : ¬ a ∈ p_up k := fun e => by rw [List.contains_iff_mem.mpr e] at hk; exact absurd hk.2 (by decide)
      have hk := hk.1
      split at hk
      · rw [Bool.and_eq_true] at hk
        obtain ⟨hd, hp⟩ := p_de_spec hk.1
        refine lv_istore_n hx hb hd (p_f4_val (of_decide_eq_true hk.2)) (p_LR_has hL) ha rfl (fun ls' hl' => ?_)
        have kk := kk ls' H locs (p_LR_set (v := .int x) hL ha rfl hup hl') (by rw [List.length_set]; exact hn) hH hz
        rw [hp] at kk
        exact kk
      · obtain ⟨hd, hp⟩ := p_de_spec hk
        refine lv_istore hx hb hd (p_LR_has hL) ha rfl (fun ls' hl' => ?_)
        have kk := kk ls' H locs (p_LR_set (v := .int x) hL ha rfl hup hl') (by rw [List.length_set]; exact hn) hH hz
        rw [hp] at kk
        exact kk
    · cases ho
  · cases ho
theorem s_4 {a y : Nat} {z : Int32} {t : List Nat} {Lc L' : pL} {S S' : List Value} {h h' : pH} (X : p_CX p R s m args meth c k b B L xs aC D) (hk : p_ck k i 4 a y z t = true) (ho : o4 a Lc S h = some (L', S', h'))
    (kk : p_go p l e R s m args below meth c Q k b B L xs aC D cells slots (i + 1) L' S' h') : p_go p l e R s m args below meth c Q k b B L xs aC D cells slots i Lc S h := by
  intro ls H locs hL hn hH hz
  unfold o4 at ho
  split at ho
  · split at ho
    · rename_i x S0 ha
      cases ho
      obtain ⟨hx, hb, -⟩ := X
      simp only [p_ck] at hk
      rw [Bool.and_eq_true, Bool.not_eq_true'] at hk
      have hup : ¬ a ∈ p_up k := fun e => by rw [List.contains_iff_mem.mpr e] at hk; exact absurd hk.2 (by decide)
      have hk := hk.1
      split at hk
      · rw [Bool.and_eq_true] at hk
        obtain ⟨hd, hp⟩ := p_de_spec hk.1
        refine lv_astore_n hx hb hd (p_f4_val (of_decide_eq_true hk.2)) (p_LR_has hL) ha rfl (fun ls' hl' => ?_)
        have kk := kk ls' H locs (p_LR_set (v := .ref x) hL ha rfl hup hl') (by rw [List.length_set]; exact hn) hH hz
        rw [hp] at kk
        exact kk
      · obtain ⟨hd, hp⟩ := p_de_spec hk
        refine lv_astore hx hb hd (p_LR_has hL) ha rfl (fun ls' hl' => ?_)
        have kk := kk ls' H locs (p_LR_set (v := .ref x) hL ha rfl hup hl') (by rw [List.length_set]; exact hn) hH hz
        rw [hp] at kk
        exact kk
    · cases ho
  · cases ho
theorem s_5 {a y : Nat} {z : Int32} {t : List Nat} {Lc L' : pL} {S S' : List Value} {h h' : pH} (X : p_CX p R s m args meth c k b B L xs aC D) (hk : p_ck k i 5 a y z t = true) (ho : o5 a z Lc S h = some (L', S', h'))
    (kk : p_go p l e R s m args below meth c Q k b B L xs aC D cells slots (i + 1) L' S' h') : p_go p l e R s m args below meth c Q k b B L xs aC D cells slots i Lc S h := by
  intro ls H locs hL hn hH hz
  unfold o5 at ho
  split at ho
  · rename_i x hv
    cases ho
    obtain ⟨hx, hb, -⟩ := X
    simp only [p_ck, Bool.and_eq_true, Bool.not_eq_true'] at hk
    have hup : ¬ a ∈ p_up k := fun e => by rw [List.contains_iff_mem.mpr e] at hk; exact absurd hk.2 (by decide)
    have hk := hk.1
    obtain ⟨hd, hp⟩ := p_de_spec hk.1
    have ha : a < Lc.length := (List.getElem?_eq_some_iff.mp hv).1
    obtain ⟨j, hj⟩ := List.getElem?_of_mem (p_lv_mem (b := b) (B := B) hv)
    refine lv_iinc (v := x + z) hx hb hd (p_LR_has hL) hj (by rw [of_decide_eq_true hk.2]) ha rfl (fun ls' hl' => ?_)
    have kk := kk ls' H locs (p_LR_set (v := .int (x + z)) hL ha rfl hup hl') (by rw [List.length_set]; exact hn) hH hz
    rw [hp] at kk
    exact kk
  · cases ho
theorem s_6 {a y : Nat} {z : Int32} {t : List Nat} {Lc L' : pL} {S S' : List Value} {h h' : pH} (X : p_CX p R s m args meth c k b B L xs aC D) (hk : p_ck k i 6 a y z t = true) (ho : o6 a Lc S h = some (L', S', h'))
    (kk : p_go p l e R s m args below meth c Q k b B L xs aC D cells slots (i + 1) L' S' h') : p_go p l e R s m args below meth c Q k b B L xs aC D cells slots i Lc S h := by
  intro ls H locs hL hn hH hz
  unfold o6 at ho
  split at ho
  · rename_i y0 x0 S0
    cases ho
    have kk := kk ls H locs hL hn hH hz
    obtain ⟨hx, hb, -⟩ := X
    simp only [p_ck] at hk
    split at hk
    · obtain ⟨hd, hp⟩ := p_de_spec hk
      rw [hp] at kk
      exact lv_iadd hx hb hd kk
    · obtain ⟨hd, hp⟩ := p_de_spec hk
      rw [hp] at kk
      exact lv_isub hx hb hd kk
    · obtain ⟨hd, hp⟩ := p_de_spec hk
      rw [hp] at kk
      exact lv_imul hx hb hd kk
    · obtain ⟨hd, hp⟩ := p_de_spec hk
      rw [hp] at kk
      exact lv_iand hx hb hd kk
    · obtain ⟨hd, hp⟩ := p_de_spec hk
      rw [hp] at kk
      exact lv_ior hx hb hd kk
    · obtain ⟨hd, hp⟩ := p_de_spec hk
      rw [hp] at kk
      exact lv_ixor hx hb hd kk
    · obtain ⟨hd, hp⟩ := p_de_spec hk
      rw [hp] at kk
      exact lv_ishl hx hb hd kk
    · obtain ⟨hd, hp⟩ := p_de_spec hk
      rw [hp] at kk
      exact lv_ishr hx hb hd kk
    · obtain ⟨hd, hp⟩ := p_de_spec hk
      rw [hp] at kk
      refine lv_iushr hx hb hd ?_ kk
      unfold p_alu
      split <;> first | rfl | (exfalso; simp_all; done)
  · cases ho
theorem s_7 {a y : Nat} {z : Int32} {t : List Nat} {Lc L' : pL} {S S' : List Value} {h h' : pH} (X : p_CX p R s m args meth c k b B L xs aC D) (hk : p_ck k i 7 a y z t = true) (ho : o7 Lc S h = some (L', S', h'))
    (kk : p_go p l e R s m args below meth c Q k b B L xs aC D cells slots (i + 1) L' S' h') : p_go p l e R s m args below meth c Q k b B L xs aC D cells slots i Lc S h := by
  intro ls H locs hL hn hH hz
  unfold o7 at ho
  split at ho
  · cases ho
    have kk := kk ls H locs hL hn hH hz
    obtain ⟨hx, hb, -⟩ := X
    simp only [p_ck] at hk
    obtain ⟨hd, hp⟩ := p_de_spec hk
    rw [hp] at kk
    exact lv_ineg hx hb hd kk
  · cases ho
theorem s_8 {a y : Nat} {z : Int32} {t : List Nat} {Lc L' : pL} {S S' : List Value} {h h' : pH} (X : p_CX p R s m args meth c k b B L xs aC D) (hk : p_ck k i 8 a y z t = true) (ho : o8 Lc S h = some (L', S', h'))
    (kk : p_go p l e R s m args below meth c Q k b B L xs aC D cells slots (i + 1) L' S' h') : p_go p l e R s m args below meth c Q k b B L xs aC D cells slots i Lc S h := by
  intro ls H locs hL hn hH hz
  unfold o8 at ho
  split at ho
  · split at ho
    · cases ho
    · rename_i hne
      cases ho
      have kk := kk ls H locs hL hn hH hz
      obtain ⟨hx, hb, -⟩ := X
      simp only [p_ck] at hk
      obtain ⟨hd, hp⟩ := p_de_spec hk
      rw [hp] at kk
      exact lv_irem hx hb hd hne kk
  · cases ho
theorem s_9 {a y : Nat} {z : Int32} {t : List Nat} {Lc L' : pL} {S S' : List Value} {h h' : pH} (X : p_CX p R s m args meth c k b B L xs aC D) (hk : p_ck k i 9 a y z t = true) (ho : o9 Lc S h = some (L', S', h'))
    (kk : p_go p l e R s m args below meth c Q k b B L xs aC D cells slots (i + 1) L' S' h') : p_go p l e R s m args below meth c Q k b B L xs aC D cells slots i Lc S h := by
  intro ls H locs hL hn hH hz
  unfold o9 at ho
  split at ho
  · cases ho
    have kk := kk ls H locs hL hn hH hz
    obtain ⟨hx, hb, -⟩ := X
    simp only [p_ck] at hk
    obtain ⟨hd, hp⟩ := p_de_spec hk
    rw [hp] at kk
    exact lv_i2c hx hb hd rfl kk
  · cases ho
theorem s_10 {a y : Nat} {z : Int32} {t : List Nat} {Lc L' : pL} {S S' : List Value} {h h' : pH} (X : p_CX p R s m args meth c k b B L xs aC D) (hk : p_ck k i 10 a y z t = true) (ho : o10 Lc S h = some (L', S', h'))
    (kk : p_go p l e R s m args below meth c Q k b B L xs aC D cells slots (i + 1) L' S' h') : p_go p l e R s m args below meth c Q k b B L xs aC D cells slots i Lc S h := by
  intro ls H locs hL hn hH hz
  unfold o10 at ho
  split at ho
  · split at ho
    · rename_i hc
      cases ho
      have kk := kk ls H locs hL hn hH hz
      obtain ⟨hx, hb, -⟩ := X
      simp only [p_ck] at hk
      obtain ⟨hd, hp⟩ := p_de_spec hk
      rw [hp] at kk
      exact lv_dup hx hb hd (by rw [p_tv_cat]; exact hc) kk
    · cases ho
  · cases ho
theorem s_11 {a y : Nat} {z : Int32} {t : List Nat} {Lc L' : pL} {S S' : List Value} {h h' : pH} (X : p_CX p R s m args meth c k b B L xs aC D) (hk : p_ck k i 11 a y z t = true) (ho : o11 Lc S h = some (L', S', h'))
    (kk : p_go p l e R s m args below meth c Q k b B L xs aC D cells slots (i + 1) L' S' h') : p_go p l e R s m args below meth c Q k b B L xs aC D cells slots i Lc S h := by
  intro ls H locs hL hn hH hz
  unfold o11 at ho
  split at ho
  · split at ho
    · rename_i hc
      cases ho
      have kk := kk ls H locs hL hn hH hz
      obtain ⟨hx, hb, -⟩ := X
      simp only [p_ck] at hk
      obtain ⟨hd, hp⟩ := p_de_spec hk
      rw [hp] at kk
      exact lv_dup2_11 hx hb hd (by rw [p_tv_cat]; exact hc.1) (by rw [p_tv_cat]; exact hc.2) kk
    · cases ho
  · cases ho
theorem s_12 {a y : Nat} {z : Int32} {t : List Nat} {Lc L' : pL} {S S' : List Value} {h h' : pH} (X : p_CX p R s m args meth c k b B L xs aC D) (hk : p_ck k i 12 a y z t = true) (ho : o12 Lc S h = some (L', S', h'))
    (kk : p_go p l e R s m args below meth c Q k b B L xs aC D cells slots (i + 1) L' S' h') : p_go p l e R s m args below meth c Q k b B L xs aC D cells slots i Lc S h := by
  intro ls H locs hL hn hH hz
  unfold o12 at ho
  split at ho
  · split at ho
    · rename_i hc
      cases ho
      have kk := kk ls H locs hL hn hH hz
      obtain ⟨hx, hb, -⟩ := X
      simp only [p_ck] at hk
      obtain ⟨hd, hp⟩ := p_de_spec hk
      rw [hp] at kk
      exact lv_pop hx hb hd (by rw [p_tv_cat]; exact hc) kk
    · cases ho
  · cases ho
theorem s_13 {a y : Nat} {z : Int32} {t : List Nat} {Lc L' : pL} {S S' : List Value} {h h' : pH} (X : p_CX p R s m args meth c k b B L xs aC D) (hk : p_ck k i 13 a y z t = true) (ho : o13 y Lc S h = some (L', S', h'))
    (kk : p_go p l e R s m args below meth c Q k b B L xs aC D cells slots (i + 1) L' S' h') : p_go p l e R s m args below meth c Q k b B L xs aC D cells slots i Lc S h := by
  intro ls H locs hL hn hH hz
  unfold o13 at ho
  split at ho
  · split at ho
    · split at ho
      · rename_i j o S0 _ kd n hc hcc
        obtain ⟨rfl, hin⟩ := hcc
        cases ho
        have kk := kk ls H locs hL hn hH hz
        obtain ⟨hx, hb, hr, hml, hown, hts, -, -, hK, -, -, hX, hbB, hBs, -⟩ := X
        obtain ⟨a1, a2, a3, a4, hP, hS⟩ := hH
        have hv := p_in_vp hin
        by_cases h0 : o = 0
        · subst h0
          have e0 := hc.symm.trans a3
          cases e0
          simp only [p_ck] at hk
          obtain ⟨hd, hp⟩ := p_de_spec hk
          rw [hp] at kk
          have hlt : j.toNatClampNeg < L := Nat.not_le.mp fun q => hv (Or.inr q)
          rw [a4 _ hlt] at kk
          exact va_sld hx hb hX (Nat.lt_of_lt_of_le hbB hBs) (A := fun q => B ≤ q) (Nat.not_le.mpr hbB) hS hv hd kk
        · have hat := p_ws_at (b := b) (B := B) (aC := aC) hc (Nat.pos_of_ne_zero h0)
          simp only [p_ck] at hk
          split at hk
          · obtain ⟨hd, hp⟩ := p_de_spec hk
            rw [hp] at kk
            rw [p_en_arr (by decide) (by decide)] at hat
            exact va_iald hx hb hK hP (o - 1) 0 hat rfl hv hd kk
          · obtain ⟨hd, hp⟩ := p_de_spec hk
            rw [hp] at kk
            rw [p_en_arr (by decide) (by decide)] at hat
            exact va_cald hx hb hK hP (o - 1) 1 hat rfl hv hd kk
          · cases hk
      · cases ho
    · cases ho
  · cases ho
theorem s_14 {a y : Nat} {z : Int32} {t : List Nat} {Lc L' : pL} {S S' : List Value} {h h' : pH} (X : p_CX p R s m args meth c k b B L xs aC D) (hk : p_ck k i 14 a y z t = true) (ho : o14 Lc S h = some (L', S', h'))
    (kk : p_go p l e R s m args below meth c Q k b B L xs aC D cells slots (i + 1) L' S' h') : p_go p l e R s m args below meth c Q k b B L xs aC D cells slots i Lc S h := by
  intro ls H locs hL hn hH hz
  unfold o14 at ho
  split at ho
  · split at ho
    · split at ho
      · rename_i j o S0 _ kd n hc hcc
        obtain ⟨rfl, h1, hin⟩ := hcc
        cases ho
        have kk := kk ls H locs hL hn hH hz
        obtain ⟨hx, hb, hr, hml, hown, hts, -, -, hK, -, -, hX, hbB, hBs, -⟩ := X
        obtain ⟨a1, a2, a3, a4, hP, hS⟩ := hH
        have hv := p_in_vp hin
        have hat := p_ws_at (b := b) (B := B) (aC := aC) hc h1
        simp only [p_ck] at hk
        obtain ⟨hd, hp⟩ := p_de_spec hk
        rw [hp] at kk
        rw [p_en_q] at hat
        simp only [List.map_cons, p_tv_rf] at kk
        exact va_aldq hx hb hK hP (o - 1) 3 hat rfl hv hd kk
      · cases ho
    · cases ho
  · cases ho
theorem s_15 {a y : Nat} {z : Int32} {t : List Nat} {Lc L' : pL} {S S' : List Value} {h h' : pH} (X : p_CX p R s m args meth c k b B L xs aC D) (hk : p_ck k i 15 a y z t = true) (ho : o15 y Lc S h = some (L', S', h'))
    (kk : p_go p l e R s m args below meth c Q k b B L xs aC D cells slots (i + 1) L' S' h') : p_go p l e R s m args below meth c Q k b B L xs aC D cells slots i Lc S h := by
  intro ls H locs hL hn hH hz
  obtain ⟨sh, ρ, rf⟩ := h
  unfold o15 at ho
  split at ho
  · split at ho
    · split at ho
      · rename_i v j o S0 _ kd n hc hcc
        obtain ⟨rfl, h1, hin, hfit⟩ := hcc
        cases ho
        obtain ⟨hx, hb, hr, hml, hown, hts, -, -, hK, -, -, hX, hbB, hBs, -⟩ := X
        have hH0 := hH
        obtain ⟨a1, a2, a3, a4, hP, hS⟩ := hH
        have hv := p_in_vp hin
        have hat := p_ws_at (b := b) (B := B) (aC := aC) hc h1
        simp only [p_ck] at hk
        split at hk
        · obtain ⟨hd, hp⟩ := p_de_spec hk
          rw [p_en_arr (by decide) (by decide)] at hat
          refine va_iast hx hb hK hP (p_wsD _) (p_S_self hS) (o - 1) 0 hat rfl hv hd (fun H1 locs1 hP1 hD1 hS1 => p_szW fun hle => ?_)
          obtain ⟨g1, g2⟩ := p_HI_st (ρ' := u2 ρ o j.toNatClampNeg v) (rf' := rf) hH0 hz hc h1 (fun x hx => u2_ne hx) (fun _ _ => rfl) hP1 (by rw [p_en_arr (by decide) (by decide), u2_at]) hS1 hle
          have kk := kk ls H1 locs1 hL hn g1 g2
          rw [hp] at kk
          exact kk
        · obtain ⟨hd, hp⟩ := p_de_spec hk
          rw [p_en_arr (by decide) (by decide)] at hat
          have hfit : vp_nar .char v = v := of_decide_eq_true hfit
          refine va_cast hx hb hK hP (p_wsD _) (p_S_self hS) (o - 1) 1 hat rfl hv hd (fun H1 locs1 hP1 hD1 hS1 => p_szW fun hle => ?_)
          rw [hfit] at hP1
          obtain ⟨g1, g2⟩ := p_HI_st (ρ' := u2 ρ o j.toNatClampNeg v) (rf' := rf) hH0 hz hc h1 (fun x hx => u2_ne hx) (fun _ _ => rfl) hP1 (by rw [p_en_arr (by decide) (by decide), u2_at]) hS1 hle
          have kk := kk ls H1 locs1 hL hn g1 g2
          rw [hp] at kk
          exact kk
        · cases hk
      · cases ho
    · cases ho
  · cases ho
end
