/-! further instructions: stores of references, fields, new cells, branches -/
theorem p_def : ∀ a, a < 6 → ∀ j, j < p_N a → defaultValue (p_ty a j) = if p_isI a j = true then Value.int 0 else Value.null := by decide +kernel
theorem p_fin_ok : ∀ a, a < 6 → ∀ j, j < p_N a → (p_isI a j = true → p_isZ a j = false → p_ty a j = .int) ∧ (p_isZ a j = true → p_ty a j = .boolean) := by decide +kernel
theorem p_refty : ∀ a, a < 6 → ∀ j, j < p_N a → p_isI a j = false → ∀ x : Bool, (match p_ty a j with | .object _ => true | .array _ => true | _ => false) = true := by decide +kernel
theorem p_obj : lw_tbl[24]? = some (.instanceMethod objectInit) ∧ lw_tbl[25]? = some (.code objectInit ⟨#[0xb1]⟩ 1 none) := by decide +kernel
theorem p_acp : lw_tbl[208]? = some (.methodLink RX4 278 arraycopyName) ∧ lw_tbl[209]? = some (.static arraycopyName) ∧ lw_tbl[210]? = some (.native arraycopyName) ∧ lw_tbl[17]? = some (.initialized "java/lang/System") := by decide +kernel
theorem p_mx : lw_tbl[544]? = some (.static Lib.Math.max.name) ∧ lw_tbl[545]? = some (.code Lib.Math.max.name Lib.Math.max.code 2 (some .int)) ∧ lw_tbl[206]? = some (.static Lib.Math.min.name) ∧ lw_tbl[207]? = some (.code Lib.Math.min.name Lib.Math.min.code 2 (some .int)) ∧ lw_tbl[16]? = some (.initialized "java/lang/Math") := by decide +kernel
theorem p_acl : lw_tbl[90]? = some (.arrayClass .int) ∧ lw_tbl[162]? = some (.arrayClass .char) ∧ lw_tbl[621]? = some (.arrayClass .long) := by decide +kernel
theorem p_narrow {a j : Nat} (ha : a < 6) (hj : j < p_N a) {x : Int32} (hI : p_isI a j = true) (hz : p_z (p_isZ a j) x = true) : narrow (p_ty a j) (.int x) = .int x ∧ fits (p_ty a j) (.int x) = true := by
  obtain ⟨h1, h2⟩ := p_fin_ok a ha j hj
  cases hb : p_isZ a j with
  | false =>
    rw [h1 hI hb]
    exact ⟨rfl, rfl⟩
  | true =>
    rw [h2 hb]
    rw [hb] at hz
    simp only [p_z, Bool.not_true, Bool.false_or, Bool.or_eq_true, beq_iff_eq] at hz
    rcases hz with rfl | rfl <;> exact ⟨rfl, rfl⟩
theorem p_narrowq {a j : Nat} (ha : a < 6) (hj : j < p_N a) {x : Nat} (hI : p_isI a j = false) : narrow (p_ty a j) (.ref x) = .ref x ∧ fits (p_ty a j) (.ref x) = true := by
  have h := p_refty a ha j hj hI true
  split at h
  · rename_i C e
    rw [e]
    exact ⟨rfl, rfl⟩
  · rename_i C e
    rw [e]
    exact ⟨rfl, rfl⟩
  · cases h
theorem p_len0 {h : List (Nat × Nat)} {o : Nat} {q : Nat × Nat} (hk : h[o]? = some q) : o < h.length := (List.getElem?_eq_some_iff.mp hk).1
section
variable {p : Program} {l : Launch} {e : Env} {R : Room} {s : State} {m : MethodId} {args : Array Value} {below : List Frame} {meth : Method} {c : Code} {Q : State → Prop} {k b B L : Nat} {xs : Nat → Int32} {aC : Nat → ClassId} {D : va_G} {cells slots i : Nat}
theorem s_16 {a y : Nat} {z : Int32} {t : List Nat} {Lc L' : pL} {S S' : List Value} {h h' : pH} (X : p_CX p R s m args meth c k b B L xs aC D) (hk : p_ck k i 16 a y z t = true) (ho : o16 Lc S h = some (L', S', h'))
    (kk : p_go p l e R s m args below meth c Q k b B L xs aC D cells slots (i + 1) L' S' h') : p_go p l e R s m args below meth c Q k b B L xs aC D cells slots i Lc S h := by
  intro ls H locs hL hn hH hz
  obtain ⟨sh, ρ, rf⟩ := h
  unfold o16 at ho
  split at ho
  · split at ho
    · split at ho
      · rename_i v j o S0 _ _ kd n kv nv hc hcv hcc
        obtain ⟨rfl, h1, hin, rfl, h1v⟩ := hcc
        cases ho
        obtain ⟨hx, hb, hr, hml, hown, hts, -, -, hK, -, -, hX, hbB, hBs, -⟩ := X
        have hH0 := hH
        obtain ⟨a1, a2, a3, a4, hP, hS⟩ := hH
        have hv := p_in_vp hin
        have hat := p_ws_at (b := b) (B := B) (aC := aC) hc h1
        have hatv := p_ws_at (b := b) (B := B) (aC := aC) hcv h1v
        rw [p_en_q] at hat
        rw [p_en_o (by decide)] at hatv
        simp only [p_ck] at hk
        obtain ⟨hd, hp⟩ := p_de_spec hk
        refine va_astq (r := (RX2, TX2, 2)) hx hb hK hP (p_wsD _) (p_S_self hS) (o - 1) 3 (v - 1) 2 hat rfl hatv rfl hv hd (fun H1 locs1 hP1 hD1 hS1 => p_szW fun hle => ?_)
        obtain ⟨g1, g2⟩ := p_HI_st (ρ' := ρ) (rf' := q2 rf o j.toNatClampNeg (some v)) hH0 hz hc h1 (fun _ _ => rfl) (fun x hx => q2_ne hx) hP1 (by
          rw [p_en_q]
          congr 6
          refine congrArg Sum.inr ?_
          funext x
          rw [q2_at]
          unfold va_up
          split <;> rfl) hS1 hle
        have kk := kk ls H1 locs1 hL hn g1 g2
        rw [hp] at kk
        exact kk
      · cases ho
    · cases ho
  · cases ho
theorem s_17 {a y : Nat} {z : Int32} {t : List Nat} {Lc L' : pL} {S S' : List Value} {h h' : pH} (X : p_CX p R s m args meth c k b B L xs aC D) (hk : p_ck k i 17 a y z t = true) (ho : o17 Lc S h = some (L', S', h'))
    (kk : p_go p l e R s m args below meth c Q k b B L xs aC D cells slots (i + 1) L' S' h') : p_go p l e R s m args below meth c Q k b B L xs aC D cells slots i Lc S h := by
  intro ls H locs hL hn hH hz
  unfold o17 at ho
  split at ho
  · split at ho
    · split at ho
      · rename_i o S0 _ kd n hc hcc
        cases ho
        have kk := kk ls H locs hL hn hH hz
        obtain ⟨hx, hb, hr, hml, hown, hts, -, -, hK, -, -, hX, hbB, hBs, -⟩ := X
        obtain ⟨a1, a2, a3, a4, hP, hS⟩ := hH
        simp only [p_ck] at hk
        obtain ⟨hd, hp⟩ := p_de_spec hk
        rw [hp] at kk
        by_cases h0 : o = 0
        · subst h0
          have e0 := hc.symm.trans a3
          cases e0
          exact va_slen hx hb hX (Nat.lt_of_lt_of_le hbB hBs) (A := fun q => B ≤ q) (Nat.not_le.mpr hbB) hS hd kk
        · have hat := p_ws_at (b := b) (B := B) (aC := aC) hc (Nat.pos_of_ne_zero h0)
          rcases (show kd = 10 ∨ kd = 11 ∨ kd = 12 ∨ kd = 13 by omega) with rfl | rfl | rfl | rfl
          · rw [p_en_arr (by decide) (by decide)] at hat
            exact va_alen hx hb hK hP (o - 1) 0 hat rfl rfl hd kk
          · rw [p_en_arr (by decide) (by decide)] at hat
            exact va_alen hx hb hK hP (o - 1) 1 hat rfl rfl hd kk
          · rw [p_en_l] at hat
            exact va_alen hx hb hK hP (o - 1) 2 hat rfl rfl hd kk
          · rw [p_en_q] at hat
            exact va_alen hx hb hK hP (o - 1) 3 hat rfl rfl hd kk
      · cases ho
    · cases ho
  · cases ho
theorem s_18 {a y : Nat} {z : Int32} {t : List Nat} {Lc L' : pL} {S S' : List Value} {h h' : pH} (X : p_CX p R s m args meth c k b B L xs aC D) (hk : p_ck k i 18 a y z t = true) (ho : o18 a y Lc S h = some (L', S', h'))
    (kk : p_go p l e R s m args below meth c Q k b B L xs aC D cells slots (i + 1) L' S' h') : p_go p l e R s m args below meth c Q k b B L xs aC D cells slots i Lc S h := by
  intro ls H locs hL hn hH hz
  unfold o18 at ho
  split at ho
  · split at ho
    · split at ho
      · rename_i o S0 _ kd n hc hcc
        obtain ⟨rfl, h6, rfl, hy, h1⟩ := hcc
        cases ho
        have kk := kk ls H locs hL hn hH hz
        obtain ⟨hx, hb, hr, hml, hown, hts, -, -, hK, -, -, hX, hbB, hBs, -⟩ := X
        obtain ⟨a1, a2, a3, a4, hP, hS⟩ := hH
        simp only [p_ck, Bool.and_eq_true] at hk
        obtain ⟨hd, hp⟩ := p_de_spec hk.1
        obtain ⟨-, -, hl⟩ := p_fl_spec hk.2
        rw [hp] at kk
        have hat := p_ws_at (b := b) (B := B) (aC := aC) hc h1
        rw [p_en_o h6] at hat
        refine va_get (ref := p_cn kd) hx hb hts (p_layG h6) hown hK hP (o - 1) hat (p_cls kd h6) y hy (hts _ hl) (fun x hx => by rw [← p_own kd h6 y hy]; exact hx) (v := p_tv b B (if p_isI kd y = true then .int (h.2.1 o y) else va_rf (h.2.2 o y))) ?_ hd kk
        unfold p_fs
        rw [List.getElem?_map, List.getElem?_range hy]
        simp only [Option.map_some]
        split
        · rfl
        · rw [p_tv_rf]
      · cases ho
    · cases ho
  · cases ho
theorem s_19 {a y : Nat} {z : Int32} {t : List Nat} {Lc L' : pL} {S S' : List Value} {h h' : pH} (X : p_CX p R s m args meth c k b B L xs aC D) (hk : p_ck k i 19 a y z t = true) (ho : o19 a y Lc S h = some (L', S', h'))
    (kk : p_go p l e R s m args below meth c Q k b B L xs aC D cells slots (i + 1) L' S' h') : p_go p l e R s m args below meth c Q k b B L xs aC D cells slots i Lc S h := by
  intro ls H locs hL hn hH hz
  obtain ⟨sh, ρ, rf⟩ := h
  obtain ⟨hx, hb, hr, hml, hown, hts, -, -, hK, -, -, hX, hbB, hBs, -⟩ := X
  simp only [p_ck, Bool.and_eq_true, Bool.not_eq_true'] at hk
  obtain ⟨hd, hp⟩ := p_de_spec hk.1.1
  obtain ⟨-, -, hl⟩ := p_fl_spec hk.1.2
  have hH0 := hH
  obtain ⟨a1, a2, a3, a4, hP, hS⟩ := hH
  unfold o19 at ho
  split at ho
  · split at ho
    · split at ho
      · rename_i v o S0 _ kd n hc hcc
        obtain ⟨rfl, h6, rfl, hy, h1, hI, hZ⟩ := hcc
        cases ho
        have hat := p_ws_at (b := b) (B := B) (aC := aC) hc h1
        rw [p_en_o h6] at hat
        obtain ⟨hn1, hn2⟩ := p_narrow h6 hy hI hZ
        refine va_put (ref := p_cn kd) hx hb hts (p_layG h6) (p_ty kd) (p_tyok kd h6) (p_nm kd h6) hown hK hP (p_wsD _) (p_S_self hS) (o - 1) hat (p_cls kd h6) y hy (hts _ hl) (fun x hx => by rw [← p_own kd h6 y hy]; exact hx) hk.2 (p_tyok kd h6 y hy) hn1 hn2 (by unfold p_fs; simpa using hy) hd (fun H1 locs1 hP1 hD1 hS1 => p_szW fun hle => ?_)
        obtain ⟨g1, g2⟩ := p_HI_st (ρ' := u2 ρ o y v) (rf' := rf) hH0 hz hc h1 (fun x hx => u2_ne hx) (fun _ _ => rfl) hP1 (by rw [p_en_o h6, ← p_fs_put hy hI]; rfl) hS1 hle
        have kk := kk ls H1 locs1 hL hn g1 g2
        rw [hp] at kk
        exact kk
      · cases ho
    · cases ho
  · split at ho
    · split at ho
      · rename_i v o S0 _ kd n hc hcc
        obtain ⟨rfl, h6, rfl, hy, h1, hI⟩ := hcc
        cases ho
        have hat := p_ws_at (b := b) (B := B) (aC := aC) hc h1
        rw [p_en_o h6] at hat
        obtain ⟨hn1, hn2⟩ := p_narrowq (x := p_ad b B v) h6 hy hI
        refine va_put (ref := p_cn kd) hx hb hts (p_layG h6) (p_ty kd) (p_tyok kd h6) (p_nm kd h6) hown hK hP (p_wsD _) (p_S_self hS) (o - 1) hat (p_cls kd h6) y hy (hts _ hl) (fun x hx => by rw [← p_own kd h6 y hy]; exact hx) hk.2 (p_tyok kd h6 y hy) hn1 hn2 (by unfold p_fs; simpa using hy) hd (fun H1 locs1 hP1 hD1 hS1 => p_szW fun hle => ?_)
        obtain ⟨g1, g2⟩ := p_HI_st (ρ' := ρ) (rf' := q2 rf o y (some v)) hH0 hz hc h1 (fun _ _ => rfl) (fun x hx => q2_ne hx) hP1 (by rw [p_en_o h6, ← p_fs_putq hy hI]; rfl) hS1 hle
        have kk := kk ls H1 locs1 hL hn g1 g2
        rw [hp] at kk
        exact kk
      · cases ho
    · cases ho
  · cases ho
theorem s_20 {a y : Nat} {z : Int32} {t : List Nat} {Lc L' : pL} {S S' : List Value} {h h' : pH} (X : p_CX p R s m args meth c k b B L xs aC D) (hk : p_ck k i 20 a y z t = true) (ho : o19 a y Lc S h = some (L', S', h'))
    (kk : p_go p l e R s m args below meth c Q k b B L xs aC D cells slots (i + 1) L' S' h') : p_go p l e R s m args below meth c Q k b B L xs aC D cells slots i Lc S h := by
  intro ls H locs hL hn hH hz
  obtain ⟨sh, ρ, rf⟩ := h
  obtain ⟨hx, hb, hr, hml, hown, hts, -, hini, hK, -, -, hX, hbB, hBs, -⟩ := X
  simp only [p_ck, Bool.and_eq_true, beq_iff_eq, decide_eq_true_eq] at hk
  obtain ⟨⟨⟨⟨hk1, hk2⟩, hk3⟩, hk4⟩, hk5⟩ := hk
  obtain ⟨hd, hp⟩ := p_de_spec hk1
  obtain ⟨-, -, hl⟩ := p_fl_spec hk2
  have hH0 := hH
  obtain ⟨a1, a2, a3, a4, hP, hS⟩ := hH
  unfold o19 at ho
  split at ho
  · split at ho
    · split at ho
      · rename_i v o S0 _ kd n hc hcc
        obtain ⟨rfl, h6, rfl, hy, h1, hI, hZ⟩ := hcc
        cases ho
        have hat := p_ws_at (b := b) (B := B) (aC := aC) hc h1
        rw [p_en_o h6] at hat
        obtain ⟨hn1, hn2⟩ := p_narrow h6 hy hI hZ
        refine va_putF (ref := p_cn kd) hx hb hts (p_layG h6) (p_ty kd) (p_tyok kd h6) (p_nm kd h6) hown hK hP (p_wsD _) (p_S_self hS) (o - 1) hat (p_cls kd h6) y hy (hts _ hl) (fun x hx => by rw [← p_own kd h6 y hy]; exact hx) hk3 (hini hk4) hk5 (p_tyok kd h6 y hy) hn1 hn2 (by unfold p_fs; simpa using hy) hd (fun H1 locs1 hP1 hD1 hS1 => p_szW fun hle => ?_)
        obtain ⟨g1, g2⟩ := p_HI_st (ρ' := u2 ρ o y v) (rf' := rf) hH0 hz hc h1 (fun x hx => u2_ne hx) (fun _ _ => rfl) hP1 (by rw [p_en_o h6, ← p_fs_put hy hI]; rfl) hS1 hle
        have kk := kk ls H1 locs1 hL hn g1 g2
        rw [hp] at kk
        exact kk
      · cases ho
    · cases ho
  · split at ho
    · split at ho
      · rename_i v o S0 _ kd n hc hcc
        obtain ⟨rfl, h6, rfl, hy, h1, hI⟩ := hcc
        cases ho
        have hat := p_ws_at (b := b) (B := B) (aC := aC) hc h1
        rw [p_en_o h6] at hat
        obtain ⟨hn1, hn2⟩ := p_narrowq (x := p_ad b B v) h6 hy hI
        refine va_putF (ref := p_cn kd) hx hb hts (p_layG h6) (p_ty kd) (p_tyok kd h6) (p_nm kd h6) hown hK hP (p_wsD _) (p_S_self hS) (o - 1) hat (p_cls kd h6) y hy (hts _ hl) (fun x hx => by rw [← p_own kd h6 y hy]; exact hx) hk3 (hini hk4) hk5 (p_tyok kd h6 y hy) hn1 hn2 (by unfold p_fs; simpa using hy) hd (fun H1 locs1 hP1 hD1 hS1 => p_szW fun hle => ?_)
        obtain ⟨g1, g2⟩ := p_HI_st (ρ' := ρ) (rf' := q2 rf o y (some v)) hH0 hz hc h1 (fun _ _ => rfl) (fun x hx => q2_ne hx) hP1 (by rw [p_en_o h6, ← p_fs_putq hy hI]; rfl) hS1 hle
        have kk := kk ls H1 locs1 hL hn g1 g2
        rw [hp] at kk
        exact kk
      · cases ho
    · cases ho
  · cases ho
/-- a new cell: its address is the next one -/
theorem p_HI_new {sh : List (Nat × Nat)} {ρ : pR} {rf : pF} {H H1 : Heap} {locs locs1 : List Loc} {q : Nat} {x : Nat × Nat} {E : va_E} (hH : p_HI b B L xs aC D s (sh, ρ, rf) H locs) (hz : H.size = s.heap.size + cells)
    (hP1 : va_P D p_cl (p_ws b B aC (sh, ρ, rf) ++ [(q, E)]) H1) (hD1 : va_D (fun q => B ≤ q) (p_ws b B aC (sh, ρ, rf) ++ [(q, E)])) (hE : E = p_en b B aC (z2 ρ sh.length) (n2 rf sh.length) sh.length x) (hS1 : va_S (fun q => B ≤ q) s.heap H1 locs1) (hle : H1.size ≤ s.heap.size + (cells + 1)) :
    q = p_ad b B sh.length ∧ p_HI b B L xs aC D s (sh ++ [x], z2 ρ sh.length, n2 rf sh.length) H1 locs1 ∧ H1.size = s.heap.size + (cells + 1) := by
  obtain ⟨a1, a2, a3, a4, a5, a6⟩ := hH
  dsimp only at a1 a2 a3 a4
  have hlen : (p_ws b B aC (sh, ρ, rf)).length = sh.length - 1 := by simp [p_ws]
  have hq : (p_ws b B aC (sh, ρ, rf) ++ [(q, E)])[sh.length - 1]? = some (q, E) := by
    rw [List.getElem?_append_right (by omega), hlen, Nat.sub_self]
    rfl
  have hlt := (hP1 _ _ hq).lt
  have hB : B ≤ q := hD1.2 _ _ hq
  have hne : ¬ q < B + (sh.length - 1) := fun hlt2 => by
    have hj : q - B < sh.length - 1 := by omega
    have h1 : (p_ws b B aC (sh, ρ, rf))[q - B]? = some (B + (q - B), p_en b B aC ρ rf (q - B + 1) (sh.getD (q - B + 1) (0, 0))) := by
      unfold p_ws
      rw [List.getElem?_map, List.getElem?_range hj]
      rfl
    have h2 : (p_ws b B aC (sh, ρ, rf) ++ [(q, E)])[q - B]? = some (B + (q - B), p_en b B aC ρ rf (q - B + 1) (sh.getD (q - B + 1) (0, 0))) := by
      rw [List.getElem?_append_left (by rw [hlen]; exact hj)]
      exact h1
    have h3 := hD1.1 _ _ _ _ h2 hq (by show B + (q - B) = q; omega)
    omega
  have hlt : q < H1.size := hlt
  have hqe : q = B + (sh.length - 1) := by omega
  have hsz : H1.size = H.size + 1 := by omega
  refine ⟨by rw [hqe]; unfold p_ad; rw [if_neg (by omega)], ⟨by simp, ?_, ?_, fun j hj => ?_, ?_, hS1⟩, by omega⟩
  · simp only [List.length_append, List.length_singleton]
    omega
  · show (sh ++ [x])[0]? = some (10, L)
    rw [List.getElem?_append_left (by omega)]
    exact a3
  · show z2 ρ sh.length 0 j = xs j
    unfold z2
    rw [if_neg (by omega)]
    exact a4 j hj
  · rw [p_ws_push (ρ := ρ) (ρ' := z2 ρ sh.length) (rf := rf) (rf' := n2 rf sh.length) a1 (fun y hy => by unfold z2; rw [if_neg (by omega)]) (fun y hy => by unfold n2; rw [if_neg (by omega)]), ← hE, ← hqe]
    exact hP1
theorem p_iniG {o : Nat} (ho : o < 9) : Cond.initialized (p_cn o) ∈ p_G := p_Gm (p_ini o ho) rfl
theorem s_21 {a y : Nat} {z : Int32} {t : List Nat} {Lc L' : pL} {S S' : List Value} {h h' : pH} (X : p_CX p R s m args meth c k b B L xs aC D) (hk : p_ck k i 21 a y z t = true) (ho : o21 a Lc S h = some (L', S', h'))
    (hcl : cells + 1 ≤ R.cells) (hsl : slots + p_N a ≤ R.slots)
    (kk : p_go p l e R s m args below meth c Q k b B L xs aC D (cells + 1) (slots + p_N a) (i + 1) L' S' h') : p_go p l e R s m args below meth c Q k b B L xs aC D cells slots i Lc S h := by
  intro ls H locs hL hn hH hz
  obtain ⟨sh, ρ, rf⟩ := h
  obtain ⟨hx, hb, hr, hml, hown, hts, -, -, hK, -, -, hX, hbB, hBs, -⟩ := X
  unfold o21 at ho
  split at ho
  · rename_i hcc
    obtain ⟨h6, h1⟩ := hcc
    cases ho
    simp only [p_ck, Bool.and_eq_true] at hk
    obtain ⟨hd, hp⟩ := p_de_spec hk.1
    obtain ⟨q, hq, hq1⟩ := List.any_eq_true.mp hk.2
    simp only [Bool.and_eq_true, beq_iff_eq] at hq1
    have hlk := p_NL_ok q hq
    rw [hq1.1.1, hq1.1.2, hq1.2] at hlk
    have hH0 := hH
    obtain ⟨a1, a2, a3, a4, hP, hS⟩ := hH
    refine va_new (ci := a) (fs := p_fs b B (z2 ρ sh.length) (n2 rf sh.length) sh.length a (p_N a)) hx hb hts (p_layG h6) (p_ty a) (p_tyok a h6) hown (hts _ (p_Gm hlk rfl)) (hts _ (p_Gm (p_ins a h6) rfl)) (hts _ (p_iniG (by omega))) hK hP (p_wsD _) hS (fun q hq => Nat.le_trans hBs hq) (p_cls a h6) (fun j hj => ?_) hcl hsl hd (fun q H1 hP1 hD1 hS1 => p_szW fun hle => ?_)
    · rw [p_def a h6 j hj]
      unfold vp_V p_fs
      rw [List.getD_eq_getElem?_getD, List.getElem?_map, List.getElem?_range hj]
      simp only [Option.map_some, Option.getD_some]
      unfold z2 n2
      rw [if_pos rfl, if_pos rfl]
      split <;> rfl
    · obtain ⟨g0, g1, g2⟩ := p_HI_new (x := (a, p_N a)) hH0 hz hP1 hD1 (by rw [p_en_o h6]) hS1 hle
      have kk := kk ls H1 locs hL hn g1 g2
      rw [hp] at kk
      rw [g0]
      exact kk
  · cases ho
theorem p_aC {ty : FieldType} {cA : ClassId} {t0 : Nat} {ca : ClassId} (hK : va_K D p_cl (p_tys aC) s) (ht : (p_tys aC)[t0]? = some (ca, ty)) (hK1 : va_K D p_cl (p_tys aC ++ [(cA, ty)]) s) (h : ∀ cX, va_RA s cX ty → s.vm.findClass ("[" ++ ty.toString) = some cX) : cA = ca := by
  have h1 := h _ (hK.2 t0 _ ht).2
  have h2 := h _ (hK1.2 4 (cA, ty) rfl).2
  rw [h1] at h2
  exact (Option.some.inj h2).symm
theorem s_22 {a y : Nat} {z : Int32} {t : List Nat} {Lc L' : pL} {S S' : List Value} {h h' : pH} (X : p_CX p R s m args meth c k b B L xs aC D) (hk : p_ck k i 22 a y z t = true) (ho : o22 a Lc S h = some (L', S', h'))
    (hcl : cells + 1 ≤ R.cells) {sl : Nat} (he : ∀ n, S.head? = some (.int n) → sl = n.toNatClampNeg) (hsl : slots + sl ≤ R.slots)
    (kk : p_go p l e R s m args below meth c Q k b B L xs aC D (cells + 1) (slots + sl) (i + 1) L' S' h') : p_go p l e R s m args below meth c Q k b B L xs aC D cells slots i Lc S h := by
  intro ls H locs hL hn hH hz
  obtain ⟨sh, ρ, rf⟩ := h
  obtain ⟨hx, hb, hr, hml, hown, hts, -, -, hK, -, -, hX, hbB, hBs, -⟩ := X
  unfold o22 at ho
  split at ho
  · split at ho
    · rename_i n S0 hcc
      obtain ⟨hn0, hn1, h1, ha⟩ := hcc
      cases ho
      simp only [p_ck] at hk
      obtain ⟨hd, hp⟩ := p_de_spec hk
      have hH0 := hH
      obtain ⟨a1, a2, a3, a4, hP, hS⟩ := hH
      have e1 := he n rfl
      subst e1
      rcases ha with rfl | rfl | rfl
      · refine va_newa (a0 := (n.toNatClampNeg, .inl fun _ => 0)) hx hb (hts _ (p_Gm p_acl.1 rfl)) rfl hK hP (p_wsD _) hS (fun q hq => Nat.le_trans hBs hq) (fun cA => rfl) hn0 rfl (show n.toNatClampNeg * 4 ≤ _ by omega) hcl hsl hd (fun q cA H1 hK1 hP1 hD1 hS1 => p_szW fun hle => ?_)
        have e2 : cA = aC 10 := p_aC (t0 := 0) hK rfl hK1 (fun _ h => h)
        obtain ⟨g0, g1, g2⟩ := p_HI_new (x := (10, n.toNatClampNeg)) hH0 hz hP1 hD1 (by rw [p_en_arr (by decide) (by decide), e2]; unfold z2; rw [if_pos rfl]) hS1 hle
        have kk := kk ls H1 locs hL hn g1 g2
        rw [hp] at kk
        rw [g0]
        exact kk
      · refine va_newa (a0 := (n.toNatClampNeg, .inl fun _ => 0)) hx hb (hts _ (p_Gm p_acl.2.1 rfl)) rfl hK hP (p_wsD _) hS (fun q hq => Nat.le_trans hBs hq) (fun cA => rfl) hn0 rfl (show n.toNatClampNeg * 2 ≤ _ by omega) hcl hsl hd (fun q cA H1 hK1 hP1 hD1 hS1 => p_szW fun hle => ?_)
        have e2 : cA = aC 11 := p_aC (t0 := 1) hK rfl hK1 (fun _ h => h)
        obtain ⟨g0, g1, g2⟩ := p_HI_new (x := (11, n.toNatClampNeg)) hH0 hz hP1 hD1 (by rw [p_en_arr (by decide) (by decide), e2]; unfold z2; rw [if_pos rfl]) hS1 hle
        have kk := kk ls H1 locs hL hn g1 g2
        rw [hp] at kk
        rw [g0]
        exact kk
      · refine va_newa (a0 := (n.toNatClampNeg, .inr (.inl fun _ => 0))) hx hb (hts _ (p_Gm p_acl.2.2 rfl)) rfl hK hP (p_wsD _) hS (fun q hq => Nat.le_trans hBs hq) (fun cA => rfl) hn0 rfl (show n.toNatClampNeg * 8 ≤ _ by omega) hcl hsl hd (fun q cA H1 hK1 hP1 hD1 hS1 => p_szW fun hle => ?_)
        have e2 : cA = aC 12 := p_aC (t0 := 2) hK rfl hK1 (fun _ h => h)
        obtain ⟨g0, g1, g2⟩ := p_HI_new (x := (12, n.toNatClampNeg)) hH0 hz hP1 hD1 (by rw [p_en_l, e2]; unfold n2; rw [if_pos rfl]; rfl) hS1 hle
        have kk := kk ls H1 locs hL hn g1 g2
        rw [hp] at kk
        rw [g0]
        exact kk
    · cases ho
  · cases ho
theorem s_23 {a y : Nat} {z : Int32} {t : List Nat} {Lc L' : pL} {S S' : List Value} {h h' : pH} (X : p_CX p R s m args meth c k b B L xs aC D) (hk : p_ck k i 23 a y z t = true) (ho : o23 Lc S h = some (L', S', h'))
    (hcl : cells + 1 ≤ R.cells) {sl : Nat} (he : ∀ n, S.head? = some (.int n) → sl = n.toNatClampNeg) (hsl : slots + sl ≤ R.slots)
    (kk : p_go p l e R s m args below meth c Q k b B L xs aC D (cells + 1) (slots + sl) (i + 1) L' S' h') : p_go p l e R s m args below meth c Q k b B L xs aC D cells slots i Lc S h := by
  intro ls H locs hL hn hH hz
  obtain ⟨sh, ρ, rf⟩ := h
  obtain ⟨hx, hb, hr, hml, hown, hts, -, -, hK, -, hAO, hX, hbB, hBs, -⟩ := X
  unfold o23 at ho
  split at ho
  · split at ho
    · rename_i n S0 hcc
      obtain ⟨hn0, hn1, h1⟩ := hcc
      cases ho
      simp only [p_ck, Bool.and_eq_true] at hk
      obtain ⟨hd, hp⟩ := p_de_spec hk.1
      obtain ⟨q, hq, hq1⟩ := List.any_eq_true.mp hk.2
      simp only [Bool.and_eq_true, beq_iff_eq] at hq1
      have hlk := p_NL_ok q hq
      rw [hq1.1.1, hq1.1.2, hq1.2] at hlk
      have hH0 := hH
      obtain ⟨a1, a2, a3, a4, hP, hS⟩ := hH
      have e1 := he n rfl
      subst e1
      refine va_newq hx hb hown (hts _ (p_Gm hlk rfl)) hAO hK hP (p_wsD _) hS (fun q hq => Nat.le_trans hBs hq) hn0 rfl (by omega) hcl hsl hd (fun q cA H1 hK1 hP1 hD1 hS1 => p_szW fun hle => ?_)
      have e2 : cA = aC 13 := p_aC (t0 := 3) hK rfl hK1 (fun _ h => by obtain ⟨_, _, _, _, _, h4⟩ := h; exact h4)
      obtain ⟨g0, g1, g2⟩ := p_HI_new (x := (13, n.toNatClampNeg)) hH0 hz hP1 hD1 (by rw [p_en_q, e2]; unfold n2; rw [if_pos rfl]; rfl) hS1 hle
      have kk := kk ls H1 locs hL hn g1 g2
      rw [hp] at kk
      rw [g0]
      exact kk
    · cases ho
  · cases ho
theorem s_24 {a y : Nat} {z : Int32} {t : List Nat} {Lc L' : pL} {S S' : List Value} {h h' : pH} (X : p_CX p R s m args meth c k b B L xs aC D) (hk : p_ck k i 24 a y z t = true) (ho : o24 Lc S h = some (L', S', h'))
    (kk : p_go p l e R s m args below meth c Q k b B L xs aC D cells slots (i + 1) L' S' h') : p_go p l e R s m args below meth c Q k b B L xs aC D cells slots i Lc S h := by
  intro ls H locs hL hn hH hz
  obtain ⟨hx, hb, hr, hml, hown, hts, -, -, hK, -, -, hX, hbB, hBs, hfr, hlo, -⟩ := X
  unfold o24 at ho
  split at ho
  · split at ho
    · rename_i o S0 hcc
      cases ho
      have kk := kk ls H locs hL hn hH hz
      simp only [p_ck, Bool.and_eq_true, decide_eq_true_eq] at hk
      obtain ⟨⟨⟨hk1, hk2⟩, hk3⟩, hk4⟩ := hk
      obtain ⟨hd, hp⟩ := p_de_spec hk1
      obtain ⟨q, hq, hq1⟩ := List.any_eq_true.mp hk2
      simp only [Bool.and_eq_true, beq_iff_eq] at hq1
      have hlk := p_OL_ok q hq
      rw [hq1.1, hq1.2] at hlk
      rw [hp] at kk
      refine W.objInit hx hb hown (hts _ (p_Gm hlk rfl)) (hts _ (p_Gm p_obj.1 rfl)) (hts _ (p_Gm p_obj.2 rfl)) rfl (by show ls.size = _; rw [hml, hL.1, hn]) rfl hd (Nat.le_trans hk3 hfr) ?_ kk
      have := p_tv_sum b B _ hcc.2
      show 2 * 0 + _ + 12 ≤ _
      rw [this]
      omega
    · cases ho
  · cases ho
theorem s_25 {a y : Nat} {z : Int32} {t : List Nat} {Lc L' : pL} {S S' : List Value} {h h' : pH} (X : p_CX p R s m args meth c k b B L xs aC D) (hk : p_ck k i 25 a y z t = true) (ho : o25 Lc S h = some (L', S', h'))
    (kk : p_go p l e R s m args below meth c Q k b B L xs aC D cells slots (i + 1) L' S' h') : p_go p l e R s m args below meth c Q k b B L xs aC D cells slots i Lc S h := by
  intro ls H locs hL hn hH hz
  obtain ⟨sh, ρ, rf⟩ := h
  obtain ⟨hx, hb, hr, hml, hown, hts, -, -, hK, -, -, hX, hbB, hBs, hfr, hlo, -⟩ := X
  unfold o25 at ho
  split at ho
  · split at ho
    · split at ho
      · rename_i n dp d sp o _ _ k1 n1 k2 n2 hc1 hc2 hcc
        obtain ⟨rfl, rfl, h1, h2, g1, g2, g3, g4, g5⟩ := hcc
        cases ho
        simp only [p_ck, Bool.and_eq_true, decide_eq_true_eq, beq_iff_eq] at hk
        obtain ⟨⟨⟨hk1, hk2⟩, hk3⟩, hk4⟩ := hk
        obtain ⟨hd, hp⟩ := p_de_spec hk1
        rw [hk2] at hown
        have hH0 := hH
        obtain ⟨a1, a2, a3, a4, hP, hS⟩ := hH
        have hat1 := p_ws_at (b := b) (B := B) (aC := aC) hc1 h1
        have hat2 := p_ws_at (b := b) (B := B) (aC := aC) hc2 h2
        rw [p_en_arr (by decide) (by decide)] at hat1 hat2
        refine va_copyi hx hb (by rw [hml, hL.1, hn]) hown (hts _ (p_Gm p_acp.1 rfl)) (hts _ (p_Gm p_acp.2.2.1 rfl)) (hts _ (p_Gm p_acp.2.1 rfl)) (hts _ (p_Gm p_acp.2.2.2 rfl)) hK hP (p_wsD _) (p_S_self hS) (o - 1) (d - 1) 0 0 hat1 hat2 rfl rfl rfl g1 g2 g3 g4 g5 (fun _ _ => rfl) (Nat.le_trans hk3 hfr) ?_ hd (fun H1 locs1 hP1 hD1 hS1 => p_szW fun hle => ?_)
        · have e : nativeFrameWords "java/lang/System" "arraycopy" 5 = 7 := by decide +kernel
          rw [e]
          show 0 + (7 + 11) ≤ _
          omega
        · obtain ⟨g1, g2⟩ := p_HI_st (ρ' := c2 ρ o d sp.toNatClampNeg dp.toNatClampNeg n.toNatClampNeg) (rf' := rf) hH0 hz hc2 h2 (fun x hx => if_neg hx) (fun _ _ => rfl) hP1 (by rw [p_en_arr (by decide) (by decide)]; unfold c2; rw [if_pos rfl]) hS1 hle
          have kk := kk ls H1 locs1 hL hn g1 g2
          rw [hp] at kk
          exact kk
      · cases ho
    · cases ho
  · cases ho
theorem p_kl {k i a y o : Nat} {z : Int32} {t : List Nat} (h : (p_de k i (.invokestatic (t.getD 0 0)) 3 && p_KL.any (fun q => q.1 == p_ow k && q.2.1 == t.getD 0 0 && q.2.2.1 == o) && decide (1 ≤ p_fr k) && decide (26 ≤ p_lo k)) = true) :
    (decode (p_by k) (p_pc k i) = .ok (.invokestatic (t.getD 0 0), 3) ∧ p_pc k (i + 1) = p_pc k i + 3) ∧ Cond.methodLink (p_cn (p_ow k)) (t.getD 0 0) (if o = 26 then Lib.Math.max.name else Lib.Math.min.name) ∈ p_G ∧ 1 ≤ p_fr k ∧ 26 ≤ p_lo k := by
  simp only [Bool.and_eq_true, decide_eq_true_eq] at h
  obtain ⟨⟨⟨hk1, hk2⟩, hk3⟩, hk4⟩ := h
  obtain ⟨q, hq, hq1⟩ := List.any_eq_true.mp hk2
  simp only [Bool.and_eq_true, beq_iff_eq] at hq1
  have hlk := p_KL_ok q hq
  rw [hq1.1.1, hq1.1.2, hq1.2] at hlk
  exact ⟨p_de_spec hk1, p_Gm hlk rfl, hk3, hk4⟩
theorem s_26 {a y : Nat} {z : Int32} {t : List Nat} {Lc L' : pL} {S S' : List Value} {h h' : pH} (X : p_CX p R s m args meth c k b B L xs aC D) (hk : p_ck k i 26 a y z t = true) (ho : o26 Lc S h = some (L', S', h')) (hcl : cells ≤ R.cells) (hsl : slots ≤ R.slots)
    (kk : p_go p l e R s m args below meth c Q k b B L xs aC D cells slots (i + 1) L' S' h') : p_go p l e R s m args below meth c Q k b B L xs aC D cells slots i Lc S h := by
  intro ls H locs hL hn hH hz
  obtain ⟨hx, hb, hr, hml, hown, hts, -, -, hK, -, -, hX, hbB, hBs, hfr, hlo, -⟩ := X
  unfold o26 at ho
  split at ho
  · split at ho
    · rename_i y0 x0 S0 hcc
      cases ho
      have kk := kk ls H locs hL hn hH hz
      simp only [p_ck] at hk
      obtain ⟨⟨hd, hp⟩, hlk, h3, h4⟩ := p_kl (a := a) (y := y) (z := z) hk
      rw [hp] at kk
      refine va_mmax hx hb (by rw [hml, hL.1, hn]) hown (hts _ hlk) (hts _ (p_Gm p_mx.1 rfl)) (hts _ (p_Gm p_mx.2.2.2.2 rfl)) (hts _ (p_Gm p_mx.2.1 rfl)) (Nat.le_trans h3 hfr) ?_ hcl hsl hd kk
      have := p_tv_sum b B _ hcc.2
      rw [this]
      omega
    · cases ho
  · cases ho
theorem s_27 {a y : Nat} {z : Int32} {t : List Nat} {Lc L' : pL} {S S' : List Value} {h h' : pH} (X : p_CX p R s m args meth c k b B L xs aC D) (hk : p_ck k i 27 a y z t = true) (ho : o27 Lc S h = some (L', S', h')) (hcl : cells ≤ R.cells) (hsl : slots ≤ R.slots)
    (kk : p_go p l e R s m args below meth c Q k b B L xs aC D cells slots (i + 1) L' S' h') : p_go p l e R s m args below meth c Q k b B L xs aC D cells slots i Lc S h := by
  intro ls H locs hL hn hH hz
  obtain ⟨hx, hb, hr, hml, hown, hts, -, -, hK, -, -, hX, hbB, hBs, hfr, hlo, -⟩ := X
  unfold o27 at ho
  split at ho
  · split at ho
    · rename_i y0 x0 S0 hcc
      cases ho
      have kk := kk ls H locs hL hn hH hz
      simp only [p_ck] at hk
      obtain ⟨⟨hd, hp⟩, hlk, h3, h4⟩ := p_kl (a := a) (y := y) (z := z) hk
      rw [hp] at kk
      refine va_mmin hx hb (by rw [hml, hL.1, hn]) hown (hts _ hlk) (hts _ (p_Gm p_mx.2.2.1 rfl)) (hts _ (p_Gm p_mx.2.2.2.2 rfl)) (hts _ (p_Gm p_mx.2.2.2.1 rfl)) (Nat.le_trans h3 hfr) ?_ hcl hsl hd kk
      have := p_tv_sum b B _ hcc.2
      rw [this]
      omega
    · cases ho
  · cases ho
theorem p_l_nat (x : Int64) : p_l (some x.toUInt64.toNat) = x := by
  show Int64.ofNat x.toUInt64.toNat = x
  apply Int64.toBitVec_inj.mp
  simp
theorem s_28 {a y : Nat} {z : Int32} {t : List Nat} {Lc L' : pL} {S S' : List Value} {h h' : pH} (X : p_CX p R s m args meth c k b B L xs aC D) (hk : p_ck k i 28 a y z t = true) (ho : o28 a y Lc S h = some (L', S', h'))
    (kk : p_go p l e R s m args below meth c Q k b B L xs aC D cells slots (i + 1) L' S' h') : p_go p l e R s m args below meth c Q k b B L xs aC D cells slots i Lc S h := by
  intro ls H locs hL hn hH hz
  obtain ⟨hx, hb, hr, hml, hown, hts, -, -, hK, -, -, hX, hbB, hBs, -⟩ := X
  unfold o28 at ho
  split at ho
  case _ =>
    cases ho
    have kk := kk ls H locs hL hn hH hz
    simp only [p_ck] at hk
    split at hk
    · rw [Bool.and_eq_true] at hk
      obtain ⟨hd, hp⟩ := p_de_spec hk.1
      rw [hp] at kk
      have hy : y < 2 := of_decide_eq_true hk.2
      exact lv_lconst hx hb hd (by show Int64.ofNat (y % 2) = _; rw [Nat.mod_eq_of_lt hy]) kk
    · rw [Bool.and_eq_true] at hk
      obtain ⟨hd, hp⟩ := p_de_spec hk.1
      rw [hp] at kk
      exact lv_ldc2 hx hb hown (hts _ (p_Gm (of_decide_eq_true hk.2) rfl)) hd kk
  case _ =>
    unfold ol1 at ho
    split at ho
    · rename_i x hv
      cases ho
      have kk := kk ls H locs hL hn hH hz
      have hg : ls[y]? = some (.val (.long x)) := (hL.2.2 _ _ hv).1
      simp only [p_ck] at hk
      split at hk
      · rw [Bool.and_eq_true] at hk
        obtain ⟨hd, hp⟩ := p_de_spec hk.1
        rw [hp] at kk
        exact lv_lload_n hx hb hd (p_f4_val (of_decide_eq_true hk.2)) hg kk
      · obtain ⟨hd, hp⟩ := p_de_spec hk
        rw [hp] at kk
        exact lv_lload hx hb hd hg kk
    · cases ho
  case _ =>
    unfold ol2 at ho
    split at ho
    · split at ho
      · rename_i x S0 ha
        cases ho
        simp only [p_ck] at hk
        rw [Bool.and_eq_true, Bool.and_eq_true, Bool.not_eq_true'] at hk
        obtain ⟨hk, hku⟩ := hk
        have hup : ¬ y ∈ p_up k := fun e => by rw [List.contains_iff_mem.mpr e] at hku; exact absurd hku.1 (by decide)
        have hup1 : y + 1 ∈ p_up k := List.contains_iff_mem.mp hku.2
        split at hk
        · rw [Bool.and_eq_true] at hk
          obtain ⟨hd, hp⟩ := p_de_spec hk.1
          refine lv_lstore_n hx hb hd (p_f4_val (of_decide_eq_true hk.2)) (p_LR_has hL) ha rfl (fun ls' hl' => ?_)
          have kk := kk ls' H locs (p_LR_set2 (v := .long x) hL ha hup hup1 hl') (by rw [List.length_set, List.length_set]; exact hn) hH hz
          rw [hp] at kk
          exact kk
        · obtain ⟨hd, hp⟩ := p_de_spec hk
          refine lv_lstore hx hb hd (p_LR_has hL) ha rfl (fun ls' hl' => ?_)
          have kk := kk ls' H locs (p_LR_set2 (v := .long x) hL ha hup hup1 hl') (by rw [List.length_set, List.length_set]; exact hn) hH hz
          rw [hp] at kk
          exact kk
      · cases ho
    · cases ho
  case _ =>
    unfold ol3 at ho
    split at ho
    · cases ho
      have kk := kk ls H locs hL hn hH hz
      simp only [p_ck] at hk
      obtain ⟨hd, hp⟩ := p_de_spec hk
      rw [hp] at kk
      exact lv_ladd hx hb hd kk
    · cases ho
  case _ =>
    unfold ol3 at ho
    split at ho
    · cases ho
      have kk := kk ls H locs hL hn hH hz
      simp only [p_ck] at hk
      obtain ⟨hd, hp⟩ := p_de_spec hk
      rw [hp] at kk
      exact lv_lmul hx hb hd kk
    · cases ho
  case _ =>
    unfold ol3 at ho
    split at ho
    · cases ho
      have kk := kk ls H locs hL hn hH hz
      simp only [p_ck] at hk
      obtain ⟨hd, hp⟩ := p_de_spec hk
      rw [hp] at kk
      exact lv_land hx hb hd kk
    · cases ho
  case _ =>
    unfold ol6 at ho
    split at ho
    · cases ho
      have kk := kk ls H locs hL hn hH hz
      simp only [p_ck] at hk
      obtain ⟨hd, hp⟩ := p_de_spec hk
      rw [hp] at kk
      exact lv_lshr hx hb hd rfl kk
    · cases ho
  case _ =>
    unfold ol3 at ho
    split at ho
    · cases ho
      have kk := kk ls H locs hL hn hH hz
      simp only [p_ck] at hk
      obtain ⟨hd, hp⟩ := p_de_spec hk
      rw [hp] at kk
      exact W.lcmp hx hb hd kk
    · cases ho
  case _ =>
    unfold ol8 at ho
    split at ho
    · cases ho
      have kk := kk ls H locs hL hn hH hz
      simp only [p_ck] at hk
      obtain ⟨hd, hp⟩ := p_de_spec hk
      rw [hp] at kk
      exact lv_i2l hx hb hd rfl kk
    · cases ho
  case _ =>
    unfold ol9 at ho
    split at ho
    · cases ho
      have kk := kk ls H locs hL hn hH hz
      simp only [p_ck] at hk
      obtain ⟨hd, hp⟩ := p_de_spec hk
      rw [hp] at kk
      exact lv_l2i hx hb hd rfl kk
    · cases ho
  case _ =>
    unfold ol10 at ho
    split at ho
    · split at ho
      · split at ho
        · rename_i j o S0 _ kd n hc hcc
          obtain ⟨rfl, h1, hin⟩ := hcc
          cases ho
          have kk := kk ls H locs hL hn hH hz
          obtain ⟨a1, a2, a3, a4, hP, hS⟩ := hH
          have hv := p_in_vp hin
          have hat := p_ws_at (b := b) (B := B) (aC := aC) hc h1
          simp only [p_ck] at hk
          obtain ⟨hd, hp⟩ := p_de_spec hk
          rw [hp] at kk
          rw [p_en_l] at hat
          exact va_lald hx hb hK hP (o - 1) 2 hat rfl hv hd kk
        · cases ho
      · cases ho
    · cases ho
  case _ =>
    obtain ⟨sh, ρ, rf⟩ := h
    unfold ol11 at ho
    split at ho
    · split at ho
      · split at ho
        · rename_i v j o S0 _ kd n hc hcc
          obtain ⟨rfl, h1, hin⟩ := hcc
          cases ho
          have hH0 := hH
          obtain ⟨a1, a2, a3, a4, hP, hS⟩ := hH
          have hv := p_in_vp hin
          have hat := p_ws_at (b := b) (B := B) (aC := aC) hc h1
          simp only [p_ck] at hk
          obtain ⟨hd, hp⟩ := p_de_spec hk
          rw [p_en_l] at hat
          refine va_last hx hb hK hP (p_wsD _) (p_S_self hS) (o - 1) 2 hat rfl hv hd (fun H1 locs1 hP1 hD1 hS1 => p_szW fun hle => ?_)
          obtain ⟨g1, g2⟩ := p_HI_st (ρ' := ρ) (rf' := q2 rf o j.toNatClampNeg (some v.toUInt64.toNat)) hH0 hz hc h1 (fun _ _ => rfl) (fun x hx => q2_ne hx) hP1 (by
            rw [p_en_l]
            congr 4
            refine congrArg Sum.inl ?_
            funext x
            rw [q2_at]
            unfold va_up vp_updL
            split
            · exact (p_l_nat v).symm
            · rfl) hS1 hle
          have kk := kk ls H1 locs1 hL hn g1 g2
          rw [hp] at kk
          exact kk
        · cases ho
      · cases ho
    · cases ho
  case _ =>
    unfold ol12 at ho
    split at ho
    · split at ho
      · cases ho
      · rename_i hne
        cases ho
        have kk := kk ls H locs hL hn hH hz
        simp only [p_ck] at hk
        obtain ⟨hd, hp⟩ := p_de_spec hk
        rw [hp] at kk
        exact lv_idiv hx hb hd hne kk
    · cases ho
  case _ => cases ho
/-- a branch -/
theorem s_br {o a y i' : Nat} {z : Int32} {t : List Nat} {Lc : pL} {S S' : List Value} {h : pH} (X : p_CX p R s m args meth c k b B L xs aC D) (hk : p_ck k i o a y z t = true) (ho : p_br o a y z t i S = some (i', S'))
    (kk : p_go p l e R s m args below meth c Q k b B L xs aC D cells slots i' Lc S' h) : p_go p l e R s m args below meth c Q k b B L xs aC D cells slots i Lc S h := by
  intro ls H locs hL hn hH hz
  obtain ⟨hx, hb, -⟩ := X
  have kk := kk ls H locs hL hn hH hz
  have hoff : ∀ j : Nat, ((p_pc k i : Nat) : Int) + p_off k i j = ((p_pc k j : Nat) : Int) := fun j => by unfold p_off; omega
  unfold p_br at ho
  split at ho
  · cases ho
    simp only [p_ck] at hk
    exact lv_goto hx hb (p_dj_spec hk) (hoff _) kk
  · split at ho
    · rename_i y0 x0 S0
      cases ho
      simp only [p_ck] at hk
      obtain ⟨hd, hp⟩ := p_de_spec hk
      have key : ∀ (P : Bool), p_cmp a x0 y0 = P → W p l e R s m args below meth c H locs cells slots Q (F0 m (if P = true then p_pc k y else p_pc k i + 3) ls (S'.map (p_tv b B))) := fun P hP => by
        rw [hP] at kk
        cases P
        · simp only [Bool.false_eq_true, if_false] at kk ⊢
          rw [hp] at kk
          exact kk
        · simp only [if_true] at kk ⊢
          exact kk
      have kt : p_cmp a x0 y0 = true → W p l e R s m args below meth c H locs cells slots Q (F0 m (p_pc k y) ls (S'.map (p_tv b B))) := fun h => key true h
      have kf : p_cmp a x0 y0 = false → W p l e R s m args below meth c H locs cells slots Q (F0 m (p_pc k i + 3) ls (S'.map (p_tv b B))) := fun h => key false h
      match a, hd, kt, kf with
      | 0, hd, kt, kf => exact lv_icmp_eq hx hb hd (hoff _) (fun h => kt (decide_eq_true h)) (fun h => kf (decide_eq_false h))
      | 1, hd, kt, kf => exact lv_icmp_ne hx hb hd (hoff _) (fun h => kt (decide_eq_true h)) (fun h => kf (decide_eq_false (fun z => z h)))
      | 2, hd, kt, kf => exact lv_icmp_lt hx hb hd (hoff _) (fun h => kt (decide_eq_true h)) (fun h => kf (decide_eq_false h))
      | 3, hd, kt, kf => exact lv_icmp_ge hx hb hd (hoff _) (fun h => kt (decide_eq_true h)) (fun h => kf (decide_eq_false h))
      | 4, hd, kt, kf => exact lv_icmp_gt hx hb hd (hoff _) (fun h => kt (decide_eq_true h)) (fun h => kf (decide_eq_false h))
      | n + 5, hd, kt, kf => exact lv_icmp_le hx hb hd (hoff _) (fun h => kt (decide_eq_true h)) (fun h => kf (decide_eq_false h))
    · cases ho
  · split at ho
    · rename_i x0 S0
      cases ho
      simp only [p_ck] at hk
      obtain ⟨hd, hp⟩ := p_de_spec hk
      have key : ∀ (P : Bool), p_cmp a x0 0 = P → W p l e R s m args below meth c H locs cells slots Q (F0 m (if P = true then p_pc k y else p_pc k i + 3) ls (S'.map (p_tv b B))) := fun P hP => by
        rw [hP] at kk
        cases P
        · simp only [Bool.false_eq_true, if_false] at kk ⊢
          rw [hp] at kk
          exact kk
        · simp only [if_true] at kk ⊢
          exact kk
      have kt : p_cmp a x0 0 = true → W p l e R s m args below meth c H locs cells slots Q (F0 m (p_pc k y) ls (S'.map (p_tv b B))) := fun h => key true h
      have kf : p_cmp a x0 0 = false → W p l e R s m args below meth c H locs cells slots Q (F0 m (p_pc k i + 3) ls (S'.map (p_tv b B))) := fun h => key false h
      match a, hd, kt, kf with
      | 0, hd, kt, kf => exact lv_if_eq hx hb hd (hoff _) (fun h => kt (decide_eq_true h)) (fun h => kf (decide_eq_false h))
      | 1, hd, kt, kf => exact lv_if_ne hx hb hd (hoff _) (fun h => kt (decide_eq_true h)) (fun h => kf (decide_eq_false (fun z => z h)))
      | 2, hd, kt, kf => exact lv_if_lt hx hb hd (hoff _) (fun h => kt (decide_eq_true h)) (fun h => kf (decide_eq_false h))
      | 3, hd, kt, kf => exact lv_if_ge hx hb hd (hoff _) (fun h => kt (decide_eq_true h)) (fun h => kf (decide_eq_false h))
      | 4, hd, kt, kf => exact lv_if_gt hx hb hd (hoff _) (fun h => kt (decide_eq_true h)) (fun h => kf (decide_eq_false h))
      | n + 5, hd, kt, kf => exact lv_if_le hx hb hd (hoff _) (fun h => kt (decide_eq_true h)) (fun h => kf (decide_eq_false h))
    · cases ho
  · split at ho
    · rename_i x0 S0
      cases ho
      simp only [p_ck] at hk
      split at hk
      · rename_i ins len hd
        have hins := of_decide_eq_true hk
        rw [hins] at hd
        by_cases hc : x0.toInt < z.toInt ∨ z.toInt + t.length ≤ x0.toInt
        · rw [if_pos hc] at kk
          exact lv_tableOut hx hb hd (by omega) (hoff _) kk
        · rw [if_neg hc] at kk
          have hlt : (x0.toInt - z.toInt).toNat < t.length := by omega
          refine lv_tableIn hx hb hd (by omega) (by omega) (off := p_off k i (t.getD (x0.toInt - z.toInt).toNat 0)) ?_ (hoff _) kk
          rw [List.getElem?_toArray, List.getElem?_map, List.getD_eq_getElem?_getD, List.getElem?_eq_getElem hlt]
          rfl
      · cases hk
    · cases ho
  · cases ho
end
