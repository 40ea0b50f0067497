/-! the pure heap in the Java machine's: cell k of the pure one is the cell p_ad b B k (place 0: the script at b) -/
def p_ad (b B k : Nat) : Nat := if k = 0 then b else B + (k - 1)
def p_tv (b B : Nat) (v : Value) : Value := match v with
  | .ref k => .ref (p_ad b B k)
  | v => v
theorem p_tv_cat (b B : Nat) (v : Value) : (p_tv b B v).category = v.category := by cases v <;> rfl
theorem p_tv_rf (b B : Nat) (r : Option Nat) : p_tv b B (va_rf r) = va_rf (r.map (p_ad b B)) := by cases r <;> rfl
theorem p_tv_sum (b B : Nat) : ∀ (S : List Value), p_c1 S = true → ((S.map (p_tv b B)).map fun v => v.category).sum = S.length
  | [], _ => rfl
  | v :: S, h => by
    simp only [p_c1, List.all_cons, Bool.and_eq_true, beq_iff_eq] at h
    have := p_tv_sum b B S h.2
    simp only [List.map_cons, List.sum_cons, List.length_cons, p_tv_cat, h.1]
    omega
theorem p_tv_cs (b B : Nat) (S : List Value) : ((S.map (p_tv b B)).map fun v => v.category).sum = p_cs S := by
  unfold p_cs
  rw [List.map_map]
  refine congrArg List.sum (List.map_congr_left fun v _ => p_tv_cat b B v)
theorem p_cat12 (v : Value) (h : ¬ v.category = 2) : v.category = 1 := by cases v <;> first | rfl | exact absurd rfl h
theorem p_cs_c1 : ∀ {S : List Value}, p_c1 S = true → p_cs S = S.length
  | [], _ => rfl
  | v :: S, h => by
    simp only [p_c1, List.all_cons, Bool.and_eq_true, beq_iff_eq] at h
    have := p_cs_c1 (S := S) h.2
    unfold p_cs at this ⊢
    simp only [List.map_cons, List.sum_cons, List.length_cons, h.1]
    omega
theorem p_e2_c1 : ∀ {S : List Value}, p_c1 S = true → p_e2 S = S.map some
  | [], _ => rfl
  | v :: S, h => by
    simp only [p_c1, List.all_cons, Bool.and_eq_true, beq_iff_eq] at h
    have := p_e2_c1 (S := S) h.2
    unfold p_e2
    rw [h.1, if_neg (by decide), this]
    rfl
theorem p_ok2_c1 (up : List Nat) : ∀ {S : List Value} (i : Nat), p_c1 S = true → p_ok2 up i S = true
  | [], _, _ => rfl
  | v :: S, i, h => by
    simp only [p_c1, List.all_cons, Bool.and_eq_true, beq_iff_eq] at h
    unfold p_ok2
    rw [h.1, if_neg (by decide)]
    exact p_ok2_c1 up (i + 1) h.2
theorem p_c1_drop {S : List Value} (n : Nat) (h : p_c1 S = true) : p_c1 (S.drop n) = true := List.all_eq_true.mpr fun v hv => List.all_eq_true.mp h v (List.mem_of_mem_drop hv)
theorem p_c1_take {S : List Value} (n : Nat) (h : p_c1 S = true) : p_c1 (S.take n) = true := List.all_eq_true.mpr fun v hv => List.all_eq_true.mp h v (List.mem_of_mem_take hv)
theorem p_c1_rev {S : List Value} (h : p_c1 S = true) : p_c1 S.reverse = true := List.all_eq_true.mpr fun v hv => List.all_eq_true.mp h v (List.mem_reverse.mp hv)
def p_en (b B : Nat) (aC : Nat → ClassId) (ρ : pR) (rf : pF) (k : Nat) (q : Nat × Nat) : va_E :=
  if q.1 < 6 then .inr (q.1, (List.range q.2).map fun j => if p_isI q.1 j = true then .int (ρ k j) else va_rf ((rf k j).map (p_ad b B)))
  else if q.1 = 12 then .inl (aC 12, q.2, .inr (.inl fun j => p_l (rf k j)))
  else if q.1 = 13 then .inl (aC 13, q.2, .inr (.inr (.inr (.inr fun j => (rf k j).map (p_ad b B)))))
  else .inl (aC q.1, q.2, .inl (ρ k))
theorem p_en_eq {b B : Nat} {aC : Nat → ClassId} {ρ ρ' : pR} {rf rf' : pF} {k : Nat} {q : Nat × Nat} (h1 : ρ' k = ρ k) (h2 : rf' k = rf k) : p_en b B aC ρ' rf' k q = p_en b B aC ρ rf k q := by unfold p_en; rw [h1, h2]
def p_ws (b B : Nat) (aC : Nat → ClassId) (h : pH) : va_W := (List.range (h.1.length - 1)).map fun i => (B + i, p_en b B aC h.2.1 h.2.2 (i + 1) (h.1.getD (i + 1) (0, 0)))
def p_tys (aC : Nat → ClassId) : List (ClassId × FieldType) := [(aC 10, .int), (aC 11, .char), (aC 12, .long), (aC 13, .object RX2)]
section
variable {b B : Nat} {aC : Nat → ClassId}
theorem p_ws_at {h : pH} {k : Nat} {q : Nat × Nat} (hk : h.1[k]? = some q) (h1 : 1 ≤ k) : (p_ws b B aC h)[k - 1]? = some (p_ad b B k, p_en b B aC h.2.1 h.2.2 k q) := by
  have hl := (List.getElem?_eq_some_iff.mp hk).1
  unfold p_ws
  rw [List.getElem?_map, List.getElem?_range (by omega)]
  simp only [Option.map_some, show k - 1 + 1 = k by omega, p_ad, if_neg (show ¬ k = 0 by omega)]
  rw [List.getD_eq_getElem?_getD, hk]
  rfl
theorem p_ws_inv {h : pH} {i : Nat} {x : Nat × va_E} (hx : (p_ws b B aC h)[i]? = some x) : x.1 = B + i ∧ i < h.1.length - 1 := by
  unfold p_ws at hx
  rw [List.getElem?_map] at hx
  obtain ⟨a, ha, rfl⟩ := Option.map_eq_some_iff.mp hx
  have h1 := List.getElem?_eq_some_iff.mp ha
  obtain ⟨h2, h3⟩ := h1
  simp only [List.length_range] at h2
  simp only [List.getElem_range] at h3
  subst h3
  exact ⟨rfl, h2⟩
theorem p_wsD (h : pH) : va_D (fun q => B ≤ q) (p_ws b B aC h) := by
  refine ⟨fun i j x y hi hj e => ?_, fun k q hk => ?_⟩
  · have h1 := (p_ws_inv hi).1
    have h2 := (p_ws_inv hj).1
    omega
  · have h1 := (p_ws_inv hk).1
    show B ≤ q.1
    omega
theorem p_ws_set {sh : List (Nat × Nat)} {ρ ρ' : pR} {rf rf' : pF} {k : Nat} {q : Nat × Nat} (hk : sh[k]? = some q) (h1 : 1 ≤ k) (hr : ∀ x, x ≠ k → ρ' x = ρ x) (hf : ∀ x, x ≠ k → rf' x = rf x) :
    (p_ws b B aC (sh, ρ, rf)).set (k - 1) (p_ad b B k, p_en b B aC ρ' rf' k q) = p_ws b B aC (sh, ρ', rf') := by
  have hl := (List.getElem?_eq_some_iff.mp hk).1
  apply List.ext_getElem?
  intro i
  by_cases hi : i = k - 1
  · subst hi
    rw [List.getElem?_set_self (by simp [p_ws]; omega), p_ws_at (h := (sh, ρ', rf')) hk h1]
  · rw [List.getElem?_set_ne (Ne.symm hi)]
    unfold p_ws
    simp only [List.getElem?_map]
    by_cases hi2 : i < sh.length - 1
    · rw [List.getElem?_range hi2]
      simp only [Option.map_some]
      rw [p_en_eq (hr _ (by omega)) (hf _ (by omega))]
    · rw [List.getElem?_eq_none (by simp; omega)]
      rfl
theorem p_ws_push {sh : List (Nat × Nat)} {ρ ρ' : pR} {rf rf' : pF} {q : Nat × Nat} (h1 : 1 ≤ sh.length) (hr : ∀ x, x < sh.length → ρ' x = ρ x) (hf : ∀ x, x < sh.length → rf' x = rf x) :
    p_ws b B aC (sh ++ [q], ρ', rf') = p_ws b B aC (sh, ρ, rf) ++ [(B + (sh.length - 1), p_en b B aC ρ' rf' sh.length q)] := by
  unfold p_ws
  simp only [List.length_append, List.length_singleton]
  rw [show sh.length + 1 - 1 = (sh.length - 1) + 1 by omega, List.range_succ, List.map_append]
  congr 1
  · refine List.map_congr_left fun i hi => ?_
    have hi := List.mem_range.mp hi
    rw [p_en_eq (hr _ (by omega)) (hf _ (by omega))]
    congr 2
    rw [List.getD_eq_getElem?_getD, List.getD_eq_getElem?_getD, List.getElem?_append_left (by omega)]
  · simp only [List.map_cons, List.map_nil]
    rw [show sh.length - 1 + 1 = sh.length by omega, List.getD_eq_getElem?_getD]
    simp
end
/-- what the Java machine's heap holds of the pure one -/
def p_HI (b B L : Nat) (xs : Nat → Int32) (aC : Nat → ClassId) (D : va_G) (s : State) (h : pH) (H : Heap) (locs : List Loc) : Prop :=
  1 ≤ h.1.length ∧ H.size = B + (h.1.length - 1) ∧ h.1[0]? = some (10, L) ∧ (∀ j, j < L → h.2.1 0 j = xs j) ∧ va_P D p_cl (p_ws b B aC h) H ∧ va_S (fun q => B ≤ q) s.heap H locs
/-- `up`: the places that are the upper half of a long wherever one lies there -/
def p_LR (b B : Nat) (up : List Nat) (ls : Array Slot) (L : pL) : Prop := ls.size = L.length ∧ lv_wf ls ∧ ∀ (i : Nat) (v : Value), L[i]? = some (some v) → ls[i]? = some (.val (p_tv b B v)) ∧ (v.category = 2 → i + 1 ∈ up)
def p_lv (b B : Nat) (L : pL) : List (Nat × Value) := (List.range L.length).filterMap fun i => match L[i]? with
  | some (some v) => some (i, p_tv b B v)
  | _ => none
theorem p_lv_mem {b B : Nat} {L : pL} {i : Nat} {v : Value} (h : L[i]? = some (some v)) : (i, p_tv b B v) ∈ p_lv b B L := by
  refine List.mem_filterMap.mpr ⟨i, List.mem_range.mpr (List.getElem?_eq_some_iff.mp h).1, ?_⟩
  simp only [h]
theorem p_lv_inv {b B : Nat} {L : pL} {q : Nat × Value} (h : q ∈ p_lv b B L) : ∃ v, L[q.1]? = some (some v) ∧ q.2 = p_tv b B v := by
  obtain ⟨i, -, hi⟩ := List.mem_filterMap.mp h
  split at hi
  · rename_i v hv
    cases hi
    exact ⟨v, hv, rfl⟩
  · cases hi
theorem p_LR_has {b B : Nat} {up : List Nat} {ls : Array Slot} {L : pL} (h : p_LR b B up ls L) : lv_has ls L.length (p_lv b B L) := by
  refine ⟨h.1, h.2.1, fun q hq => ?_⟩
  obtain ⟨v, h1, h2⟩ := p_lv_inv hq
  rw [h2]
  exact (h.2.2 _ _ h1).1
theorem p_LR_set {b B : Nat} {up : List Nat} {ls ls' : Array Slot} {L : pL} {a : Nat} {v : Value} (h : p_LR b B up ls L) (ha : a < L.length) (hc : v.category = 1) (hu : ¬ a ∈ up) (h' : lv_has ls' L.length ((a, p_tv b B v) :: (p_lv b B L).filter (fun q => !(q.1 == a) && !(q.1 + 1 == a && q.2.category == 2)))) : p_LR b B up ls' (L.set a (some v)) := by
  refine ⟨by rw [List.length_set]; exact h'.1, h'.2.1, fun i w hi => ?_⟩
  by_cases hia : i = a
  · subst hia
    rw [List.getElem?_set_self ha] at hi
    cases hi
    exact ⟨h'.2.2 (i, p_tv b B v) List.mem_cons_self, fun e => by omega⟩
  · rw [List.getElem?_set_ne (Ne.symm hia)] at hi
    have hw := (h.2.2 i w hi).2
    refine ⟨h'.2.2 (i, p_tv b B w) (List.mem_cons_of_mem _ (List.mem_filter.mpr ⟨p_lv_mem hi, ?_⟩)), hw⟩
    simp only [p_tv_cat]
    by_cases e2 : w.category = 2
    · have h3 : ¬ i + 1 = a := fun e => hu (e ▸ hw e2)
      simp [hia, h3]
    · simp [hia, e2]
theorem p_LR_set2 {b B : Nat} {up : List Nat} {ls ls' : Array Slot} {L : pL} {a : Nat} {v : Value} (h : p_LR b B up ls L) (ha : a + 1 < L.length) (hu : ¬ a ∈ up) (hu1 : a + 1 ∈ up) (h' : lv_has ls' L.length ((a, p_tv b B v) :: (p_lv b B L).filter (fun q => !(q.1 == a) && (!(q.1 == a + 1) && !(q.1 + 1 == a && q.2.category == 2))))) : p_LR b B up ls' ((L.set a (some v)).set (a + 1) none) := by
  refine ⟨by rw [List.length_set, List.length_set]; exact h'.1, h'.2.1, fun i w hi => ?_⟩
  by_cases hi1 : i = a + 1
  · subst hi1
    rw [List.getElem?_set_self (by rw [List.length_set]; exact ha)] at hi
    cases hi
  rw [List.getElem?_set_ne (Ne.symm hi1)] at hi
  by_cases hia : i = a
  · subst hia
    rw [List.getElem?_set_self (by omega)] at hi
    cases hi
    exact ⟨h'.2.2 (i, p_tv b B v) List.mem_cons_self, fun _ => hu1⟩
  · rw [List.getElem?_set_ne (Ne.symm hia)] at hi
    have hw := (h.2.2 i w hi).2
    refine ⟨h'.2.2 (i, p_tv b B w) (List.mem_cons_of_mem _ (List.mem_filter.mpr ⟨p_lv_mem hi, ?_⟩)), hw⟩
    simp only [p_tv_cat]
    by_cases e2 : w.category = 2
    · have h3 : ¬ i + 1 = a := fun e => hu (e ▸ hw e2)
      simp [hia, h3, hi1]
    · simp [hia, e2, hi1]
theorem p_args_mem {b B : Nat} {up : List Nat} : ∀ (vs : List Value) (n : Nat), p_ok2 up n vs = true → ∀ (i : Nat) (v : Value), (p_e2 vs)[i]? = some (some v) → (n + i, p_tv b B v) ∈ lv_args n (vs.map (p_tv b B)) ∧ (v.category = 2 → n + i + 1 ∈ up)
  | [], _, _, i, v, h => by simp [p_e2] at h
  | w :: vs, n, hc, i, v, h => by
    unfold p_ok2 at hc
    unfold p_e2 at h
    by_cases hw : w.category = 2
    · rw [if_pos hw] at hc h
      rw [Bool.and_eq_true] at hc
      have hw' : (p_tv b B w).category = 2 := by rw [p_tv_cat]; exact hw
      match i, h with
      | 0, h =>
        simp only [List.getElem?_cons_zero, Option.some.injEq] at h
        subst h
        exact ⟨List.mem_cons_self, fun _ => List.contains_iff_mem.mp hc.1⟩
      | 1, h => simp at h
      | i + 2, h =>
        rw [List.getElem?_cons_succ, List.getElem?_cons_succ] at h
        have h1 := p_args_mem (b := b) (B := B) (up := up) vs (n + 2) hc.2 i v h
        rw [show n + (i + 2) = n + 2 + i by omega]
        refine ⟨List.mem_cons_of_mem _ ?_, h1.2⟩
        simp only [hw', if_true]
        exact h1.1
    · rw [if_neg hw] at hc h
      have hw' : ¬ (p_tv b B w).category = 2 := by rw [p_tv_cat]; exact hw
      match i, h with
      | 0, h =>
        simp only [List.getElem?_cons_zero, Option.some.injEq] at h
        subst h
        exact ⟨List.mem_cons_self, fun e => absurd e hw⟩
      | i + 1, h =>
        rw [List.getElem?_cons_succ] at h
        have h1 := p_args_mem (b := b) (B := B) (up := up) vs (n + 1) hc i v h
        rw [show n + (i + 1) = n + 1 + i by omega]
        refine ⟨List.mem_cons_of_mem _ ?_, h1.2⟩
        simp only [hw', if_false]
        exact h1.1
theorem p_sl_len {b B : Nat} : ∀ (vs : List Value), (lg_sl (vs.map (p_tv b B))).length = (p_e2 vs).length
  | [] => rfl
  | w :: vs => by
    have h1 := p_sl_len (b := b) (B := B) vs
    unfold lg_sl at h1 ⊢
    unfold p_e2
    simp only [List.map_cons, List.flatMap_cons, List.length_append, p_tv_cat, h1]
    by_cases hw : w.category = 2
    · rw [if_pos hw, if_pos hw]
      simp only [List.length_cons, List.length_nil]
      omega
    · rw [if_neg hw, if_neg hw]
      simp only [List.length_cons, List.length_nil]
      omega
/-- a frame at a method's entry -/
theorem p_LR_entry {b B n : Nat} {up : List Nat} (vs : List Value) (hc : p_ok2 up 0 vs = true) (hn : (p_e2 vs).length ≤ n) : p_LR b B up ((lg_sl (vs.map (p_tv b B)) ++ List.replicate (n - (lg_sl (vs.map (p_tv b B))).length) Slot.unset).toArray) (p_e2 vs ++ List.replicate (n - (p_e2 vs).length) none) := by
  have h := lv_entry (vs.map (p_tv b B)) (n := n) (by rw [p_sl_len vs]; exact hn)
  refine ⟨by rw [h.1]; simp; omega, h.2.1, fun i v hi => ?_⟩
  have hv : (p_e2 vs)[i]? = some (some v) := by
    by_cases hl : i < (p_e2 vs).length
    · rw [List.getElem?_append_left hl] at hi
      exact hi
    · rw [List.getElem?_append_right (by simpa using hl)] at hi
      have := List.mem_of_getElem? hi
      simp at this
  have h1 := p_args_mem (b := b) (B := B) vs 0 hc i v hv
  rw [Nat.zero_add] at h1
  exact ⟨h.2.2 _ h1.1, h1.2⟩
