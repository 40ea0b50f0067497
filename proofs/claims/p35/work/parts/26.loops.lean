/-! the class's public methods with loops of their own -/
theorem shlN : ∀ p, p < 31 → (nI 1 <<< (nI p &&& 31) : Int32) = nI (2 ^ p) := by decide +kernel
/-- what is left of the bridged ones when j of them have been taken out, the one that ends first each time -/
def byM (ρ : pR) (n : Nat) : Nat → Int32
  | 0 => wA (br ρ) n
  | j + 1 => match eF ρ (byM ρ n j) n with
    | none => byM ρ n j
    | some f => wI (byM ρ n j) f false
theorem byM_s {ρ : pR} {n j f : Nat} (h : eF ρ (byM ρ n j) n = some f) : byM ρ n (j + 1) = wI (byM ρ n j) f false := by
  show (match eF ρ (byM ρ n j) n with | none => byM ρ n j | some f => wI (byM ρ n j) f false) = _
  rw [h]
/-- the members of x one after another, upwards, as masks -/
def sbA (x : Int32) : Nat → Int32
  | 0 => 0
  | j + 1 => (sbA x j - x) &&& x
/-- the sum over the sets of rows -/
def wgA (A : Int32) (f : Nat → Int32) (r : Nat) : Nat → Int32
  | 0 => 0
  | j + 1 => wgA A f r j + (if bcN (j + 1) % 2 = 1 then (nI 1 <<< (bcI (A &&& (orA f (bt (nI (j + 1))) r ^^^ (-1))) &&& 31)) else -(nI 1 <<< (bcI (A &&& (orA f (bt (nI (j + 1))) r ^^^ (-1))) &&& 31)))
theorem wg_t {A : Int32} {f : Nat → Int32} {r j : Nat} (h : bcN (j + 1) % 2 = 1) : wgA A f r (j + 1) = wgA A f r j + (nI 1 <<< (bcI (A &&& (orA f (bt (nI (j + 1))) r ^^^ (-1))) &&& 31)) := by
  show wgA A f r j + (if _ then _ else _) = _
  rw [if_pos h]
theorem wg_f {A : Int32} {f : Nat → Int32} {r j : Nat} (h : ¬ bcN (j + 1) % 2 = 1) : wgA A f r (j + 1) = wgA A f r j + -(nI 1 <<< (bcI (A &&& (orA f (bt (nI (j + 1))) r ^^^ (-1))) &&& 31)) := by
  show wgA A f r j + (if _ then _ else _) = _
  rw [if_neg h]
/-- what the steps of time leave alone -/
theorem tkS_f (r : pR) (i : Nat) {k : Nat} (h : k ≠ 8 ∧ k ≠ 9 ∧ k ≠ 10) : tkS r i k = r k := by
  obtain ⟨h1, h2, h3⟩ := h
  by_cases a : nI 0 < r 8 i <;> by_cases b : r 11 i < r 3 1
  · rw [tk4 a b, u2_ne h3, u2_ne h2, u2_ne h1]
  · rw [tk3 a b, u2_ne h2, u2_ne h1]
  · rw [tk2 a b, u2_ne h3]
  · rw [tk1 a b]
theorem tkA_f (ρ : pR) {k : Nat} (h : k ≠ 3 ∧ k ≠ 8 ∧ k ≠ 9 ∧ k ≠ 10) : ∀ j, tkA ρ j k = ρ k
  | 0 => u2_ne h.1
  | j + 1 => by
    show tkS (tkA ρ j) j k = _
    rw [tkS_f _ _ h.2, tkA_f ρ h j]
theorem tkA_3 (ρ : pR) : ∀ j, tkA ρ j 3 = upd (ρ 3) 1 (ρ 3 1 + nI 1)
  | 0 => by show u2 ρ 3 1 _ 3 = _; exact if_pos rfl
  | j + 1 => by
    show tkS (tkA ρ j) j 3 = _
    rw [tkS_f _ _ (by decide), tkA_3 ρ j]
theorem suS_f (r : pR) (rc : Nat → Nat) (b x t : Int32) (m : Nat) {k : Nat} (h : k ≠ 12 ∧ k ≠ 16 ∧ k ≠ 17 ∧ k ≠ 18) : suS r rc b x t m k = r k := by
  obtain ⟨h1, h2, h3, h4⟩ := h
  unfold suS
  split
  · rw [u2_ne h4, u2_ne h3, u2_ne h2, u2_ne h1]
  · rfl
theorem suA_f (ρ : pR) (rc : Nat → Nat) (b x t : Int32) {k : Nat} (h : k ≠ 12 ∧ k ≠ 16 ∧ k ≠ 17 ∧ k ≠ 18) : ∀ j, suA ρ rc b x t j k = ρ k
  | 0 => rfl
  | j + 1 => by
    show suS (suA ρ rc b x t j) rc b x t j k = _
    rw [suS_f _ _ _ _ _ _ h, suA_f ρ rc b x t h j]
theorem ctA_f (ρ : pR) {k : Nat} (h : k ≠ 20 ∧ k ≠ 21) : ∀ j, ctA ρ j k = ρ k
  | 0 => rfl
  | j + 1 => by
    show ctS (ctA ρ j) j k = _
    unfold ctS
    split
    · rw [u2_ne h.2, u2_ne h.1, ctA_f ρ h j]
    · exact ctA_f ρ h j
theorem cM_c {ρ ρ' : pR} {n : Nat} {c : Nat → Bool} (h : ∀ k, k = 3 ∨ k = 6 ∨ k = 7 ∨ k = 8 → ρ' k = ρ k) : cM ρ' n c = cM ρ n c := by
  funext i
  unfold cM ov br
  rw [h 3 (by decide), h 6 (by decide), h 7 (by decide), h 8 (by decide)]
/-- one tick of run -/
def rnS (r : pR) (n : Nat) (c : Nat → Bool) (rc : Nat → Nat) : pR :=
  ctA (suA (tkA r n) rc (M (cM r n c)) (M (cM (tkA r n) n c)) (tkA r n 3 1) 6) 6
def rnA (ρ : pR) (n : Nat) (c : Nat → Bool) (rc : Nat → Nat) : Nat → pR
  | 0 => ρ
  | j + 1 => rnS (rnA ρ n c rc j) n c rc
def rnK (r : pR) (n : Nat) (c : Nat → Bool) (rc : Nat → Nat) : Nat := fb_ct (suN (tkA r n) rc (M (cM r n c)) (M (cM (tkA r n) n c)) (tkA r n 3 1)) 6
def rnN (ρ : pR) (n : Nat) (c : Nat → Bool) (rc : Nat → Nat) : Nat → Nat
  | 0 => 0
  | j + 1 => rnN ρ n c rc j + rnK (rnA ρ n c rc j) n c rc
theorem rnA_f (ρ : pR) (n : Nat) (c : Nat → Bool) (rc : Nat → Nat) {k : Nat} (h : (k ≠ 3 ∧ k ≠ 8 ∧ k ≠ 9 ∧ k ≠ 10) ∧ (k ≠ 12 ∧ k ≠ 16 ∧ k ≠ 17 ∧ k ≠ 18) ∧ k ≠ 20 ∧ k ≠ 21) : ∀ j, rnA ρ n c rc j k = ρ k
  | 0 => rfl
  | j + 1 => by
    show rnS (rnA ρ n c rc j) n c rc k = _
    unfold rnS
    rw [ctA_f _ h.2.2, suA_f _ _ _ _ _ h.2.1, tkA_f _ h.1, rnA_f ρ n c rc h j]
theorem rnA_3 (ρ : pR) (n : Nat) (c : Nat → Bool) (rc : Nat → Nat) {s : Nat} (h : s ≠ 1) : ∀ j, rnA ρ n c rc j 3 s = ρ 3 s
  | 0 => rfl
  | j + 1 => by
    show rnS (rnA ρ n c rc j) n c rc 3 s = _
    unfold rnS
    rw [ctA_f _ (by decide), suA_f _ _ _ _ _ (by decide), tkA_3]
    exact (if_neg h).trans (rnA_3 ρ n c rc h j)
theorem eor_b (T : Nat → Nat) {l a : Nat} (ha : a ≤ l) : a ≤ eor T l a ∧ eor T l a ≤ l := by
  unfold eor
  split
  · rename_i j hj
    have := (ff_spec hj).1
    omega
  · omega
theorem pf_lt {T : Nat → Nat} {F : Nat → Nat → Nat} {l p : Nat} (h : pf T F l = some p) : p < l := by
  unfold pf at h
  split at h
  · rename_i j hj
    have h1 := (ff_spec hj).1
    have h2 := fr_le T j
    cases h
    omega
  · split at h
    · cases h
      assumption
    · cases h
/-- the rows that read has added before place j, and how many rows each motion has by then -/
def rdS (ρ : pR) (rc : Nat → Nat) (T : Nat → Nat) : Nat → pR × (Nat → Nat)
  | 0 => (ρ, rc)
  | j + 1 => if T j = 59 then
      (arS (rdS ρ rc T j).1 (T (fr T j) - 48) ((rdS ρ rc T j).2 (T (fr T j) - 48)) (wI (iv T (fr T j) (j - (fr T j + 2))) (nv T (fr T j) (j - (fr T j + 2))) true), fun m => if m = T (fr T j) - 48 then (rdS ρ rc T j).2 m + 1 else (rdS ρ rc T j).2 m)
    else rdS ρ rc T j
theorem rd_t {ρ : pR} {rc T : Nat → Nat} {j : Nat} (h : T j = 59) : rdS ρ rc T (j + 1) = (arS (rdS ρ rc T j).1 (T (fr T j) - 48) ((rdS ρ rc T j).2 (T (fr T j) - 48)) (wI (iv T (fr T j) (j - (fr T j + 2))) (nv T (fr T j) (j - (fr T j + 2))) true), fun m => if m = T (fr T j) - 48 then (rdS ρ rc T j).2 m + 1 else (rdS ρ rc T j).2 m) := if_pos h
theorem rd_f {ρ : pR} {rc T : Nat → Nat} {j : Nat} (h : ¬ T j = 59) : rdS ρ rc T (j + 1) = rdS ρ rc T j := if_neg h
theorem rd_k (ρ : pR) (rc T : Nat → Nat) {k : Nat} (h : k ≠ 13 ∧ k ≠ 14) : ∀ j, (rdS ρ rc T j).1 k = ρ k
  | 0 => rfl
  | j + 1 => by
    by_cases e : T j = 59
    · rw [rd_t e]
      show u2 (u2 _ 13 _ _) 14 _ _ k = _
      rw [u2_ne h.2, u2_ne h.1, rd_k ρ rc T h j]
    · rw [rd_f e, rd_k ρ rc T h j]
theorem rd_14 (ρ : pR) (rc T : Nat → Nat) (h : ∀ m, m < 6 → ρ 14 m = nI (rc m)) : ∀ j m, m < 6 → (rdS ρ rc T j).1 14 m = nI ((rdS ρ rc T j).2 m)
  | 0, m, hm => h m hm
  | j + 1, m, hm => by
    by_cases e : T j = 59
    · rw [rd_t e]
      show upd ((u2 _ 13 _ _) 14) _ _ m = nI (if m = T (fr T j) - 48 then _ else _)
      by_cases q : m = T (fr T j) - 48
      · rw [if_pos q]
        exact (if_pos q).trans (by rw [q])
      · rw [if_neg q]
        exact (if_neg q).trans ((congrFun (u2_ne (by decide)) m).trans (rd_14 ρ rc T h j m hm))
    · rw [rd_f e]
      exact rd_14 ρ rc T h j m hm
theorem fr_t {T : Nat → Nat} {j : Nat} (h : T j = 59) : fr T (j + 1) = j + 1 := if_pos h
theorem fr_f {T : Nat → Nat} {j : Nat} (h : ¬ T j = 59) : fr T (j + 1) = fr T j := if_neg h
section
variable {sl : pS} {ρ ρa : pR} {rf rfa : pF}
theorem c_bridged_bad (x : Int32) (h : x < 0) : PC 52 [.ref 1, .int x] (HP sl ρ rf) (some (.int (-1))) (HP sl ρ rf) := by
  refine PC_of (cd := p_c_X4_bridged) (L0 := [some (.ref 1), some (.int x), none, none]) rfl rfl ?_
  refine R_ld1 rfl ?_
  refine B1_geF rfl (Int32.not_le.mpr h) ?_
  refine R_i rfl ?_
  exact R_iret rfl (rfl)

theorem c_bridged_nf {n : Nat} (hrf : RFok rf) (hn : ρ 3 0 = nI n) (h16 : n ≤ 16) (x : Int32) (h0 : ¬ x < 0) (h : bcI (wA (br ρ) n) ≤ x) : PC 52 [.ref 1, .int x] (HP sl ρ rf) (some (.int (-4))) (HP sl ρ rf) := by
  refine PC_of (cd := p_c_X4_bridged) (L0 := [some (.ref 1), some (.int x), none, none]) rfl rfl ?_
  refine R_ld1 rfl ?_
  refine B1_geT rfl (Int32.not_lt.mp h0) ?_
  refine R_la0 rfl ?_
  refine R_getR rfl sh_1 rfl (rf_1_0 hrf) ?_
  refine R_getR rfl sh_2 rfl (rf_2_0 hrf) ?_
  refine R_c1 rfl (m_bridgedOnes hrf hn h16) rfl rfl rfl sh_3 rfl rfl ?_
  refine R_st2 rfl ?_
  refine R_ld1 rfl ?_
  refine R_ld2 rfl ?_
  refine R_c0 rfl (m_bc _) rfl rfl rfl ?_
  refine B2_ltF rfl (Int32.not_lt.mpr h) ?_
  refine R_i rfl ?_
  exact R_iret rfl (rfl)

theorem c_bridged_ok {n : Nat} (hrf : RFok rf) (hn : ρ 3 0 = nI n) (h16 : n ≤ 16) {k : Nat} (hk : k < 2 ^ 31) (h : nI k < bcI (wA (br ρ) n)) (hf : ∀ j, j < k → ∃ f, eF ρ (byM ρ n j) n = some f) : PC 52 [.ref 1, .int (nI k)] (HP sl ρ rf) (some (.int (fI (eF ρ (byM ρ n k) n)))) (HP sl ρ rf) := by
  have hl := down (n := k) (P := fun j => PW p_c_X4_bridged 17 [some (.ref 1), some (.int (nI k)), some (.int (byM ρ n (j))), some (.int (nI j))] [] (HP sl ρ rf) (fun zz => zz = ((some (.int (fI (eF ρ (byM ρ n k) n)))), HP sl ρ rf))) ?_ ?_
  · refine PC_of (cd := p_c_X4_bridged) (L0 := [some (.ref 1), some (.int (nI k)), none, none]) rfl rfl ?_
    refine R_ld1 rfl ?_
    refine B1_geT rfl (Int32.not_lt.mp (nI_pos hk)) ?_
    refine R_la0 rfl ?_
    refine R_getR rfl sh_1 rfl (rf_1_0 hrf) ?_
    refine R_getR rfl sh_2 rfl (rf_2_0 hrf) ?_
    refine R_c1 rfl (m_bridgedOnes hrf hn h16) rfl rfl rfl sh_3 rfl rfl ?_
    refine R_st2 rfl ?_
    refine R_ld1 rfl ?_
    refine R_ld2 rfl ?_
    refine R_c0 rfl (m_bc _) rfl rfl rfl ?_
    refine B2_ltT rfl (h) ?_
    refine R_n 0 rfl rfl ?_
    refine R_st3 rfl ?_
    exact hl 0 (Nat.zero_le _)
  · refine R_ld3 rfl ?_
    refine R_ld1 rfl ?_
    refine N2_geT rfl (by omega) (by omega) (by omega) ?_
    refine R_la0 rfl ?_
    refine R_getR rfl sh_1 rfl (rf_1_0 hrf) ?_
    refine R_getR rfl sh_2 rfl (rf_2_0 hrf) ?_
    refine R_ld2 rfl ?_
    refine R_c1 rfl (m_endsFirst hrf hn h16 _) rfl rfl rfl sh_3 rfl rfl ?_
    exact R_iret rfl (rfl)
  · intro j hj hnext
    obtain ⟨f, hfe⟩ := hf j hj
    refine R_ld3 rfl ?_
    refine R_ld1 rfl ?_
    refine N2_geF rfl (by omega) (by omega) (hj) ?_
    refine R_ld2 rfl ?_
    refine R_la0 rfl ?_
    refine R_getR rfl sh_1 rfl (rf_1_0 hrf) ?_
    refine R_getR rfl sh_2 rfl (rf_2_0 hrf) ?_
    refine R_ld2 rfl ?_
    refine R_c1 rfl (m_endsFirst hrf hn h16 _) rfl rfl rfl sh_3 rfl rfl ?_
    rw [hfe]
    show PW _ _ _ (.int (nI f) :: _) _ _
    refine R_n 0 rfl rfl ?_
    refine R_c0 rfl (m_with _ _ false) rfl rfl rfl ?_
    refine R_st2 rfl ?_
    refine R_in3 rfl rfl ?_
    refine R_goto rfl ?_
    rw [byM_s hfe] at hnext
    exact hnext

theorem c_ways_bad (x : Int32) (h : inR 6 x = false) : PC 61 [.ref 1, .int x] (HP sl ρ rf) (some (.int (-1))) (HP sl ρ rf) := by
  refine PC_of (cd := p_c_X4_ways) (L0 := [some (.ref 1), some (.int x), none, none, none, none, none]) rfl rfl ?_
  refine R_ld1 rfl ?_
  refine R_c0 rfl (m_isMotion _) rfl rfl rfl ?_
  refine BB_neF rfl (h) ?_
  refine R_i rfl ?_
  exact R_iret rfl (rfl)

theorem c_ways_full (hrf : RFok rf) {m r : Nat} (hm : m < 6) (hr : ρ 14 m = nI r) (hr4 : r ≤ 4) {p : Nat} (hb : bcI (orA (rw0 ρ m) (fun _ => true) r) = nI p) (hp : 12 < p) (hp2 : p ≤ 32) : PC 61 [.ref 1, .int (nI m)] (HP sl ρ rf) (some (.int (-3))) (HP sl ρ rf) := by
  refine PC_of (cd := p_c_X4_ways) (L0 := [some (.ref 1), some (.int (nI m)), none, none, none, none, none]) rfl rfl ?_
  refine R_ld1 rfl ?_
  refine R_c0 rfl (m_isMotion _) rfl rfl rfl ?_
  refine BB_neT rfl (inR_N hm (by omega)) ?_
  refine R_la0 rfl ?_
  refine R_getR rfl sh_1 rfl (rf_1_0 hrf) ?_
  refine R_getR rfl sh_2 rfl (rf_2_1 hrf) ?_
  refine R_ld1 rfl ?_
  refine R_c1 rfl (m_inputsOf hrf hm hr hr4) rfl rfl rfl sh_12 rfl rfl ?_
  refine R_st2 rfl ?_
  refine R_ld2 rfl ?_
  refine R_c0 rfl (m_bc _) rfl rfl rfl ?_
  rw [hb]
  refine R_n 12 rfl rfl ?_
  refine N2_leF rfl (by omega) (by omega) (by omega) ?_
  refine R_i rfl ?_
  exact R_iret rfl (rfl)

theorem c_ways_ok (hrf : RFok rf) {m r : Nat} (hm : m < 6) (hr : ρ 14 m = nI r) (hr4 : r ≤ 4) {p P : Nat} (hb : bcI (orA (rw0 ρ m) (fun _ => true) r) = nI p) (hp : p ≤ 12) (hP : 2 ^ p = P) (hP2 : P ≤ 4096) : PC 61 [.ref 1, .int (nI m)] (HP sl ρ rf) (some (.int (nI (fb_ct (fun j => pmI (rw0 ρ m) r (sbA (orA (rw0 ρ m) (fun _ => true) r) j)) P)))) (HP sl ρ rf) := by
  have hl := down (n := P) (P := fun j => PW p_c_X4_ways 28 [some (.ref 1), some (.int (nI m)), some (.int (orA (rw0 ρ m) (fun _ => true) r)), some (.int (nI (fb_ct (fun j => pmI (rw0 ρ m) r (sbA (orA (rw0 ρ m) (fun _ => true) r) j)) j))), some (.int (sbA (orA (rw0 ρ m) (fun _ => true) r) (j))), some (.int (nI P)), some (.int (nI j))] [] (HP sl ρ rf) (fun zz => zz = ((some (.int (nI (fb_ct (fun j => pmI (rw0 ρ m) r (sbA (orA (rw0 ρ m) (fun _ => true) r) j)) P)))), HP sl ρ rf))) ?_ ?_
  · refine PC_of (cd := p_c_X4_ways) (L0 := [some (.ref 1), some (.int (nI m)), none, none, none, none, none]) rfl rfl ?_
    refine R_ld1 rfl ?_
    refine R_c0 rfl (m_isMotion _) rfl rfl rfl ?_
    refine BB_neT rfl (inR_N hm (by omega)) ?_
    refine R_la0 rfl ?_
    refine R_getR rfl sh_1 rfl (rf_1_0 hrf) ?_
    refine R_getR rfl sh_2 rfl (rf_2_1 hrf) ?_
    refine R_ld1 rfl ?_
    refine R_c1 rfl (m_inputsOf hrf hm hr hr4) rfl rfl rfl sh_12 rfl rfl ?_
    refine R_st2 rfl ?_
    refine R_ld2 rfl ?_
    refine R_c0 rfl (m_bc _) rfl rfl rfl ?_
    rw [hb]
    refine R_n 12 rfl rfl ?_
    refine N2_leT rfl (by omega) (by omega) (by omega) ?_
    refine R_n 0 rfl rfl ?_
    refine R_st3 rfl ?_
    refine R_n 0 rfl rfl ?_
    refine R_st4 rfl ?_
    refine R_n 1 rfl rfl ?_
    refine R_ld2 rfl ?_
    refine R_c0 rfl (m_bc _) rfl rfl rfl ?_
    rw [hb]
    refine R_shl rfl ?_
    rw [shlN p (by omega), hP]
    refine R_st5 rfl ?_
    refine R_n 0 rfl rfl ?_
    refine R_st6 rfl ?_
    exact hl 0 (Nat.zero_le _)
  · refine R_ld6 rfl ?_
    refine R_ld5 rfl ?_
    refine N2_geT rfl (by omega) (by omega) (by omega) ?_
    refine R_ld3 rfl ?_
    exact R_iret rfl (rfl)
  · intro j hj hnext
    refine R_ld6 rfl ?_
    refine R_ld5 rfl ?_
    refine N2_geF rfl (by omega) (by omega) (hj) ?_
    refine R_la0 rfl ?_
    refine R_getR rfl sh_1 rfl (rf_1_0 hrf) ?_
    refine R_getR rfl sh_2 rfl (rf_2_1 hrf) ?_
    refine R_ld1 rfl ?_
    refine R_ld4 rfl ?_
    refine R_c1 rfl (m_isPerm hrf hm hr hr4 _) rfl rfl rfl sh_12 rfl rfl ?_
    refine BB_eq rfl (fun h37 => ?_) (fun h37 => ?_)
    · refine R_ld4 rfl ?_
      refine R_ld2 rfl ?_
      refine R_sub rfl ?_
      refine R_ld2 rfl ?_
      refine R_and rfl ?_
      refine R_st4 rfl ?_
      refine R_in6 rfl rfl ?_
      refine R_goto rfl ?_
      first | rw [ct_f (f := (fun j => pmI (rw0 ρ m) r (sbA (orA (rw0 ρ m) (fun _ => true) r) j))) h37] at hnext | rw [ct_t (f := (fun j => pmI (rw0 ρ m) r (sbA (orA (rw0 ρ m) (fun _ => true) r) j))) h37] at hnext
      exact hnext
    · refine R_in3 rfl rfl ?_
      refine R_ld4 rfl ?_
      refine R_ld2 rfl ?_
      refine R_sub rfl ?_
      refine R_ld2 rfl ?_
      refine R_and rfl ?_
      refine R_st4 rfl ?_
      refine R_in6 rfl rfl ?_
      refine R_goto rfl ?_
      first | rw [ct_f (f := (fun j => pmI (rw0 ρ m) r (sbA (orA (rw0 ρ m) (fun _ => true) r) j))) h37] at hnext | rw [ct_t (f := (fun j => pmI (rw0 ρ m) r (sbA (orA (rw0 ρ m) (fun _ => true) r) j))) h37] at hnext
      exact hnext

theorem c_wag_bad (x : Int32) (h : inR 6 x = false) : PC 62 [.ref 1, .int x] (HP sl ρ rf) (some (.int (-1))) (HP sl ρ rf) := by
  refine PC_of (cd := p_c_X4_waysAgain) (L0 := [some (.ref 1), some (.int x), none, none, none, none, none, none, none]) rfl rfl ?_
  refine R_ld1 rfl ?_
  refine R_c0 rfl (m_isMotion _) rfl rfl rfl ?_
  refine BB_neF rfl (h) ?_
  refine R_i rfl ?_
  exact R_iret rfl (rfl)

theorem c_wag_full (hrf : RFok rf) {m r : Nat} (hm : m < 6) (hr : ρ 14 m = nI r) (hr4 : r ≤ 4) {p : Nat} (hb : bcI (orA (rw0 ρ m) (fun _ => true) r) = nI p) (hp : 12 < p) (hp2 : p ≤ 32) : PC 62 [.ref 1, .int (nI m)] (HP sl ρ rf) (some (.int (-3))) (HP sl ρ rf) := by
  refine PC_of (cd := p_c_X4_waysAgain) (L0 := [some (.ref 1), some (.int (nI m)), none, none, none, none, none, none, none]) rfl rfl ?_
  refine R_ld1 rfl ?_
  refine R_c0 rfl (m_isMotion _) rfl rfl rfl ?_
  refine BB_neT rfl (inR_N hm (by omega)) ?_
  refine R_la0 rfl ?_
  refine R_getR rfl sh_1 rfl (rf_1_0 hrf) ?_
  refine R_getR rfl sh_2 rfl (rf_2_1 hrf) ?_
  refine R_ld1 rfl ?_
  refine R_c1 rfl (m_inputsOf hrf hm hr hr4) rfl rfl rfl sh_12 rfl rfl ?_
  refine R_st2 rfl ?_
  refine R_ld2 rfl ?_
  refine R_c0 rfl (m_bc _) rfl rfl rfl ?_
  rw [hb]
  refine R_n 12 rfl rfl ?_
  refine N2_leF rfl (by omega) (by omega) (by omega) ?_
  refine R_i rfl ?_
  exact R_iret rfl (rfl)

theorem c_wag_ok (hrf : RFok rf) {m r : Nat} (hm : m < 6) (hr : ρ 14 m = nI r) (hr4 : r ≤ 4) {p P : Nat} (hb : bcI (orA (rw0 ρ m) (fun _ => true) r) = nI p) (hp : p ≤ 12) (hP : 2 ^ r = P + 1) (hP2 : P < 16) : PC 62 [.ref 1, .int (nI m)] (HP sl ρ rf) (some (.int (wgA (orA (rw0 ρ m) (fun _ => true) r) (rw0 ρ m) r P))) (HP sl ρ rf) := by
  have hl := down (n := P) (P := fun j => ∀ w0 w1 w2 : Option Value, PW p_c_X4_waysAgain 30 [some (.ref 1), some (.int (nI m)), some (.int (orA (rw0 ρ m) (fun _ => true) r)), some (.int (wgA (orA (rw0 ρ m) (fun _ => true) r) (rw0 ρ m) r (j))), some (.int (nI (P + 1))), some (.int (nI (j + 1))), w0, w1, w2] [] (HP sl ρ rf) (fun zz => zz = ((some (.int (wgA (orA (rw0 ρ m) (fun _ => true) r) (rw0 ρ m) r P))), HP sl ρ rf))) ?_ ?_
  · refine PC_of (cd := p_c_X4_waysAgain) (L0 := [some (.ref 1), some (.int (nI m)), none, none, none, none, none, none, none]) rfl rfl ?_
    refine R_ld1 rfl ?_
    refine R_c0 rfl (m_isMotion _) rfl rfl rfl ?_
    refine BB_neT rfl (inR_N hm (by omega)) ?_
    refine R_la0 rfl ?_
    refine R_getR rfl sh_1 rfl (rf_1_0 hrf) ?_
    refine R_getR rfl sh_2 rfl (rf_2_1 hrf) ?_
    refine R_ld1 rfl ?_
    refine R_c1 rfl (m_inputsOf hrf hm hr hr4) rfl rfl rfl sh_12 rfl rfl ?_
    refine R_st2 rfl ?_
    refine R_ld2 rfl ?_
    refine R_c0 rfl (m_bc _) rfl rfl rfl ?_
    rw [hb]
    refine R_n 12 rfl rfl ?_
    refine N2_leT rfl (by first | omega) (by first | omega) (by omega) ?_
    refine R_n 0 rfl rfl ?_
    refine R_st3 rfl ?_
    refine R_n 1 rfl rfl ?_
    refine R_la0 rfl ?_
    refine R_getR rfl sh_1 rfl (rf_1_0 hrf) ?_
    refine R_getR rfl sh_2 rfl (rf_2_1 hrf) ?_
    refine R_getR rfl sh_12 rfl (rf_12_2 hrf) ?_
    refine R_ld1 rfl ?_
    refine R_ald rfl sh_14 (by first | decide | omega) (by first | omega) hr ?_
    refine R_shl rfl ?_
    rw [shlN r (by omega), hP]
    refine R_st4 rfl ?_
    refine R_n 1 rfl rfl ?_
    refine R_st5 rfl ?_
    exact hl 0 (Nat.zero_le _) _ _ _
  · intro w0 w1 w2
    refine R_ld5 rfl ?_
    refine R_ld4 rfl ?_
    refine N2_geT rfl (by first | omega) (by first | omega) (by omega) ?_
    refine R_ld3 rfl ?_
    exact R_iret rfl (rfl)
  · intro j hj hnext w0 w1 w2
    refine R_ld5 rfl ?_
    refine R_ld4 rfl ?_
    refine N2_geF rfl (by first | omega) (by first | omega) (by first | omega) ?_
    refine R_ld2 rfl ?_
    refine R_la0 rfl ?_
    refine R_getR rfl sh_1 rfl (rf_1_0 hrf) ?_
    refine R_getR rfl sh_2 rfl (rf_2_1 hrf) ?_
    refine R_ld1 rfl ?_
    refine R_ld5 rfl ?_
    refine R_c1 rfl (m_inputsOfRows hrf hm hr hr4 _) rfl rfl rfl sh_12 rfl rfl ?_
    refine R_i rfl ?_
    refine R_xor rfl ?_
    refine R_and rfl ?_
    refine R_st6 rfl ?_
    refine R_n 1 rfl rfl ?_
    refine R_ld6 rfl ?_
    refine R_c0 rfl (m_bc _) rfl rfl rfl ?_
    refine R_shl rfl ?_
    refine R_st7 rfl ?_
    refine R_ld5 rfl ?_
    refine R_c0 rfl (m_bc _) rfl rfl rfl ?_
    rw [bc_N (by omega)]
    have hbc : bcN (j + 1) ≤ 16 := by rw [bc_pop (by omega), popN_ct]; exact fb_ct_le _ _
    refine R_n 2 rfl rfl ?_
    refine R_remN rfl (by first | omega) (by first | omega) (by first | omega) ?_
    refine R_n 1 rfl rfl ?_
    refine N2_ne rfl (by first | omega) (by first | omega) (fun h54 => ?_) (fun h54 => ?_)
    · refine R_n 0 rfl rfl ?_
      refine R_st8 rfl ?_
      refine R_ld3 rfl ?_
      refine R_ld8 rfl ?_
      refine B1_eqT rfl (rfl) ?_
      refine R_ld7 rfl ?_
      refine R_neg rfl ?_
      refine R_add rfl ?_
      refine R_st3 rfl ?_
      refine R_in5 rfl rfl ?_
      refine R_goto rfl ?_
      first | (rw [wg_f h54] at hnext; exact hnext _ _ _) | (rw [wg_t (Decidable.byContradiction fun q => h54 (fun e => q (by omega)))] at hnext; exact hnext _ _ _) | (rw [wg_t h54] at hnext; exact hnext _ _ _)
    · refine R_n 1 rfl rfl ?_
      refine R_goto rfl ?_
      refine R_st8 rfl ?_
      refine R_ld3 rfl ?_
      refine R_ld8 rfl ?_
      refine B1_eqF rfl (by decide) ?_
      refine R_ld7 rfl ?_
      refine R_goto rfl ?_
      refine R_add rfl ?_
      refine R_st3 rfl ?_
      refine R_in5 rfl rfl ?_
      refine R_goto rfl ?_
      first | (rw [wg_f h54] at hnext; exact hnext _ _ _) | (rw [wg_t (Decidable.byContradiction fun q => h54 (fun e => q (by omega)))] at hnext; exact hnext _ _ _) | (rw [wg_t h54] at hnext; exact hnext _ _ _)

theorem c_run_bad (x : Int32) (h : x < nI 1 ∨ nI 500 < x) : PC 65 [.ref 1, .int x] (HP sl ρ rf) (some (.int (-1))) (HP sl ρ rf) := by
  refine PC_of (cd := p_c_X4_run) (L0 := [some (.ref 1), some (.int x), none, none, none, none]) rfl rfl ?_
  refine R_ld1 rfl ?_
  refine R_n 1 rfl rfl ?_
  refine B2_lt rfl (fun g2 => ?_) (fun g2 => ?_)
  · refine R_i rfl ?_
    exact R_iret rfl (rfl)
  · refine R_ld1 rfl ?_
    refine R_n 500 rfl rfl ?_
    refine B2_le rfl (fun g5 => ?_) (fun g5 => ?_)
    · rcases h with h | h
      · exact absurd h g2
      · exact absurd h (Int32.not_lt.mpr g5)
    · refine R_i rfl ?_
      exact R_iret rfl (rfl)

theorem c_run_full {k t : Nat} (hrf : RFok rf) (h1 : 1 ≤ k) (h5 : k ≤ 500) (ht : ρ 3 1 = nI t) (ht1 : t ≤ 100000) (h : 100000 < t + k) : PC 65 [.ref 1, .int (nI k)] (HP sl ρ rf) (some (.int (-3))) (HP sl ρ rf) := by
  refine PC_of (cd := p_c_X4_run) (L0 := [some (.ref 1), some (.int (nI k)), none, none, none, none]) rfl rfl ?_
  refine R_ld1 rfl ?_
  refine R_n 1 rfl rfl ?_
  refine N2_ltF rfl (by omega) (by omega) (by omega) ?_
  refine R_ld1 rfl ?_
  refine R_n 500 rfl rfl ?_
  refine N2_leT rfl (by omega) (by omega) (by omega) ?_
  refine R_la0 rfl ?_
  refine R_getR rfl sh_1 rfl (rf_1_0 hrf) ?_
  refine R_getR rfl sh_2 rfl (rf_2_0 hrf) ?_
  refine R_getI rfl sh_3 rfl ht ?_
  refine R_ld1 rfl ?_
  refine R_addN rfl ?_
  refine R_n 100000 rfl rfl ?_
  refine N2_leF rfl (by omega) (by omega) (by omega) ?_
  refine R_i rfl ?_
  exact R_iret rfl (rfl)

theorem c_run_ok {k t : Nat} (hrf : RFok rf) (h1 : 1 ≤ k) (h5 : k ≤ 500) (ht : ρ 3 1 = nI t) (ht1 : t ≤ 100000) (h : t + k ≤ 100000) (hrem : PC 89 [.ref 1] (HP sl ρ rf) none (HP sl ρa rfa)) (hrfa : RFok rfa) {n : Nat} {c : Nat → Bool} {rc : Nat → Nat} (hn : ρa 3 0 = nI n) (h16 : n ≤ 16) (hc : ρa 3 3 = M c) (hrr : ∀ m, m < 6 → ρa 14 m = nI (rc m) ∧ rc m ≤ 4) : PC 65 [.ref 1, .int (nI k)] (HP sl ρ rf) (some (.int (nI (rnN ρa n c rc k)))) (HP sl (rnA ρa n c rc k) rfa) := by
  have hl := down (n := k) (P := fun j => ∀ w0 : Option Value, PW p_c_X4_run 29 [some (.ref 1), some (.int (nI k)), some (.int (nI (rnN ρa n c rc (j)))), some (.int (M (cM (rnA ρa n c rc (j)) n c))), some (.int (nI j)), w0] [] (HP sl (rnA ρa n c rc (j)) rfa) (fun zz => zz = ((some (.int (nI (rnN ρa n c rc k)))), HP sl (rnA ρa n c rc k) rfa))) ?_ ?_
  · refine PC_of (cd := p_c_X4_run) (L0 := [some (.ref 1), some (.int (nI k)), none, none, none, none]) rfl rfl ?_
    refine R_ld1 rfl ?_
    refine R_n 1 rfl rfl ?_
    refine N2_ltF rfl (by omega) (by omega) (by omega) ?_
    refine R_ld1 rfl ?_
    refine R_n 500 rfl rfl ?_
    refine N2_leT rfl (by omega) (by omega) (by omega) ?_
    refine R_la0 rfl ?_
    refine R_getR rfl sh_1 rfl (rf_1_0 hrf) ?_
    refine R_getR rfl sh_2 rfl (rf_2_0 hrf) ?_
    refine R_getI rfl sh_3 rfl ht ?_
    refine R_ld1 rfl ?_
    refine R_addN rfl ?_
    refine R_n 100000 rfl rfl ?_
    refine N2_leT rfl (by omega) (by omega) (by omega) ?_
    refine R_la0 rfl ?_
    refine R_c1 rfl (hrem) rfl rfl rfl sh_1 rfl rfl ?_
    refine R_n 0 rfl rfl ?_
    refine R_st2 rfl ?_
    refine R_la0 rfl ?_
    refine R_getR rfl sh_1 rfl (rf_1_0 hrfa) ?_
    refine R_getR rfl sh_2 rfl (rf_2_0 hrfa) ?_
    refine R_c1 rfl (m_counting hrfa hn h16 hc) rfl rfl rfl sh_3 rfl rfl ?_
    refine R_st3 rfl ?_
    refine R_n 0 rfl rfl ?_
    refine R_st4 rfl ?_
    exact hl 0 (Nat.zero_le _) _
  · intro w0
    refine R_ld4 rfl ?_
    refine R_ld1 rfl ?_
    refine N2_geT rfl (by omega) (by omega) (by omega) ?_
    refine R_ld2 rfl ?_
    exact R_iret rfl (rfl)
  · intro j hj hnext w0
    have htn : (tkA (rnA ρa n c rc j) n) 3 0 = nI n := (tkA_n _ n).trans ((rnA_3 _ _ _ _ (by decide) j).trans hn)
    have htc : (tkA (rnA ρa n c rc j) n) 3 3 = M c := (congrFun (tkA_3 _ n) 3).trans ((if_neg (by decide)).trans ((rnA_3 _ _ _ _ (by decide) j).trans hc))
    have hr4 : ∀ m, m < 6 → (tkA (rnA ρa n c rc j) n) 14 m = nI (rc m) ∧ rc m ≤ 4 := fun m hm => by rw [tkA_f _ (by decide), rnA_f _ _ _ _ (by decide)]; exact hrr m hm
    refine R_ld4 rfl ?_
    refine R_ld1 rfl ?_
    refine N2_geF rfl (by omega) (by omega) (hj) ?_
    refine R_la0 rfl ?_
    refine R_getR rfl sh_1 rfl (rf_1_0 hrfa) ?_
    refine R_getR rfl sh_2 rfl (rf_2_0 hrfa) ?_
    refine R_c1 rfl (m_tick hrfa ((rnA_3 _ _ _ _ (by decide) j).trans hn) h16) rfl rfl rfl sh_3 rfl rfl ?_
    refine R_la0 rfl ?_
    refine R_getR rfl sh_1 rfl (rf_1_0 hrfa) ?_
    refine R_getR rfl sh_2 rfl (rf_2_0 hrfa) ?_
    refine R_c1 rfl (m_counting hrfa (show (tkA (rnA ρa n c rc j) n) 3 0 = nI n from htn) h16 (show (tkA (rnA ρa n c rc j) n) 3 3 = M c from htc)) rfl rfl rfl sh_3 rfl rfl ?_
    refine R_st5 rfl ?_
    refine R_ld2 rfl ?_
    refine R_la0 rfl ?_
    refine R_getR rfl sh_1 rfl (rf_1_0 hrfa) ?_
    refine R_getR rfl sh_2 rfl (rf_2_1 hrfa) ?_
    refine R_ld3 rfl ?_
    refine R_ld5 rfl ?_
    refine R_la0 rfl ?_
    refine R_getR rfl sh_1 rfl (rf_1_0 hrfa) ?_
    refine R_getR rfl sh_2 rfl (rf_2_0 hrfa) ?_
    refine R_getI rfl sh_3 rfl rfl ?_
    refine R_c1 rfl (m_stopUn hrfa (show ∀ m, m < 6 → (tkA (rnA ρa n c rc j) n) 14 m = nI (rc m) ∧ rc m ≤ 4 from hr4) _ _ _) rfl rfl rfl sh_12 rfl rfl ?_
    refine R_addN rfl ?_
    refine R_st2 rfl ?_
    refine R_la0 rfl ?_
    refine R_getR rfl sh_1 rfl (rf_1_0 hrfa) ?_
    refine R_getR rfl sh_2 rfl (rf_2_1 hrfa) ?_
    refine R_c1 rfl (m_countTick hrfa) rfl rfl rfl sh_12 rfl rfl ?_
    refine R_ld5 rfl ?_
    refine R_st3 rfl ?_
    refine R_in4 rfl rfl ?_
    refine R_goto rfl ?_
    have e : cM (rnA ρa n c rc (j + 1)) n c = cM (tkA (rnA ρa n c rc j) n) n c := cM_c (fun k hk => by show rnS _ n c rc k = _; unfold rnS; rw [ctA_f _ (by omega), suA_f _ _ _ _ _ (by omega)])
    rw [e] at hnext
    exact hnext _

theorem c_fault_bad (x : Int32) (h : inR 2 x = false) : PC 72 [.ref 1, .int x] (HP sl ρ rf) (some (.int (-1))) (HP sl ρ rf) := by
  refine PC_of (cd := p_c_X4_fault) (L0 := [some (.ref 1), some (.int x), none]) rfl rfl ?_
  refine R_ld1 rfl ?_
  refine B1_eq rfl (fun g1 => ?_) (fun g1 => ?_)
  · first | (rw [inR_2.mpr (Or.inl g1)] at h; cases h) | (rw [inR_2.mpr (Or.inr g4)] at h; cases h)
  · refine R_ld1 rfl ?_
    refine R_n 1 rfl rfl ?_
    refine B2_eq rfl (fun g4 => ?_) (fun g4 => ?_)
    · first | (rw [inR_2.mpr (Or.inl g1)] at h; cases h) | (rw [inR_2.mpr (Or.inr g4)] at h; cases h)
    · refine R_i rfl ?_
      exact R_iret rfl (rfl)

theorem c_fault_none0 {n l : Nat} {T : Nat → Nat} {rc : Nat → Nat} (hrf : RFok rf) (hn : ρ 3 0 = nI n) (h16 : n ≤ 16) (hT : TX ρ T l) (hrr : ∀ m, m < 6 → ρ 14 m = nI (rc m) ∧ rc m ≤ 4) (h : pf T (fo T l n (ρ 12 0) rc) l = none) : PC 72 [.ref 1, .int (nI 0)] (HP sl ρ rf) (some (.int (-4))) (HP sl ρ rf) := by
  refine PC_of (cd := p_c_X4_fault) (L0 := [some (.ref 1), some (.int (nI 0)), none]) rfl rfl ?_
  refine R_ld1 rfl ?_
  refine B1_eqT rfl (rfl) ?_
  refine R_la0 rfl ?_
  refine R_c1 rfl (m_placeOfFault hrf hn h16 hT hrr) rfl rfl rfl sh_1 rfl rfl ?_
  refine R_st2 rfl ?_
  refine R_ld2 rfl ?_
  refine R_i rfl ?_
  refine B2_neF rfl (by rw [h]; rfl) ?_
  refine R_i rfl ?_
  exact R_iret rfl (rfl)

theorem c_fault_none1 {n l : Nat} {T : Nat → Nat} {rc : Nat → Nat} (hrf : RFok rf) (hn : ρ 3 0 = nI n) (h16 : n ≤ 16) (hT : TX ρ T l) (hrr : ∀ m, m < 6 → ρ 14 m = nI (rc m) ∧ rc m ≤ 4) (h : pf T (fo T l n (ρ 12 0) rc) l = none) : PC 72 [.ref 1, .int (nI 1)] (HP sl ρ rf) (some (.int (-4))) (HP sl ρ rf) := by
  refine PC_of (cd := p_c_X4_fault) (L0 := [some (.ref 1), some (.int (nI 1)), none]) rfl rfl ?_
  refine R_ld1 rfl ?_
  refine B1_eqF rfl (by decide) ?_
  refine R_ld1 rfl ?_
  refine R_n 1 rfl rfl ?_
  refine N2_eqT rfl (by omega) (by omega) (by omega) ?_
  refine R_la0 rfl ?_
  refine R_c1 rfl (m_placeOfFault hrf hn h16 hT hrr) rfl rfl rfl sh_1 rfl rfl ?_
  refine R_st2 rfl ?_
  refine R_ld2 rfl ?_
  refine R_i rfl ?_
  refine B2_neF rfl (by rw [h]; rfl) ?_
  refine R_i rfl ?_
  exact R_iret rfl (rfl)

theorem c_fault_0 {n l : Nat} {T : Nat → Nat} {rc : Nat → Nat} (hrf : RFok rf) (hn : ρ 3 0 = nI n) (h16 : n ≤ 16) (hT : TX ρ T l) (hrr : ∀ m, m < 6 → ρ 14 m = nI (rc m) ∧ rc m ≤ 4) {p : Nat} (h : pf T (fo T l n (ρ 12 0) rc) l = some p) : PC 72 [.ref 1, .int (nI 0)] (HP sl ρ rf) (some (.int (nI p))) (HP sl ρ rf) := by
  refine PC_of (cd := p_c_X4_fault) (L0 := [some (.ref 1), some (.int (nI 0)), none]) rfl rfl ?_
  refine R_ld1 rfl ?_
  refine B1_eqT rfl (rfl) ?_
  refine R_la0 rfl ?_
  refine R_c1 rfl (m_placeOfFault hrf hn h16 hT hrr) rfl rfl rfl sh_1 rfl rfl ?_
  rw [h]
  show PW _ _ _ (.int (nI p) :: _) _ _
  refine R_st2 rfl ?_
  refine R_ld2 rfl ?_
  refine R_i rfl ?_
  refine B2_neT rfl (fun q => absurd (show nI p < 0 by rw [q]; decide) (nI_pos (by have := pf_lt h; have := hT.2.1; omega))) ?_
  refine R_ld1 rfl ?_
  refine B1_neF rfl (rfl) ?_
  refine R_ld2 rfl ?_
  refine R_goto rfl ?_
  exact R_iret rfl (rfl)

theorem c_fault_1 {n l : Nat} {T : Nat → Nat} {rc : Nat → Nat} (hrf : RFok rf) (hn : ρ 3 0 = nI n) (h16 : n ≤ 16) (hT : TX ρ T l) (hrr : ∀ m, m < 6 → ρ 14 m = nI (rc m) ∧ rc m ≤ 4) {p : Nat} (h : pf T (fo T l n (ρ 12 0) rc) l = some p) : PC 72 [.ref 1, .int (nI 1)] (HP sl ρ rf) (some (.int (nI (fo T l n (ρ 12 0) rc p (eor T l p))))) (HP sl ρ rf) := by
  refine PC_of (cd := p_c_X4_fault) (L0 := [some (.ref 1), some (.int (nI 1)), none]) rfl rfl ?_
  refine R_ld1 rfl ?_
  refine B1_eqF rfl (by decide) ?_
  refine R_ld1 rfl ?_
  refine R_n 1 rfl rfl ?_
  refine N2_eqT rfl (by omega) (by omega) (by omega) ?_
  refine R_la0 rfl ?_
  refine R_c1 rfl (m_placeOfFault hrf hn h16 hT hrr) rfl rfl rfl sh_1 rfl rfl ?_
  rw [h]
  show PW _ _ _ (.int (nI p) :: _) _ _
  refine R_st2 rfl ?_
  refine R_ld2 rfl ?_
  refine R_i rfl ?_
  refine B2_neT rfl (fun q => absurd (show nI p < 0 by rw [q]; decide) (nI_pos (by have := pf_lt h; have := hT.2.1; omega))) ?_
  refine R_ld1 rfl ?_
  refine B1_neT rfl (by decide) ?_
  refine R_la0 rfl ?_
  refine R_ld2 rfl ?_
  refine R_la0 rfl ?_
  refine R_getR rfl sh_1 rfl (rf_1_5 hrf) ?_
  refine R_ld2 rfl ?_
  refine R_c1 rfl (m_endOfRow hrf hT (Nat.le_of_lt (pf_lt h))) rfl rfl rfl sh_144 rfl rfl ?_
  refine R_c1 rfl (m_faultOfRow hrf hn h16 hT hrr (eor_b T (Nat.le_of_lt (pf_lt h))).1 (eor_b T (Nat.le_of_lt (pf_lt h))).2) rfl rfl rfl sh_1 rfl rfl ?_
  exact R_iret rfl (rfl)

theorem c_read_np {n l : Nat} {T : Nat → Nat} {rc : Nat → Nat} (hrf : RFok rf) (hn : ρ 3 0 = nI n) (h16 : n ≤ 16) (hT : TX ρ T l) (hrr : ∀ m, m < 6 → ρ 14 m = nI (rc m) ∧ rc m ≤ 4) {p : Nat} (h : pf T (fo T l n (ρ 12 0) rc) l = some p) : PC 73 [.ref 1] (HP sl ρ rf) (some (.int (-2))) (HP sl ρ rf) := by
  refine PC_of (cd := p_c_X4_read) (L0 := [some (.ref 1), none, none, none]) rfl rfl ?_
  refine R_la0 rfl ?_
  refine R_c1 rfl (m_placeOfFault hrf hn h16 hT hrr) rfl rfl rfl sh_1 rfl rfl ?_
  rw [h]
  show PW _ _ _ (.int (nI p) :: _) _ _
  refine R_i rfl ?_
  refine B2_eqF rfl (fun q => absurd (show nI p < 0 by rw [q]; decide) (nI_pos (by have := pf_lt h; have := hT.2.1; omega))) ?_
  refine R_i rfl ?_
  exact R_iret rfl (rfl)

theorem c_read_ok {n l : Nat} {T : Nat → Nat} {rc : Nat → Nat} (hrf : RFok rf) (hn : ρ 3 0 = nI n) (h16 : n ≤ 16) (hT : TX ρ T l) (hrr : ∀ m, m < 6 → ρ 14 m = nI (rc m) ∧ rc m ≤ 4) (h : pf T (fo T l n (ρ 12 0) rc) l = none) (hrem : PC 89 [.ref 1] (HP sl ρ rf) none (HP sl ρa rfa)) (hrfa : RFok rfa) (hTa : TX ρa T l) (hra : ∀ m, m < 6 → ρa 14 m = nI (rc m)) (hok : ∀ j, j < l → T j = 59 → isRowT T l (fr T j) j = true ∧ (rdS ρa rc T j).2 (T (fr T j) - 48) < 4) : PC 73 [.ref 1] (HP sl ρ rf) (some (.int (nI (fb_ct (fun j => decide (T j = 59)) l)))) (HP sl (rdS ρa rc T l).1 rfa) := by
  have hl80 := hT.2.1
  have hTj : ∀ j, TX (rdS ρa rc T j).1 T l := fun j => by
    unfold TX
    rw [rd_k _ _ _ (by decide), rd_k _ _ _ (by decide)]
    exact hTa
  have hl := down (n := l) (P := fun j => PW p_c_X4_read 14 [some (.ref 1), some (.int (nI (fb_ct (fun j => decide (T j = 59)) j))), some (.int (nI (fr T j))), some (.int (nI j))] [] (HP sl (rdS ρa rc T j).1 rfa) (fun zz => zz = ((some (.int (nI (fb_ct (fun j => decide (T j = 59)) l)))), HP sl (rdS ρa rc T l).1 rfa))) ?_ ?_
  · refine PC_of (cd := p_c_X4_read) (L0 := [some (.ref 1), none, none, none]) rfl rfl ?_
    refine R_la0 rfl ?_
    refine R_c1 rfl (m_placeOfFault hrf hn h16 hT hrr) rfl rfl rfl sh_1 rfl rfl ?_
    refine R_i rfl ?_
    refine B2_eqT rfl (by rw [h]; rfl) ?_
    refine R_la0 rfl ?_
    refine R_c1 rfl (hrem) rfl rfl rfl sh_1 rfl rfl ?_
    refine R_n 0 rfl rfl ?_
    refine R_st1 rfl ?_
    refine R_n 0 rfl rfl ?_
    refine R_st2 rfl ?_
    refine R_n 0 rfl rfl ?_
    refine R_st3 rfl ?_
    exact hl 0 (Nat.zero_le _)
  · refine R_ld3 rfl ?_
    refine R_la0 rfl ?_
    refine R_getR rfl sh_1 rfl (rf_1_5 hrfa) ?_
    refine R_getI rfl sh_144 rfl (hTj _).1 ?_
    refine N2_geT rfl (by omega) (by omega) (by omega) ?_
    refine R_ld1 rfl ?_
    exact R_iret rfl (rfl)
  · intro j hj hnext
    have hTb := (hT.2.2 j hj).2
    refine R_ld3 rfl ?_
    refine R_la0 rfl ?_
    refine R_getR rfl sh_1 rfl (rf_1_5 hrfa) ?_
    refine R_getI rfl sh_144 rfl (hTj _).1 ?_
    refine N2_geF rfl (by omega) (by omega) (hj) ?_
    refine R_la0 rfl ?_
    refine R_getR rfl sh_1 rfl (rf_1_5 hrfa) ?_
    refine R_getR rfl sh_144 rfl (rf_144_0 hrfa) ?_
    refine R_ld3 rfl ?_
    refine R_ald rfl sh_145 (by first | decide | omega) (by omega) ((hTj j).2.2 j hj).1 ?_
    refine R_n 59 rfl rfl ?_
    refine N2_ne rfl (by omega) (by omega) (fun h25 => ?_) (fun h25 => ?_)
    · refine R_in3 rfl rfl ?_
      refine R_goto rfl ?_
      first | (rw [ct_f (show (fun j => decide (T j = 59)) j = false from decide_eq_false h25), rd_f h25, fr_f h25] at hnext; exact hnext) | (rw [ct_t (show (fun j => decide (T j = 59)) j = true from decide_eq_true h25), rd_t h25, fr_t h25] at hnext; exact hnext)
    · refine R_la0 rfl ?_
      refine R_getR rfl sh_1 rfl (rf_1_0 hrfa) ?_
      refine R_getR rfl sh_2 rfl (rf_2_1 hrfa) ?_
      refine R_la0 rfl ?_
      refine R_getR rfl sh_1 rfl (rf_1_5 hrfa) ?_
      refine R_ld2 rfl ?_
      refine R_c1 rfl (m_motionOf hrfa (hTj j) (a := fr T j) (by have := fr_le T j; omega)) rfl rfl rfl sh_144 rfl rfl ?_
      obtain ⟨hrow, hlt4⟩ := hok j hj h25
      obtain ⟨q1, q2, q3, q4, d, q5, q6⟩ := isRowT_c hrow
      rw [pk_sub q3.1]
      refine R_la0 rfl ?_
      refine R_getR rfl sh_1 rfl (rf_1_5 hrfa) ?_
      refine R_ld2 rfl ?_
      refine R_ld3 rfl ?_
      refine R_c1 rfl (m_inputsOfRow hrfa (hTj j) (by omega) (Nat.le_of_lt q1) q5) rfl rfl rfl sh_144 rfl rfl ?_
      refine R_c1 rfl (m_addRow hrfa (by omega) (rd_14 _ _ _ hra j _ (by omega)) hlt4 _) rfl rfl rfl sh_12 rfl rfl ?_
      refine R_popI rfl ?_
      refine R_in1 rfl rfl ?_
      refine R_ld3 rfl ?_
      refine R_n 1 rfl rfl ?_
      refine R_addN rfl ?_
      refine R_st2 rfl ?_
      refine R_in3 rfl rfl ?_
      refine R_goto rfl ?_
      first | (rw [ct_f (show (fun j => decide (T j = 59)) j = false from decide_eq_false h25), rd_f h25, fr_f h25] at hnext; exact hnext) | (rw [ct_t (show (fun j => decide (T j = 59)) j = true from decide_eq_true h25), rd_t h25, fr_t h25] at hnext; exact hnext)

end
