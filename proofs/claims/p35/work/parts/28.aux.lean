/-! lemmas of the first proof that speak of the class alone -/
section
variable {rc : Nat → Nat} {n : Nat}
theorem up_eq {f : Nat → Int32} {j : Nat} {v : Int32} : upd f j v j = v := if_pos rfl
theorem up_ne {f : Nat → Int32} {j s : Nat} {v : Int32} (h : s ≠ j) : upd f j v s = f s := if_neg h
theorem ct_cut (p : Nat → Bool) (n : Nat) : ∀ k, fb_ct (fun i => decide (i < n) && p i) (n + k) = fb_ct p n
  | 0 => fb_ct_cong fun i hi => by rw [decide_eq_true (show i < n by omega), Bool.true_and]
  | k + 1 => by
    show fb_ct _ (n + k) + (if decide (n + k < n) && p (n + k) then 1 else 0) = _
    rw [ct_cut p n k, decide_eq_false (by omega)]
    rfl
theorem bc_wA {f : Nat → Bool} {n : Nat} (hn : n ≤ 16) : bcI (wA f n) = nI (fb_ct f n) := by
  rw [wA_M hn, bc_M]
  congr 1
  show mc _ = _
  rw [mc_ct]
  have := ct_cut f n (16 - n)
  rw [show n + (16 - n) = 16 by omega] at this
  exact this
theorem bc_is {x : Int32} {w : Nat} (hw : w < 65536) (h : x = nI w) : bcI x = nI (popN 16 w) := by rw [h, bc_N hw, bc_pop hw]
/-- sums over two -/
theorem ct_le {p q : Nat → Bool} : ∀ {n : Nat}, (∀ i, i < n → q i = true → p i = true) → fb_ct q n ≤ fb_ct p n
  | 0, _ => Nat.le_refl _
  | n + 1, h => by
    have ih := ct_le fun i hi => h i (Nat.lt_succ_of_lt hi)
    rw [fb_ct_succ, fb_ct_succ]
    cases hq : q n with
    | false => rw [if_neg (by decide)]; omega
    | true => rw [h n (Nat.lt_succ_self n) hq]; omega
theorem ct_one {p q : Nat → Bool} {i : Nat} (h : ∀ j, j ≠ i → q j = p j) : ∀ n, fb_ct q n ≤ fb_ct p n + (if i < n then 1 else 0)
  | 0 => by simp [fb_ct]
  | n + 1 => by
    have ih := ct_one h n
    rw [fb_ct_succ, fb_ct_succ]
    by_cases e : n = i
    · subst e
      rw [if_neg (Nat.lt_irrefl n)] at ih
      rw [if_pos (Nat.lt_succ_self n)]
      split <;> split <;> omega
    · rw [h n e]
      by_cases e2 : i < n
      · rw [if_pos e2] at ih
        rw [if_pos (show i < n + 1 by omega)]
        omega
      · rw [if_neg e2] at ih
        rw [if_neg (show ¬ i < n + 1 by omega)]
        omega
theorem rnS_t (r : pR) (n : Nat) (c : Nat → Bool) (rc : Nat → Nat) : rnS r n c rc 3 1 = r 3 1 + nI 1 := by
  unfold rnS
  rw [ctA_f _ (by decide), suA_f _ _ _ _ _ (by decide), tkA_3, up_eq]
theorem rnA_t {ρ : pR} {t : Nat} (ht : ρ 3 1 = nI t) (n : Nat) (c : Nat → Bool) (rc : Nat → Nat) : ∀ j, rnA ρ n c rc j 3 1 = nI (t + j)
  | 0 => ht
  | j + 1 => by
    show rnS _ _ _ _ 3 1 = _
    rw [rnS_t, rnA_t ht n c rc j, nI_add]
    rfl
/-- the past -/
theorem tkS_o (r : pR) (j k s : Nat) (h : s ≠ j) : tkS r j k s = r k s := by
  by_cases a : nI 0 < r 8 j <;> by_cases b : r 11 j < r 3 1
  · rw [tk4 a b]
    by_cases e : k = 10
    · subst e; rw [u2_at, up_ne h, u2_ne (by decide), u2_ne (by decide)]
    · rw [u2_ne e]
      by_cases e : k = 9
      · subst e; rw [u2_at, up_ne h, u2_ne (by decide)]
      · rw [u2_ne e]
        by_cases e : k = 8
        · subst e; rw [u2_at, up_ne h]
        · rw [u2_ne e]
  · rw [tk3 a b]
    by_cases e : k = 9
    · subst e; rw [u2_at, up_ne h, u2_ne (by decide)]
    · rw [u2_ne e]
      by_cases e : k = 8
      · subst e; rw [u2_at, up_ne h]
      · rw [u2_ne e]
  · rw [tk2 a b]
    by_cases e : k = 10
    · subst e; rw [u2_at, up_ne h]
    · rw [u2_ne e]
  · rw [tk1 a b]
theorem tkS_br {r : pR} {j i : Nat} (h : ¬ nI 0 < r 8 i) : tkS r j 8 i = r 8 i := by
  by_cases e : i = j
  · subst e
    by_cases b : r 11 i < r 3 1
    · rw [tk2 h b, u2_ne (by decide)]
    · rw [tk1 h b]
  · exact tkS_o r j 8 i e
theorem tkA_br {r : pR} {i : Nat} (h : ¬ nI 0 < r 8 i) : ∀ j, tkA r j 8 i = r 8 i
  | 0 => by show u2 r 3 1 _ 8 i = _; rw [u2_ne (by decide)]
  | j + 1 => by
    have ih := tkA_br h j
    show tkS (tkA r j) j 8 i = _
    rw [tkS_br (by rw [ih]; exact h), ih]
theorem rnA_br {σ : pR} {c : Nat → Bool} {i : Nat} (h : ¬ nI 0 < σ 8 i) : ∀ j, rnA σ n c rc j 8 i = σ 8 i
  | 0 => rfl
  | j + 1 => by
    have ih := rnA_br (c := c) h j
    show rnS _ _ _ _ 8 i = _
    unfold rnS
    rw [ctA_f _ (by decide), suA_f _ _ _ _ _ (by decide), tkA_br (by rw [ih]; exact h), ih]
def vw (ρ : pR) (a : Nat) : pR := fun k => ρ (a + k - 2)
theorem VEq_vw {ρ ρ' : pR} {b a : Nat} (hb : 2 ≤ b) (ha : 2 ≤ a) (h : VEq ρ b ρ' a) : VEq (vw ρ b) 2 (vw ρ' a) 2 := by
  obtain ⟨v1, v2, v3, v4, v5⟩ := h
  have e : ∀ (r : pR) (c f : Nat), vw r c (2 + f) = r (c + f) := fun r c f => by
    unfold vw
    rw [show c + (2 + f) - 2 = c + f by omega]
  refine ⟨fun s hs => ?_, fun f f1 f2 j hj => ?_, ?_, fun j hj => ?_, fun f f1 f2 j hj => ?_⟩
  · rw [e, e]; exact v1 s hs
  · rw [e, e]; exact v2 f f1 f2 j hj
  · rw [e, e]; exact v3
  · rw [e, e]; exact v4 j hj
  · rw [e, e]; exact v5 f f1 f2 j hj
theorem vw_2 (ρ : pR) : vw ρ 2 = ρ := by
  funext k
  unfold vw
  rw [show 2 + k - 2 = k by omega]
theorem brc_e {σ σ' : pR} {n : Nat} (h : σ' 8 = σ 8) (hB : fb_ct (br σ) n ≤ 3) : fb_ct (br σ') n ≤ 3 := by
  rw [show br σ' = br σ from by funext i; unfold br; rw [h]]
  exact hB
theorem brc_n {σ σ' : pR} {n : Nat} (hz : σ 8 n = 0) (h : σ' 8 = σ 8) (hB : fb_ct (br σ) n ≤ 3) : fb_ct (br σ') (n + 1) ≤ 3 := by
  rw [show br σ' = br σ from by funext i; unfold br; rw [h], ct_f (br_f1 (by rw [hz]; decide))]
  exact hB
end
