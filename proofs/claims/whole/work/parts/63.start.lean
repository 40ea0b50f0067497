/-! the two constructors, and the law whole -/
def rf0 : pF := fun _ _ => none
theorem rM_o {ρ : pR} {N k : Nat} (h3 : k ≠ N + 3) (h4 : k ≠ N + 4) : rM ρ N k = ρ k := by
  unfold rM
  rw [u1_ne h4, u1_ne h3]
section
variable {L : Nat} {ρ : pR} {rf : pF}
def rB (ρ : pR) : pR := (rM (rM (rM (rM (rM (rM (rM ρ (3 + 10)) (24 + 10)) (44 + 10)) (64 + 10)) (84 + 10)) (105 + 10)) (125 + 10))
def rfB : pF := (q2 (q2 (q2 (rfS (q2 (rfS (q2 (q2 (rfS (q2 (rfS (q2 (rfS (q2 (rfS (q2 (q2 (rfS rf0 2 3) 1 0 (some 2)) 1 1 (some 22)) 23 24) 22 (0) (some 23)) 43 44) 22 (0 + 1) (some 43)) 63 64) 22 (0 + 1 + 1) (some 63)) 83 84) 22 (0 + 1 + 1 + 1) (some 83)) 1 3 (some 103)) 104 105) 103 (0) (some 104)) 124 125) 103 (0 + 1) (some 124)) 144 0 (some 145)) 1 5 (some 144))
def BL (L : Nat) : List (Nat × Nat) := (((((((((((((((((([(10, L), (4, 6)] ++ [(2, 2)]) ++ SL) ++ [(13, 4)]) ++ [(2, 2)]) ++ SL) ++ [(2, 2)]) ++ SL) ++ [(2, 2)]) ++ SL) ++ [(2, 2)]) ++ SL) ++ [(13, 2)]) ++ [(2, 2)]) ++ SL) ++ [(2, 2)]) ++ SL) ++ [(3, 2)]) ++ [(11, 80)])
theorem BL_len : (BL L).length = 146 := by simp [BL, SL]
set_option maxRecDepth 8000 in
theorem i_Board (hz : Zr 2 ρ rf0) (h1 : ρ 1 = fun _ => 0) : PC 41 [.ref 1] ([(10, L), (4, 6)], ρ, rf0) none (BL L, rB ρ, rfB) := by
  refine PC_of (cd := p_c_X4_init) (L0 := [some (.ref 1), none]) rfl rfl ?_
  have hc1 : ([(10, L), (4, 6)] : List (Nat × Nat))[1]? = some (4, 6) := rfl
  have hN0 : ([(10, L), (4, 6)] : List (Nat × Nat)).length = 2 := rfl
  refine R_la0 rfl ?_
  refine G_obj rfl rfl ?_
  refine R_la0 rfl ?_
  refine G_new rfl hN0 ⟨by decide, by decide⟩ hz rfl ?_
  have c1 : ([(10, L), (4, 6)] ++ [(2, 2)])[1]? = some (4, 6) := gA hc1
  have c2 : ([(10, L), (4, 6)] ++ [(2, 2)])[2]? = some (2, 2) := gN hN0 (2, 2) []
  have hN1 : ([(10, L), (4, 6)] ++ [(2, 2)]).length = 3 := gL hN0 [(2, 2)]
  have z1 : Zr 3 ρ rf0 := hz.s 1
  refine R_dupR rfl ?_
  refine PW_call rfl (i_State (o := 2) (N := 3) c2 (by decide) hN1 z1) rfl rfl rfl rfl ?_
  have c3 : (([(10, L), (4, 6)] ++ [(2, 2)]) ++ SL)[1]? = some (4, 6) := gA c1
  have c4 : (([(10, L), (4, 6)] ++ [(2, 2)]) ++ SL)[2]? = some (2, 2) := gA c2
  have hN2 : (([(10, L), (4, 6)] ++ [(2, 2)]) ++ SL).length = 22 := gL hN1 SL
  have z2 : Zr 22 (rM ρ (3 + 10)) (rfS rf0 2 3) := Zr_S (o := 2) z1 (by decide)
  have e1 : (rM ρ (3 + 10)) 1 = fun _ => 0 := (rM_o (by decide) (by decide)).trans h1
  refine G_putR rfl rfl (o := 1) c3 (by decide) rfl ?_
  have z3 : Zr 22 (rM ρ (3 + 10)) (q2 (rfS rf0 2 3) 1 0 (some 2)) := z2.q (o := 1) (by decide) 0 (some 2)
  refine R_la0 rfl ?_
  refine R_n 4 rfl rfl ?_
  refine G_anew (n := 4) rfl hN2 (by decide) (by decide) z3 ?_
  have c5 : ((([(10, L), (4, 6)] ++ [(2, 2)]) ++ SL) ++ [(13, 4)])[1]? = some (4, 6) := gA c3
  have c6 : ((([(10, L), (4, 6)] ++ [(2, 2)]) ++ SL) ++ [(13, 4)])[2]? = some (2, 2) := gA c4
  have c7 : ((([(10, L), (4, 6)] ++ [(2, 2)]) ++ SL) ++ [(13, 4)])[22]? = some (13, 4) := gN hN2 (13, 4) []
  have hN3 : ((([(10, L), (4, 6)] ++ [(2, 2)]) ++ SL) ++ [(13, 4)]).length = 23 := gL hN2 [(13, 4)]
  have z4 : Zr 23 (rM ρ (3 + 10)) (q2 (rfS rf0 2 3) 1 0 (some 2)) := z3.s 1
  refine G_putR rfl rfl (o := 1) c5 (by decide) rfl ?_
  have z5 : Zr 23 (rM ρ (3 + 10)) (q2 (q2 (rfS rf0 2 3) 1 0 (some 2)) 1 1 (some 22)) := z4.q (o := 1) (by decide) 1 (some 22)
  refine R_n 0 rfl rfl ?_
  refine R_st1 rfl ?_
  refine R_ld1 rfl ?_
  refine R_n 4 rfl rfl ?_
  refine N2_geF rfl (by decide) (by decide) (by decide) ?_
  refine R_la0 rfl ?_
  refine G_getR (v := 22) rfl (o := 1) c5 (by decide) rfl (by decide +kernel) ?_
  refine R_ld1 rfl ?_
  refine G_new rfl hN3 ⟨by decide, by decide⟩ z5 rfl ?_
  have c8 : (((([(10, L), (4, 6)] ++ [(2, 2)]) ++ SL) ++ [(13, 4)]) ++ [(2, 2)])[1]? = some (4, 6) := gA c5
  have c9 : (((([(10, L), (4, 6)] ++ [(2, 2)]) ++ SL) ++ [(13, 4)]) ++ [(2, 2)])[2]? = some (2, 2) := gA c6
  have c10 : (((([(10, L), (4, 6)] ++ [(2, 2)]) ++ SL) ++ [(13, 4)]) ++ [(2, 2)])[22]? = some (13, 4) := gA c7
  have c11 : (((([(10, L), (4, 6)] ++ [(2, 2)]) ++ SL) ++ [(13, 4)]) ++ [(2, 2)])[23]? = some (2, 2) := gN hN3 (2, 2) []
  have hN4 : (((([(10, L), (4, 6)] ++ [(2, 2)]) ++ SL) ++ [(13, 4)]) ++ [(2, 2)]).length = 24 := gL hN3 [(2, 2)]
  have z6 : Zr 24 (rM ρ (3 + 10)) (q2 (q2 (rfS rf0 2 3) 1 0 (some 2)) 1 1 (some 22)) := z5.s 1
  refine R_dupR rfl ?_
  refine PW_call rfl (i_State (o := 23) (N := 24) c11 (by decide) hN4 z6) rfl rfl rfl rfl ?_
  have c12 : ((((([(10, L), (4, 6)] ++ [(2, 2)]) ++ SL) ++ [(13, 4)]) ++ [(2, 2)]) ++ SL)[1]? = some (4, 6) := gA c8
  have c13 : ((((([(10, L), (4, 6)] ++ [(2, 2)]) ++ SL) ++ [(13, 4)]) ++ [(2, 2)]) ++ SL)[2]? = some (2, 2) := gA c9
  have c14 : ((((([(10, L), (4, 6)] ++ [(2, 2)]) ++ SL) ++ [(13, 4)]) ++ [(2, 2)]) ++ SL)[22]? = some (13, 4) := gA c10
  have c15 : ((((([(10, L), (4, 6)] ++ [(2, 2)]) ++ SL) ++ [(13, 4)]) ++ [(2, 2)]) ++ SL)[23]? = some (2, 2) := gA c11
  have hN5 : ((((([(10, L), (4, 6)] ++ [(2, 2)]) ++ SL) ++ [(13, 4)]) ++ [(2, 2)]) ++ SL).length = 43 := gL hN4 SL
  have z7 : Zr 43 (rM (rM ρ (3 + 10)) (24 + 10)) (rfS (q2 (q2 (rfS rf0 2 3) 1 0 (some 2)) 1 1 (some 22)) 23 24) := Zr_S (o := 23) z6 (by decide)
  have e2 : (rM (rM ρ (3 + 10)) (24 + 10)) 1 = fun _ => 0 := (rM_o (by decide) (by decide)).trans e1
  refine G_aast rfl (o := 22) (v := 23) c14 ⟨by decide, by decide⟩ (by decide) c15 (by decide) ?_
  have z8 : Zr 43 (rM (rM ρ (3 + 10)) (24 + 10)) (q2 (rfS (q2 (q2 (rfS rf0 2 3) 1 0 (some 2)) 1 1 (some 22)) 23 24) 22 (0) (some 23)) := z7.q (o := 22) (by decide) (0) (some 23)
  refine R_in1 rfl rfl ?_
  refine R_goto rfl ?_
  refine R_ld1 rfl ?_
  refine R_n 4 rfl rfl ?_
  refine N2_geF rfl (by decide) (by decide) (by decide) ?_
  refine R_la0 rfl ?_
  refine G_getR (v := 22) rfl (o := 1) c12 (by decide) rfl (by decide +kernel) ?_
  refine R_ld1 rfl ?_
  refine G_new rfl hN5 ⟨by decide, by decide⟩ z8 rfl ?_
  have c16 : (((((([(10, L), (4, 6)] ++ [(2, 2)]) ++ SL) ++ [(13, 4)]) ++ [(2, 2)]) ++ SL) ++ [(2, 2)])[1]? = some (4, 6) := gA c12
  have c17 : (((((([(10, L), (4, 6)] ++ [(2, 2)]) ++ SL) ++ [(13, 4)]) ++ [(2, 2)]) ++ SL) ++ [(2, 2)])[22]? = some (13, 4) := gA c14
  have c18 : (((((([(10, L), (4, 6)] ++ [(2, 2)]) ++ SL) ++ [(13, 4)]) ++ [(2, 2)]) ++ SL) ++ [(2, 2)])[23]? = some (2, 2) := gA c15
  have c19 : (((((([(10, L), (4, 6)] ++ [(2, 2)]) ++ SL) ++ [(13, 4)]) ++ [(2, 2)]) ++ SL) ++ [(2, 2)])[43]? = some (2, 2) := gN hN5 (2, 2) []
  have hN6 : (((((([(10, L), (4, 6)] ++ [(2, 2)]) ++ SL) ++ [(13, 4)]) ++ [(2, 2)]) ++ SL) ++ [(2, 2)]).length = 44 := gL hN5 [(2, 2)]
  have z9 : Zr 44 (rM (rM ρ (3 + 10)) (24 + 10)) (q2 (rfS (q2 (q2 (rfS rf0 2 3) 1 0 (some 2)) 1 1 (some 22)) 23 24) 22 (0) (some 23)) := z8.s 1
  refine R_dupR rfl ?_
  refine PW_call rfl (i_State (o := 43) (N := 44) c19 (by decide) hN6 z9) rfl rfl rfl rfl ?_
  have c20 : ((((((([(10, L), (4, 6)] ++ [(2, 2)]) ++ SL) ++ [(13, 4)]) ++ [(2, 2)]) ++ SL) ++ [(2, 2)]) ++ SL)[1]? = some (4, 6) := gA c16
  have c21 : ((((((([(10, L), (4, 6)] ++ [(2, 2)]) ++ SL) ++ [(13, 4)]) ++ [(2, 2)]) ++ SL) ++ [(2, 2)]) ++ SL)[22]? = some (13, 4) := gA c17
  have c22 : ((((((([(10, L), (4, 6)] ++ [(2, 2)]) ++ SL) ++ [(13, 4)]) ++ [(2, 2)]) ++ SL) ++ [(2, 2)]) ++ SL)[23]? = some (2, 2) := gA c18
  have c23 : ((((((([(10, L), (4, 6)] ++ [(2, 2)]) ++ SL) ++ [(13, 4)]) ++ [(2, 2)]) ++ SL) ++ [(2, 2)]) ++ SL)[43]? = some (2, 2) := gA c19
  have hN7 : ((((((([(10, L), (4, 6)] ++ [(2, 2)]) ++ SL) ++ [(13, 4)]) ++ [(2, 2)]) ++ SL) ++ [(2, 2)]) ++ SL).length = 63 := gL hN6 SL
  have z10 : Zr 63 (rM (rM (rM ρ (3 + 10)) (24 + 10)) (44 + 10)) (rfS (q2 (rfS (q2 (q2 (rfS rf0 2 3) 1 0 (some 2)) 1 1 (some 22)) 23 24) 22 (0) (some 23)) 43 44) := Zr_S (o := 43) z9 (by decide)
  have e3 : (rM (rM (rM ρ (3 + 10)) (24 + 10)) (44 + 10)) 1 = fun _ => 0 := (rM_o (by decide) (by decide)).trans e2
  refine G_aast rfl (o := 22) (v := 43) c21 ⟨by decide, by decide⟩ (by decide) c23 (by decide) ?_
  have z11 : Zr 63 (rM (rM (rM ρ (3 + 10)) (24 + 10)) (44 + 10)) (q2 (rfS (q2 (rfS (q2 (q2 (rfS rf0 2 3) 1 0 (some 2)) 1 1 (some 22)) 23 24) 22 (0) (some 23)) 43 44) 22 (0 + 1) (some 43)) := z10.q (o := 22) (by decide) (0 + 1) (some 43)
  refine R_in1 rfl rfl ?_
  refine R_goto rfl ?_
  refine R_ld1 rfl ?_
  refine R_n 4 rfl rfl ?_
  refine N2_geF rfl (by decide) (by decide) (by decide) ?_
  refine R_la0 rfl ?_
  refine G_getR (v := 22) rfl (o := 1) c20 (by decide) rfl (by decide +kernel) ?_
  refine R_ld1 rfl ?_
  refine G_new rfl hN7 ⟨by decide, by decide⟩ z11 rfl ?_
  have c24 : (((((((([(10, L), (4, 6)] ++ [(2, 2)]) ++ SL) ++ [(13, 4)]) ++ [(2, 2)]) ++ SL) ++ [(2, 2)]) ++ SL) ++ [(2, 2)])[1]? = some (4, 6) := gA c20
  have c25 : (((((((([(10, L), (4, 6)] ++ [(2, 2)]) ++ SL) ++ [(13, 4)]) ++ [(2, 2)]) ++ SL) ++ [(2, 2)]) ++ SL) ++ [(2, 2)])[22]? = some (13, 4) := gA c21
  have c26 : (((((((([(10, L), (4, 6)] ++ [(2, 2)]) ++ SL) ++ [(13, 4)]) ++ [(2, 2)]) ++ SL) ++ [(2, 2)]) ++ SL) ++ [(2, 2)])[43]? = some (2, 2) := gA c23
  have c27 : (((((((([(10, L), (4, 6)] ++ [(2, 2)]) ++ SL) ++ [(13, 4)]) ++ [(2, 2)]) ++ SL) ++ [(2, 2)]) ++ SL) ++ [(2, 2)])[63]? = some (2, 2) := gN hN7 (2, 2) []
  have hN8 : (((((((([(10, L), (4, 6)] ++ [(2, 2)]) ++ SL) ++ [(13, 4)]) ++ [(2, 2)]) ++ SL) ++ [(2, 2)]) ++ SL) ++ [(2, 2)]).length = 64 := gL hN7 [(2, 2)]
  have z12 : Zr 64 (rM (rM (rM ρ (3 + 10)) (24 + 10)) (44 + 10)) (q2 (rfS (q2 (rfS (q2 (q2 (rfS rf0 2 3) 1 0 (some 2)) 1 1 (some 22)) 23 24) 22 (0) (some 23)) 43 44) 22 (0 + 1) (some 43)) := z11.s 1
  refine R_dupR rfl ?_
  refine PW_call rfl (i_State (o := 63) (N := 64) c27 (by decide) hN8 z12) rfl rfl rfl rfl ?_
  have c28 : ((((((((([(10, L), (4, 6)] ++ [(2, 2)]) ++ SL) ++ [(13, 4)]) ++ [(2, 2)]) ++ SL) ++ [(2, 2)]) ++ SL) ++ [(2, 2)]) ++ SL)[1]? = some (4, 6) := gA c24
  have c29 : ((((((((([(10, L), (4, 6)] ++ [(2, 2)]) ++ SL) ++ [(13, 4)]) ++ [(2, 2)]) ++ SL) ++ [(2, 2)]) ++ SL) ++ [(2, 2)]) ++ SL)[22]? = some (13, 4) := gA c25
  have c30 : ((((((((([(10, L), (4, 6)] ++ [(2, 2)]) ++ SL) ++ [(13, 4)]) ++ [(2, 2)]) ++ SL) ++ [(2, 2)]) ++ SL) ++ [(2, 2)]) ++ SL)[43]? = some (2, 2) := gA c26
  have c31 : ((((((((([(10, L), (4, 6)] ++ [(2, 2)]) ++ SL) ++ [(13, 4)]) ++ [(2, 2)]) ++ SL) ++ [(2, 2)]) ++ SL) ++ [(2, 2)]) ++ SL)[63]? = some (2, 2) := gA c27
  have hN9 : ((((((((([(10, L), (4, 6)] ++ [(2, 2)]) ++ SL) ++ [(13, 4)]) ++ [(2, 2)]) ++ SL) ++ [(2, 2)]) ++ SL) ++ [(2, 2)]) ++ SL).length = 83 := gL hN8 SL
  have z13 : Zr 83 (rM (rM (rM (rM ρ (3 + 10)) (24 + 10)) (44 + 10)) (64 + 10)) (rfS (q2 (rfS (q2 (rfS (q2 (q2 (rfS rf0 2 3) 1 0 (some 2)) 1 1 (some 22)) 23 24) 22 (0) (some 23)) 43 44) 22 (0 + 1) (some 43)) 63 64) := Zr_S (o := 63) z12 (by decide)
  have e4 : (rM (rM (rM (rM ρ (3 + 10)) (24 + 10)) (44 + 10)) (64 + 10)) 1 = fun _ => 0 := (rM_o (by decide) (by decide)).trans e3
  refine G_aast rfl (o := 22) (v := 63) c29 ⟨by decide, by decide⟩ (by decide) c31 (by decide) ?_
  have z14 : Zr 83 (rM (rM (rM (rM ρ (3 + 10)) (24 + 10)) (44 + 10)) (64 + 10)) (q2 (rfS (q2 (rfS (q2 (rfS (q2 (q2 (rfS rf0 2 3) 1 0 (some 2)) 1 1 (some 22)) 23 24) 22 (0) (some 23)) 43 44) 22 (0 + 1) (some 43)) 63 64) 22 (0 + 1 + 1) (some 63)) := z13.q (o := 22) (by decide) (0 + 1 + 1) (some 63)
  refine R_in1 rfl rfl ?_
  refine R_goto rfl ?_
  refine R_ld1 rfl ?_
  refine R_n 4 rfl rfl ?_
  refine N2_geF rfl (by decide) (by decide) (by decide) ?_
  refine R_la0 rfl ?_
  refine G_getR (v := 22) rfl (o := 1) c28 (by decide) rfl (by decide +kernel) ?_
  refine R_ld1 rfl ?_
  refine G_new rfl hN9 ⟨by decide, by decide⟩ z14 rfl ?_
  have c32 : (((((((((([(10, L), (4, 6)] ++ [(2, 2)]) ++ SL) ++ [(13, 4)]) ++ [(2, 2)]) ++ SL) ++ [(2, 2)]) ++ SL) ++ [(2, 2)]) ++ SL) ++ [(2, 2)])[1]? = some (4, 6) := gA c28
  have c33 : (((((((((([(10, L), (4, 6)] ++ [(2, 2)]) ++ SL) ++ [(13, 4)]) ++ [(2, 2)]) ++ SL) ++ [(2, 2)]) ++ SL) ++ [(2, 2)]) ++ SL) ++ [(2, 2)])[22]? = some (13, 4) := gA c29
  have c34 : (((((((((([(10, L), (4, 6)] ++ [(2, 2)]) ++ SL) ++ [(13, 4)]) ++ [(2, 2)]) ++ SL) ++ [(2, 2)]) ++ SL) ++ [(2, 2)]) ++ SL) ++ [(2, 2)])[63]? = some (2, 2) := gA c31
  have c35 : (((((((((([(10, L), (4, 6)] ++ [(2, 2)]) ++ SL) ++ [(13, 4)]) ++ [(2, 2)]) ++ SL) ++ [(2, 2)]) ++ SL) ++ [(2, 2)]) ++ SL) ++ [(2, 2)])[83]? = some (2, 2) := gN hN9 (2, 2) []
  have hN10 : (((((((((([(10, L), (4, 6)] ++ [(2, 2)]) ++ SL) ++ [(13, 4)]) ++ [(2, 2)]) ++ SL) ++ [(2, 2)]) ++ SL) ++ [(2, 2)]) ++ SL) ++ [(2, 2)]).length = 84 := gL hN9 [(2, 2)]
  have z15 : Zr 84 (rM (rM (rM (rM ρ (3 + 10)) (24 + 10)) (44 + 10)) (64 + 10)) (q2 (rfS (q2 (rfS (q2 (rfS (q2 (q2 (rfS rf0 2 3) 1 0 (some 2)) 1 1 (some 22)) 23 24) 22 (0) (some 23)) 43 44) 22 (0 + 1) (some 43)) 63 64) 22 (0 + 1 + 1) (some 63)) := z14.s 1
  refine R_dupR rfl ?_
  refine PW_call rfl (i_State (o := 83) (N := 84) c35 (by decide) hN10 z15) rfl rfl rfl rfl ?_
  have c36 : ((((((((((([(10, L), (4, 6)] ++ [(2, 2)]) ++ SL) ++ [(13, 4)]) ++ [(2, 2)]) ++ SL) ++ [(2, 2)]) ++ SL) ++ [(2, 2)]) ++ SL) ++ [(2, 2)]) ++ SL)[1]? = some (4, 6) := gA c32
  have c37 : ((((((((((([(10, L), (4, 6)] ++ [(2, 2)]) ++ SL) ++ [(13, 4)]) ++ [(2, 2)]) ++ SL) ++ [(2, 2)]) ++ SL) ++ [(2, 2)]) ++ SL) ++ [(2, 2)]) ++ SL)[22]? = some (13, 4) := gA c33
  have c38 : ((((((((((([(10, L), (4, 6)] ++ [(2, 2)]) ++ SL) ++ [(13, 4)]) ++ [(2, 2)]) ++ SL) ++ [(2, 2)]) ++ SL) ++ [(2, 2)]) ++ SL) ++ [(2, 2)]) ++ SL)[63]? = some (2, 2) := gA c34
  have c39 : ((((((((((([(10, L), (4, 6)] ++ [(2, 2)]) ++ SL) ++ [(13, 4)]) ++ [(2, 2)]) ++ SL) ++ [(2, 2)]) ++ SL) ++ [(2, 2)]) ++ SL) ++ [(2, 2)]) ++ SL)[83]? = some (2, 2) := gA c35
  have hN11 : ((((((((((([(10, L), (4, 6)] ++ [(2, 2)]) ++ SL) ++ [(13, 4)]) ++ [(2, 2)]) ++ SL) ++ [(2, 2)]) ++ SL) ++ [(2, 2)]) ++ SL) ++ [(2, 2)]) ++ SL).length = 103 := gL hN10 SL
  have z16 : Zr 103 (rM (rM (rM (rM (rM ρ (3 + 10)) (24 + 10)) (44 + 10)) (64 + 10)) (84 + 10)) (rfS (q2 (rfS (q2 (rfS (q2 (rfS (q2 (q2 (rfS rf0 2 3) 1 0 (some 2)) 1 1 (some 22)) 23 24) 22 (0) (some 23)) 43 44) 22 (0 + 1) (some 43)) 63 64) 22 (0 + 1 + 1) (some 63)) 83 84) := Zr_S (o := 83) z15 (by decide)
  have e5 : (rM (rM (rM (rM (rM ρ (3 + 10)) (24 + 10)) (44 + 10)) (64 + 10)) (84 + 10)) 1 = fun _ => 0 := (rM_o (by decide) (by decide)).trans e4
  refine G_aast rfl (o := 22) (v := 83) c37 ⟨by decide, by decide⟩ (by decide) c39 (by decide) ?_
  have z17 : Zr 103 (rM (rM (rM (rM (rM ρ (3 + 10)) (24 + 10)) (44 + 10)) (64 + 10)) (84 + 10)) (q2 (rfS (q2 (rfS (q2 (rfS (q2 (rfS (q2 (q2 (rfS rf0 2 3) 1 0 (some 2)) 1 1 (some 22)) 23 24) 22 (0) (some 23)) 43 44) 22 (0 + 1) (some 43)) 63 64) 22 (0 + 1 + 1) (some 63)) 83 84) 22 (0 + 1 + 1 + 1) (some 83)) := z16.q (o := 22) (by decide) (0 + 1 + 1 + 1) (some 83)
  refine R_in1 rfl rfl ?_
  refine R_goto rfl ?_
  refine R_ld1 rfl ?_
  refine R_n 4 rfl rfl ?_
  refine N2_geT rfl (by decide) (by decide) (by decide) ?_
  refine R_la0 rfl ?_
  refine R_n 0 rfl rfl ?_
  refine G_put0 rfl (o := 1) c36 (by decide) rfl (congrFun e5 2) ?_
  refine R_la0 rfl ?_
  refine R_n 2 rfl rfl ?_
  refine G_anew (n := 2) rfl hN11 (by decide) (by decide) z17 ?_
  have c40 : (((((((((((([(10, L), (4, 6)] ++ [(2, 2)]) ++ SL) ++ [(13, 4)]) ++ [(2, 2)]) ++ SL) ++ [(2, 2)]) ++ SL) ++ [(2, 2)]) ++ SL) ++ [(2, 2)]) ++ SL) ++ [(13, 2)])[1]? = some (4, 6) := gA c36
  have c41 : (((((((((((([(10, L), (4, 6)] ++ [(2, 2)]) ++ SL) ++ [(13, 4)]) ++ [(2, 2)]) ++ SL) ++ [(2, 2)]) ++ SL) ++ [(2, 2)]) ++ SL) ++ [(2, 2)]) ++ SL) ++ [(13, 2)])[22]? = some (13, 4) := gA c37
  have c42 : (((((((((((([(10, L), (4, 6)] ++ [(2, 2)]) ++ SL) ++ [(13, 4)]) ++ [(2, 2)]) ++ SL) ++ [(2, 2)]) ++ SL) ++ [(2, 2)]) ++ SL) ++ [(2, 2)]) ++ SL) ++ [(13, 2)])[83]? = some (2, 2) := gA c39
  have c43 : (((((((((((([(10, L), (4, 6)] ++ [(2, 2)]) ++ SL) ++ [(13, 4)]) ++ [(2, 2)]) ++ SL) ++ [(2, 2)]) ++ SL) ++ [(2, 2)]) ++ SL) ++ [(2, 2)]) ++ SL) ++ [(13, 2)])[103]? = some (13, 2) := gN hN11 (13, 2) []
  have hN12 : (((((((((((([(10, L), (4, 6)] ++ [(2, 2)]) ++ SL) ++ [(13, 4)]) ++ [(2, 2)]) ++ SL) ++ [(2, 2)]) ++ SL) ++ [(2, 2)]) ++ SL) ++ [(2, 2)]) ++ SL) ++ [(13, 2)]).length = 104 := gL hN11 [(13, 2)]
  have z18 : Zr 104 (rM (rM (rM (rM (rM ρ (3 + 10)) (24 + 10)) (44 + 10)) (64 + 10)) (84 + 10)) (q2 (rfS (q2 (rfS (q2 (rfS (q2 (rfS (q2 (q2 (rfS rf0 2 3) 1 0 (some 2)) 1 1 (some 22)) 23 24) 22 (0) (some 23)) 43 44) 22 (0 + 1) (some 43)) 63 64) 22 (0 + 1 + 1) (some 63)) 83 84) 22 (0 + 1 + 1 + 1) (some 83)) := z17.s 1
  refine G_putR rfl rfl (o := 1) c40 (by decide) rfl ?_
  have z19 : Zr 104 (rM (rM (rM (rM (rM ρ (3 + 10)) (24 + 10)) (44 + 10)) (64 + 10)) (84 + 10)) (q2 (q2 (rfS (q2 (rfS (q2 (rfS (q2 (rfS (q2 (q2 (rfS rf0 2 3) 1 0 (some 2)) 1 1 (some 22)) 23 24) 22 (0) (some 23)) 43 44) 22 (0 + 1) (some 43)) 63 64) 22 (0 + 1 + 1) (some 63)) 83 84) 22 (0 + 1 + 1 + 1) (some 83)) 1 3 (some 103)) := z18.q (o := 1) (by decide) 3 (some 103)
  refine R_n 0 rfl rfl ?_
  refine R_st1 rfl ?_
  refine R_ld1 rfl ?_
  refine R_n 2 rfl rfl ?_
  refine N2_geF rfl (by decide) (by decide) (by decide) ?_
  refine R_la0 rfl ?_
  refine G_getR (v := 103) rfl (o := 1) c40 (by decide) rfl (by decide +kernel) ?_
  refine R_ld1 rfl ?_
  refine G_new rfl hN12 ⟨by decide, by decide⟩ z19 rfl ?_
  have c44 : ((((((((((((([(10, L), (4, 6)] ++ [(2, 2)]) ++ SL) ++ [(13, 4)]) ++ [(2, 2)]) ++ SL) ++ [(2, 2)]) ++ SL) ++ [(2, 2)]) ++ SL) ++ [(2, 2)]) ++ SL) ++ [(13, 2)]) ++ [(2, 2)])[1]? = some (4, 6) := gA c40
  have c45 : ((((((((((((([(10, L), (4, 6)] ++ [(2, 2)]) ++ SL) ++ [(13, 4)]) ++ [(2, 2)]) ++ SL) ++ [(2, 2)]) ++ SL) ++ [(2, 2)]) ++ SL) ++ [(2, 2)]) ++ SL) ++ [(13, 2)]) ++ [(2, 2)])[22]? = some (13, 4) := gA c41
  have c46 : ((((((((((((([(10, L), (4, 6)] ++ [(2, 2)]) ++ SL) ++ [(13, 4)]) ++ [(2, 2)]) ++ SL) ++ [(2, 2)]) ++ SL) ++ [(2, 2)]) ++ SL) ++ [(2, 2)]) ++ SL) ++ [(13, 2)]) ++ [(2, 2)])[83]? = some (2, 2) := gA c42
  have c47 : ((((((((((((([(10, L), (4, 6)] ++ [(2, 2)]) ++ SL) ++ [(13, 4)]) ++ [(2, 2)]) ++ SL) ++ [(2, 2)]) ++ SL) ++ [(2, 2)]) ++ SL) ++ [(2, 2)]) ++ SL) ++ [(13, 2)]) ++ [(2, 2)])[103]? = some (13, 2) := gA c43
  have c48 : ((((((((((((([(10, L), (4, 6)] ++ [(2, 2)]) ++ SL) ++ [(13, 4)]) ++ [(2, 2)]) ++ SL) ++ [(2, 2)]) ++ SL) ++ [(2, 2)]) ++ SL) ++ [(2, 2)]) ++ SL) ++ [(13, 2)]) ++ [(2, 2)])[104]? = some (2, 2) := gN hN12 (2, 2) []
  have hN13 : ((((((((((((([(10, L), (4, 6)] ++ [(2, 2)]) ++ SL) ++ [(13, 4)]) ++ [(2, 2)]) ++ SL) ++ [(2, 2)]) ++ SL) ++ [(2, 2)]) ++ SL) ++ [(2, 2)]) ++ SL) ++ [(13, 2)]) ++ [(2, 2)]).length = 105 := gL hN12 [(2, 2)]
  have z20 : Zr 105 (rM (rM (rM (rM (rM ρ (3 + 10)) (24 + 10)) (44 + 10)) (64 + 10)) (84 + 10)) (q2 (q2 (rfS (q2 (rfS (q2 (rfS (q2 (rfS (q2 (q2 (rfS rf0 2 3) 1 0 (some 2)) 1 1 (some 22)) 23 24) 22 (0) (some 23)) 43 44) 22 (0 + 1) (some 43)) 63 64) 22 (0 + 1 + 1) (some 63)) 83 84) 22 (0 + 1 + 1 + 1) (some 83)) 1 3 (some 103)) := z19.s 1
  refine R_dupR rfl ?_
  refine PW_call rfl (i_State (o := 104) (N := 105) c48 (by decide) hN13 z20) rfl rfl rfl rfl ?_
  have c49 : (((((((((((((([(10, L), (4, 6)] ++ [(2, 2)]) ++ SL) ++ [(13, 4)]) ++ [(2, 2)]) ++ SL) ++ [(2, 2)]) ++ SL) ++ [(2, 2)]) ++ SL) ++ [(2, 2)]) ++ SL) ++ [(13, 2)]) ++ [(2, 2)]) ++ SL)[1]? = some (4, 6) := gA c44
  have c50 : (((((((((((((([(10, L), (4, 6)] ++ [(2, 2)]) ++ SL) ++ [(13, 4)]) ++ [(2, 2)]) ++ SL) ++ [(2, 2)]) ++ SL) ++ [(2, 2)]) ++ SL) ++ [(2, 2)]) ++ SL) ++ [(13, 2)]) ++ [(2, 2)]) ++ SL)[22]? = some (13, 4) := gA c45
  have c51 : (((((((((((((([(10, L), (4, 6)] ++ [(2, 2)]) ++ SL) ++ [(13, 4)]) ++ [(2, 2)]) ++ SL) ++ [(2, 2)]) ++ SL) ++ [(2, 2)]) ++ SL) ++ [(2, 2)]) ++ SL) ++ [(13, 2)]) ++ [(2, 2)]) ++ SL)[83]? = some (2, 2) := gA c46
  have c52 : (((((((((((((([(10, L), (4, 6)] ++ [(2, 2)]) ++ SL) ++ [(13, 4)]) ++ [(2, 2)]) ++ SL) ++ [(2, 2)]) ++ SL) ++ [(2, 2)]) ++ SL) ++ [(2, 2)]) ++ SL) ++ [(13, 2)]) ++ [(2, 2)]) ++ SL)[103]? = some (13, 2) := gA c47
  have c53 : (((((((((((((([(10, L), (4, 6)] ++ [(2, 2)]) ++ SL) ++ [(13, 4)]) ++ [(2, 2)]) ++ SL) ++ [(2, 2)]) ++ SL) ++ [(2, 2)]) ++ SL) ++ [(2, 2)]) ++ SL) ++ [(13, 2)]) ++ [(2, 2)]) ++ SL)[104]? = some (2, 2) := gA c48
  have hN14 : (((((((((((((([(10, L), (4, 6)] ++ [(2, 2)]) ++ SL) ++ [(13, 4)]) ++ [(2, 2)]) ++ SL) ++ [(2, 2)]) ++ SL) ++ [(2, 2)]) ++ SL) ++ [(2, 2)]) ++ SL) ++ [(13, 2)]) ++ [(2, 2)]) ++ SL).length = 124 := gL hN13 SL
  have z21 : Zr 124 (rM (rM (rM (rM (rM (rM ρ (3 + 10)) (24 + 10)) (44 + 10)) (64 + 10)) (84 + 10)) (105 + 10)) (rfS (q2 (q2 (rfS (q2 (rfS (q2 (rfS (q2 (rfS (q2 (q2 (rfS rf0 2 3) 1 0 (some 2)) 1 1 (some 22)) 23 24) 22 (0) (some 23)) 43 44) 22 (0 + 1) (some 43)) 63 64) 22 (0 + 1 + 1) (some 63)) 83 84) 22 (0 + 1 + 1 + 1) (some 83)) 1 3 (some 103)) 104 105) := Zr_S (o := 104) z20 (by decide)
  have e6 : (rM (rM (rM (rM (rM (rM ρ (3 + 10)) (24 + 10)) (44 + 10)) (64 + 10)) (84 + 10)) (105 + 10)) 1 = fun _ => 0 := (rM_o (by decide) (by decide)).trans e5
  refine G_aast rfl (o := 103) (v := 104) c52 ⟨by decide, by decide⟩ (by decide) c53 (by decide) ?_
  have z22 : Zr 124 (rM (rM (rM (rM (rM (rM ρ (3 + 10)) (24 + 10)) (44 + 10)) (64 + 10)) (84 + 10)) (105 + 10)) (q2 (rfS (q2 (q2 (rfS (q2 (rfS (q2 (rfS (q2 (rfS (q2 (q2 (rfS rf0 2 3) 1 0 (some 2)) 1 1 (some 22)) 23 24) 22 (0) (some 23)) 43 44) 22 (0 + 1) (some 43)) 63 64) 22 (0 + 1 + 1) (some 63)) 83 84) 22 (0 + 1 + 1 + 1) (some 83)) 1 3 (some 103)) 104 105) 103 (0) (some 104)) := z21.q (o := 103) (by decide) (0) (some 104)
  refine R_in1 rfl rfl ?_
  refine R_goto rfl ?_
  refine R_ld1 rfl ?_
  refine R_n 2 rfl rfl ?_
  refine N2_geF rfl (by decide) (by decide) (by decide) ?_
  refine R_la0 rfl ?_
  refine G_getR (v := 103) rfl (o := 1) c49 (by decide) rfl (by decide +kernel) ?_
  refine R_ld1 rfl ?_
  refine G_new rfl hN14 ⟨by decide, by decide⟩ z22 rfl ?_
  have c54 : ((((((((((((((([(10, L), (4, 6)] ++ [(2, 2)]) ++ SL) ++ [(13, 4)]) ++ [(2, 2)]) ++ SL) ++ [(2, 2)]) ++ SL) ++ [(2, 2)]) ++ SL) ++ [(2, 2)]) ++ SL) ++ [(13, 2)]) ++ [(2, 2)]) ++ SL) ++ [(2, 2)])[1]? = some (4, 6) := gA c49
  have c55 : ((((((((((((((([(10, L), (4, 6)] ++ [(2, 2)]) ++ SL) ++ [(13, 4)]) ++ [(2, 2)]) ++ SL) ++ [(2, 2)]) ++ SL) ++ [(2, 2)]) ++ SL) ++ [(2, 2)]) ++ SL) ++ [(13, 2)]) ++ [(2, 2)]) ++ SL) ++ [(2, 2)])[22]? = some (13, 4) := gA c50
  have c56 : ((((((((((((((([(10, L), (4, 6)] ++ [(2, 2)]) ++ SL) ++ [(13, 4)]) ++ [(2, 2)]) ++ SL) ++ [(2, 2)]) ++ SL) ++ [(2, 2)]) ++ SL) ++ [(2, 2)]) ++ SL) ++ [(13, 2)]) ++ [(2, 2)]) ++ SL) ++ [(2, 2)])[103]? = some (13, 2) := gA c52
  have c57 : ((((((((((((((([(10, L), (4, 6)] ++ [(2, 2)]) ++ SL) ++ [(13, 4)]) ++ [(2, 2)]) ++ SL) ++ [(2, 2)]) ++ SL) ++ [(2, 2)]) ++ SL) ++ [(2, 2)]) ++ SL) ++ [(13, 2)]) ++ [(2, 2)]) ++ SL) ++ [(2, 2)])[104]? = some (2, 2) := gA c53
  have c58 : ((((((((((((((([(10, L), (4, 6)] ++ [(2, 2)]) ++ SL) ++ [(13, 4)]) ++ [(2, 2)]) ++ SL) ++ [(2, 2)]) ++ SL) ++ [(2, 2)]) ++ SL) ++ [(2, 2)]) ++ SL) ++ [(13, 2)]) ++ [(2, 2)]) ++ SL) ++ [(2, 2)])[124]? = some (2, 2) := gN hN14 (2, 2) []
  have hN15 : ((((((((((((((([(10, L), (4, 6)] ++ [(2, 2)]) ++ SL) ++ [(13, 4)]) ++ [(2, 2)]) ++ SL) ++ [(2, 2)]) ++ SL) ++ [(2, 2)]) ++ SL) ++ [(2, 2)]) ++ SL) ++ [(13, 2)]) ++ [(2, 2)]) ++ SL) ++ [(2, 2)]).length = 125 := gL hN14 [(2, 2)]
  have z23 : Zr 125 (rM (rM (rM (rM (rM (rM ρ (3 + 10)) (24 + 10)) (44 + 10)) (64 + 10)) (84 + 10)) (105 + 10)) (q2 (rfS (q2 (q2 (rfS (q2 (rfS (q2 (rfS (q2 (rfS (q2 (q2 (rfS rf0 2 3) 1 0 (some 2)) 1 1 (some 22)) 23 24) 22 (0) (some 23)) 43 44) 22 (0 + 1) (some 43)) 63 64) 22 (0 + 1 + 1) (some 63)) 83 84) 22 (0 + 1 + 1 + 1) (some 83)) 1 3 (some 103)) 104 105) 103 (0) (some 104)) := z22.s 1
  refine R_dupR rfl ?_
  refine PW_call rfl (i_State (o := 124) (N := 125) c58 (by decide) hN15 z23) rfl rfl rfl rfl ?_
  have c59 : (((((((((((((((([(10, L), (4, 6)] ++ [(2, 2)]) ++ SL) ++ [(13, 4)]) ++ [(2, 2)]) ++ SL) ++ [(2, 2)]) ++ SL) ++ [(2, 2)]) ++ SL) ++ [(2, 2)]) ++ SL) ++ [(13, 2)]) ++ [(2, 2)]) ++ SL) ++ [(2, 2)]) ++ SL)[1]? = some (4, 6) := gA c54
  have c60 : (((((((((((((((([(10, L), (4, 6)] ++ [(2, 2)]) ++ SL) ++ [(13, 4)]) ++ [(2, 2)]) ++ SL) ++ [(2, 2)]) ++ SL) ++ [(2, 2)]) ++ SL) ++ [(2, 2)]) ++ SL) ++ [(13, 2)]) ++ [(2, 2)]) ++ SL) ++ [(2, 2)]) ++ SL)[22]? = some (13, 4) := gA c55
  have c61 : (((((((((((((((([(10, L), (4, 6)] ++ [(2, 2)]) ++ SL) ++ [(13, 4)]) ++ [(2, 2)]) ++ SL) ++ [(2, 2)]) ++ SL) ++ [(2, 2)]) ++ SL) ++ [(2, 2)]) ++ SL) ++ [(13, 2)]) ++ [(2, 2)]) ++ SL) ++ [(2, 2)]) ++ SL)[103]? = some (13, 2) := gA c56
  have c62 : (((((((((((((((([(10, L), (4, 6)] ++ [(2, 2)]) ++ SL) ++ [(13, 4)]) ++ [(2, 2)]) ++ SL) ++ [(2, 2)]) ++ SL) ++ [(2, 2)]) ++ SL) ++ [(2, 2)]) ++ SL) ++ [(13, 2)]) ++ [(2, 2)]) ++ SL) ++ [(2, 2)]) ++ SL)[104]? = some (2, 2) := gA c57
  have c63 : (((((((((((((((([(10, L), (4, 6)] ++ [(2, 2)]) ++ SL) ++ [(13, 4)]) ++ [(2, 2)]) ++ SL) ++ [(2, 2)]) ++ SL) ++ [(2, 2)]) ++ SL) ++ [(2, 2)]) ++ SL) ++ [(13, 2)]) ++ [(2, 2)]) ++ SL) ++ [(2, 2)]) ++ SL)[124]? = some (2, 2) := gA c58
  have hN16 : (((((((((((((((([(10, L), (4, 6)] ++ [(2, 2)]) ++ SL) ++ [(13, 4)]) ++ [(2, 2)]) ++ SL) ++ [(2, 2)]) ++ SL) ++ [(2, 2)]) ++ SL) ++ [(2, 2)]) ++ SL) ++ [(13, 2)]) ++ [(2, 2)]) ++ SL) ++ [(2, 2)]) ++ SL).length = 144 := gL hN15 SL
  have z24 : Zr 144 (rM (rM (rM (rM (rM (rM (rM ρ (3 + 10)) (24 + 10)) (44 + 10)) (64 + 10)) (84 + 10)) (105 + 10)) (125 + 10)) (rfS (q2 (rfS (q2 (q2 (rfS (q2 (rfS (q2 (rfS (q2 (rfS (q2 (q2 (rfS rf0 2 3) 1 0 (some 2)) 1 1 (some 22)) 23 24) 22 (0) (some 23)) 43 44) 22 (0 + 1) (some 43)) 63 64) 22 (0 + 1 + 1) (some 63)) 83 84) 22 (0 + 1 + 1 + 1) (some 83)) 1 3 (some 103)) 104 105) 103 (0) (some 104)) 124 125) := Zr_S (o := 124) z23 (by decide)
  have e7 : (rM (rM (rM (rM (rM (rM (rM ρ (3 + 10)) (24 + 10)) (44 + 10)) (64 + 10)) (84 + 10)) (105 + 10)) (125 + 10)) 1 = fun _ => 0 := (rM_o (by decide) (by decide)).trans e6
  refine G_aast rfl (o := 103) (v := 124) c61 ⟨by decide, by decide⟩ (by decide) c63 (by decide) ?_
  have z25 : Zr 144 (rM (rM (rM (rM (rM (rM (rM ρ (3 + 10)) (24 + 10)) (44 + 10)) (64 + 10)) (84 + 10)) (105 + 10)) (125 + 10)) (q2 (rfS (q2 (rfS (q2 (q2 (rfS (q2 (rfS (q2 (rfS (q2 (rfS (q2 (q2 (rfS rf0 2 3) 1 0 (some 2)) 1 1 (some 22)) 23 24) 22 (0) (some 23)) 43 44) 22 (0 + 1) (some 43)) 63 64) 22 (0 + 1 + 1) (some 63)) 83 84) 22 (0 + 1 + 1 + 1) (some 83)) 1 3 (some 103)) 104 105) 103 (0) (some 104)) 124 125) 103 (0 + 1) (some 124)) := z24.q (o := 103) (by decide) (0 + 1) (some 124)
  refine R_in1 rfl rfl ?_
  refine R_goto rfl ?_
  refine R_ld1 rfl ?_
  refine R_n 2 rfl rfl ?_
  refine N2_geT rfl (by decide) (by decide) (by decide) ?_
  refine R_la0 rfl ?_
  refine R_n 0 rfl rfl ?_
  refine G_put0 rfl (o := 1) c59 (by decide) rfl (congrFun e7 4) ?_
  refine R_la0 rfl ?_
  refine G_new rfl hN16 ⟨by decide, by decide⟩ z25 rfl ?_
  have c64 : ((((((((((((((((([(10, L), (4, 6)] ++ [(2, 2)]) ++ SL) ++ [(13, 4)]) ++ [(2, 2)]) ++ SL) ++ [(2, 2)]) ++ SL) ++ [(2, 2)]) ++ SL) ++ [(2, 2)]) ++ SL) ++ [(13, 2)]) ++ [(2, 2)]) ++ SL) ++ [(2, 2)]) ++ SL) ++ [(3, 2)])[1]? = some (4, 6) := gA c59
  have c65 : ((((((((((((((((([(10, L), (4, 6)] ++ [(2, 2)]) ++ SL) ++ [(13, 4)]) ++ [(2, 2)]) ++ SL) ++ [(2, 2)]) ++ SL) ++ [(2, 2)]) ++ SL) ++ [(2, 2)]) ++ SL) ++ [(13, 2)]) ++ [(2, 2)]) ++ SL) ++ [(2, 2)]) ++ SL) ++ [(3, 2)])[22]? = some (13, 4) := gA c60
  have c66 : ((((((((((((((((([(10, L), (4, 6)] ++ [(2, 2)]) ++ SL) ++ [(13, 4)]) ++ [(2, 2)]) ++ SL) ++ [(2, 2)]) ++ SL) ++ [(2, 2)]) ++ SL) ++ [(2, 2)]) ++ SL) ++ [(13, 2)]) ++ [(2, 2)]) ++ SL) ++ [(2, 2)]) ++ SL) ++ [(3, 2)])[103]? = some (13, 2) := gA c61
  have c67 : ((((((((((((((((([(10, L), (4, 6)] ++ [(2, 2)]) ++ SL) ++ [(13, 4)]) ++ [(2, 2)]) ++ SL) ++ [(2, 2)]) ++ SL) ++ [(2, 2)]) ++ SL) ++ [(2, 2)]) ++ SL) ++ [(13, 2)]) ++ [(2, 2)]) ++ SL) ++ [(2, 2)]) ++ SL) ++ [(3, 2)])[124]? = some (2, 2) := gA c63
  have c68 : ((((((((((((((((([(10, L), (4, 6)] ++ [(2, 2)]) ++ SL) ++ [(13, 4)]) ++ [(2, 2)]) ++ SL) ++ [(2, 2)]) ++ SL) ++ [(2, 2)]) ++ SL) ++ [(2, 2)]) ++ SL) ++ [(13, 2)]) ++ [(2, 2)]) ++ SL) ++ [(2, 2)]) ++ SL) ++ [(3, 2)])[144]? = some (3, 2) := gN hN16 (3, 2) []
  have hN17 : ((((((((((((((((([(10, L), (4, 6)] ++ [(2, 2)]) ++ SL) ++ [(13, 4)]) ++ [(2, 2)]) ++ SL) ++ [(2, 2)]) ++ SL) ++ [(2, 2)]) ++ SL) ++ [(2, 2)]) ++ SL) ++ [(13, 2)]) ++ [(2, 2)]) ++ SL) ++ [(2, 2)]) ++ SL) ++ [(3, 2)]).length = 145 := gL hN16 [(3, 2)]
  have z26 : Zr 145 (rM (rM (rM (rM (rM (rM (rM ρ (3 + 10)) (24 + 10)) (44 + 10)) (64 + 10)) (84 + 10)) (105 + 10)) (125 + 10)) (q2 (rfS (q2 (rfS (q2 (q2 (rfS (q2 (rfS (q2 (rfS (q2 (rfS (q2 (q2 (rfS rf0 2 3) 1 0 (some 2)) 1 1 (some 22)) 23 24) 22 (0) (some 23)) 43 44) 22 (0 + 1) (some 43)) 63 64) 22 (0 + 1 + 1) (some 63)) 83 84) 22 (0 + 1 + 1 + 1) (some 83)) 1 3 (some 103)) 104 105) 103 (0) (some 104)) 124 125) 103 (0 + 1) (some 124)) := z25.s 1
  refine R_dupR rfl ?_
  refine PW_call rfl (i_Text (o := 144) (N := 145) c68 (by decide) hN17 z26 (z25 144 (by decide)).1) rfl rfl rfl rfl ?_
  have c69 : (((((((((((((((((([(10, L), (4, 6)] ++ [(2, 2)]) ++ SL) ++ [(13, 4)]) ++ [(2, 2)]) ++ SL) ++ [(2, 2)]) ++ SL) ++ [(2, 2)]) ++ SL) ++ [(2, 2)]) ++ SL) ++ [(13, 2)]) ++ [(2, 2)]) ++ SL) ++ [(2, 2)]) ++ SL) ++ [(3, 2)]) ++ [(11, 80)])[1]? = some (4, 6) := gA c64
  have c70 : (((((((((((((((((([(10, L), (4, 6)] ++ [(2, 2)]) ++ SL) ++ [(13, 4)]) ++ [(2, 2)]) ++ SL) ++ [(2, 2)]) ++ SL) ++ [(2, 2)]) ++ SL) ++ [(2, 2)]) ++ SL) ++ [(13, 2)]) ++ [(2, 2)]) ++ SL) ++ [(2, 2)]) ++ SL) ++ [(3, 2)]) ++ [(11, 80)])[22]? = some (13, 4) := gA c65
  have c71 : (((((((((((((((((([(10, L), (4, 6)] ++ [(2, 2)]) ++ SL) ++ [(13, 4)]) ++ [(2, 2)]) ++ SL) ++ [(2, 2)]) ++ SL) ++ [(2, 2)]) ++ SL) ++ [(2, 2)]) ++ SL) ++ [(13, 2)]) ++ [(2, 2)]) ++ SL) ++ [(2, 2)]) ++ SL) ++ [(3, 2)]) ++ [(11, 80)])[103]? = some (13, 2) := gA c66
  have c72 : (((((((((((((((((([(10, L), (4, 6)] ++ [(2, 2)]) ++ SL) ++ [(13, 4)]) ++ [(2, 2)]) ++ SL) ++ [(2, 2)]) ++ SL) ++ [(2, 2)]) ++ SL) ++ [(2, 2)]) ++ SL) ++ [(13, 2)]) ++ [(2, 2)]) ++ SL) ++ [(2, 2)]) ++ SL) ++ [(3, 2)]) ++ [(11, 80)])[124]? = some (2, 2) := gA c67
  have c73 : (((((((((((((((((([(10, L), (4, 6)] ++ [(2, 2)]) ++ SL) ++ [(13, 4)]) ++ [(2, 2)]) ++ SL) ++ [(2, 2)]) ++ SL) ++ [(2, 2)]) ++ SL) ++ [(2, 2)]) ++ SL) ++ [(13, 2)]) ++ [(2, 2)]) ++ SL) ++ [(2, 2)]) ++ SL) ++ [(3, 2)]) ++ [(11, 80)])[144]? = some (3, 2) := gA c68
  have hN18 : (((((((((((((((((([(10, L), (4, 6)] ++ [(2, 2)]) ++ SL) ++ [(13, 4)]) ++ [(2, 2)]) ++ SL) ++ [(2, 2)]) ++ SL) ++ [(2, 2)]) ++ SL) ++ [(2, 2)]) ++ SL) ++ [(13, 2)]) ++ [(2, 2)]) ++ SL) ++ [(2, 2)]) ++ SL) ++ [(3, 2)]) ++ [(11, 80)]).length = 146 := gL hN17 [(11, 80)]
  have z27 : Zr 146 (rM (rM (rM (rM (rM (rM (rM ρ (3 + 10)) (24 + 10)) (44 + 10)) (64 + 10)) (84 + 10)) (105 + 10)) (125 + 10)) (q2 (q2 (rfS (q2 (rfS (q2 (q2 (rfS (q2 (rfS (q2 (rfS (q2 (rfS (q2 (q2 (rfS rf0 2 3) 1 0 (some 2)) 1 1 (some 22)) 23 24) 22 (0) (some 23)) 43 44) 22 (0 + 1) (some 43)) 63 64) 22 (0 + 1 + 1) (some 63)) 83 84) 22 (0 + 1 + 1 + 1) (some 83)) 1 3 (some 103)) 104 105) 103 (0) (some 104)) 124 125) 103 (0 + 1) (some 124)) 144 0 (some 145)) := (z26.s 1).q (o := 144) (by decide) 0 (some 145)
  refine G_putR rfl rfl (o := 1) c69 (by decide) rfl ?_
  have z28 : Zr 146 (rM (rM (rM (rM (rM (rM (rM ρ (3 + 10)) (24 + 10)) (44 + 10)) (64 + 10)) (84 + 10)) (105 + 10)) (125 + 10)) (q2 (q2 (q2 (rfS (q2 (rfS (q2 (q2 (rfS (q2 (rfS (q2 (rfS (q2 (rfS (q2 (q2 (rfS rf0 2 3) 1 0 (some 2)) 1 1 (some 22)) 23 24) 22 (0) (some 23)) 43 44) 22 (0 + 1) (some 43)) 63 64) 22 (0 + 1 + 1) (some 63)) 83 84) 22 (0 + 1 + 1 + 1) (some 83)) 1 3 (some 103)) 104 105) 103 (0) (some 104)) 124 125) 103 (0 + 1) (some 124)) 144 0 (some 145)) 1 5 (some 144)) := z27.q (o := 1) (by decide) 5 (some 144)
  exact R_ret rfl (by unfold BL rB rfB; rfl)
 
theorem Zr_B (hz : Zr 2 ρ rf0) : Zr 146 (rB ρ) rfB := by
  have z1 : Zr 3 ρ rf0 := hz.s 1
  have z2 : Zr 22 (rM ρ (3 + 10)) (rfS rf0 2 3) := Zr_S (o := 2) z1 (by decide)
  have z3 : Zr 22 (rM ρ (3 + 10)) (q2 (rfS rf0 2 3) 1 0 (some 2)) := z2.q (o := 1) (by decide) 0 (some 2)
  have z4 : Zr 23 (rM ρ (3 + 10)) (q2 (rfS rf0 2 3) 1 0 (some 2)) := z3.s 1
  have z5 : Zr 23 (rM ρ (3 + 10)) (q2 (q2 (rfS rf0 2 3) 1 0 (some 2)) 1 1 (some 22)) := z4.q (o := 1) (by decide) 1 (some 22)
  have z6 : Zr 24 (rM ρ (3 + 10)) (q2 (q2 (rfS rf0 2 3) 1 0 (some 2)) 1 1 (some 22)) := z5.s 1
  have z7 : Zr 43 (rM (rM ρ (3 + 10)) (24 + 10)) (rfS (q2 (q2 (rfS rf0 2 3) 1 0 (some 2)) 1 1 (some 22)) 23 24) := Zr_S (o := 23) z6 (by decide)
  have z8 : Zr 43 (rM (rM ρ (3 + 10)) (24 + 10)) (q2 (rfS (q2 (q2 (rfS rf0 2 3) 1 0 (some 2)) 1 1 (some 22)) 23 24) 22 (0) (some 23)) := z7.q (o := 22) (by decide) (0) (some 23)
  have z9 : Zr 44 (rM (rM ρ (3 + 10)) (24 + 10)) (q2 (rfS (q2 (q2 (rfS rf0 2 3) 1 0 (some 2)) 1 1 (some 22)) 23 24) 22 (0) (some 23)) := z8.s 1
  have z10 : Zr 63 (rM (rM (rM ρ (3 + 10)) (24 + 10)) (44 + 10)) (rfS (q2 (rfS (q2 (q2 (rfS rf0 2 3) 1 0 (some 2)) 1 1 (some 22)) 23 24) 22 (0) (some 23)) 43 44) := Zr_S (o := 43) z9 (by decide)
  have z11 : Zr 63 (rM (rM (rM ρ (3 + 10)) (24 + 10)) (44 + 10)) (q2 (rfS (q2 (rfS (q2 (q2 (rfS rf0 2 3) 1 0 (some 2)) 1 1 (some 22)) 23 24) 22 (0) (some 23)) 43 44) 22 (0 + 1) (some 43)) := z10.q (o := 22) (by decide) (0 + 1) (some 43)
  have z12 : Zr 64 (rM (rM (rM ρ (3 + 10)) (24 + 10)) (44 + 10)) (q2 (rfS (q2 (rfS (q2 (q2 (rfS rf0 2 3) 1 0 (some 2)) 1 1 (some 22)) 23 24) 22 (0) (some 23)) 43 44) 22 (0 + 1) (some 43)) := z11.s 1
  have z13 : Zr 83 (rM (rM (rM (rM ρ (3 + 10)) (24 + 10)) (44 + 10)) (64 + 10)) (rfS (q2 (rfS (q2 (rfS (q2 (q2 (rfS rf0 2 3) 1 0 (some 2)) 1 1 (some 22)) 23 24) 22 (0) (some 23)) 43 44) 22 (0 + 1) (some 43)) 63 64) := Zr_S (o := 63) z12 (by decide)
  have z14 : Zr 83 (rM (rM (rM (rM ρ (3 + 10)) (24 + 10)) (44 + 10)) (64 + 10)) (q2 (rfS (q2 (rfS (q2 (rfS (q2 (q2 (rfS rf0 2 3) 1 0 (some 2)) 1 1 (some 22)) 23 24) 22 (0) (some 23)) 43 44) 22 (0 + 1) (some 43)) 63 64) 22 (0 + 1 + 1) (some 63)) := z13.q (o := 22) (by decide) (0 + 1 + 1) (some 63)
  have z15 : Zr 84 (rM (rM (rM (rM ρ (3 + 10)) (24 + 10)) (44 + 10)) (64 + 10)) (q2 (rfS (q2 (rfS (q2 (rfS (q2 (q2 (rfS rf0 2 3) 1 0 (some 2)) 1 1 (some 22)) 23 24) 22 (0) (some 23)) 43 44) 22 (0 + 1) (some 43)) 63 64) 22 (0 + 1 + 1) (some 63)) := z14.s 1
  have z16 : Zr 103 (rM (rM (rM (rM (rM ρ (3 + 10)) (24 + 10)) (44 + 10)) (64 + 10)) (84 + 10)) (rfS (q2 (rfS (q2 (rfS (q2 (rfS (q2 (q2 (rfS rf0 2 3) 1 0 (some 2)) 1 1 (some 22)) 23 24) 22 (0) (some 23)) 43 44) 22 (0 + 1) (some 43)) 63 64) 22 (0 + 1 + 1) (some 63)) 83 84) := Zr_S (o := 83) z15 (by decide)
  have z17 : Zr 103 (rM (rM (rM (rM (rM ρ (3 + 10)) (24 + 10)) (44 + 10)) (64 + 10)) (84 + 10)) (q2 (rfS (q2 (rfS (q2 (rfS (q2 (rfS (q2 (q2 (rfS rf0 2 3) 1 0 (some 2)) 1 1 (some 22)) 23 24) 22 (0) (some 23)) 43 44) 22 (0 + 1) (some 43)) 63 64) 22 (0 + 1 + 1) (some 63)) 83 84) 22 (0 + 1 + 1 + 1) (some 83)) := z16.q (o := 22) (by decide) (0 + 1 + 1 + 1) (some 83)
  have z18 : Zr 104 (rM (rM (rM (rM (rM ρ (3 + 10)) (24 + 10)) (44 + 10)) (64 + 10)) (84 + 10)) (q2 (rfS (q2 (rfS (q2 (rfS (q2 (rfS (q2 (q2 (rfS rf0 2 3) 1 0 (some 2)) 1 1 (some 22)) 23 24) 22 (0) (some 23)) 43 44) 22 (0 + 1) (some 43)) 63 64) 22 (0 + 1 + 1) (some 63)) 83 84) 22 (0 + 1 + 1 + 1) (some 83)) := z17.s 1
  have z19 : Zr 104 (rM (rM (rM (rM (rM ρ (3 + 10)) (24 + 10)) (44 + 10)) (64 + 10)) (84 + 10)) (q2 (q2 (rfS (q2 (rfS (q2 (rfS (q2 (rfS (q2 (q2 (rfS rf0 2 3) 1 0 (some 2)) 1 1 (some 22)) 23 24) 22 (0) (some 23)) 43 44) 22 (0 + 1) (some 43)) 63 64) 22 (0 + 1 + 1) (some 63)) 83 84) 22 (0 + 1 + 1 + 1) (some 83)) 1 3 (some 103)) := z18.q (o := 1) (by decide) 3 (some 103)
  have z20 : Zr 105 (rM (rM (rM (rM (rM ρ (3 + 10)) (24 + 10)) (44 + 10)) (64 + 10)) (84 + 10)) (q2 (q2 (rfS (q2 (rfS (q2 (rfS (q2 (rfS (q2 (q2 (rfS rf0 2 3) 1 0 (some 2)) 1 1 (some 22)) 23 24) 22 (0) (some 23)) 43 44) 22 (0 + 1) (some 43)) 63 64) 22 (0 + 1 + 1) (some 63)) 83 84) 22 (0 + 1 + 1 + 1) (some 83)) 1 3 (some 103)) := z19.s 1
  have z21 : Zr 124 (rM (rM (rM (rM (rM (rM ρ (3 + 10)) (24 + 10)) (44 + 10)) (64 + 10)) (84 + 10)) (105 + 10)) (rfS (q2 (q2 (rfS (q2 (rfS (q2 (rfS (q2 (rfS (q2 (q2 (rfS rf0 2 3) 1 0 (some 2)) 1 1 (some 22)) 23 24) 22 (0) (some 23)) 43 44) 22 (0 + 1) (some 43)) 63 64) 22 (0 + 1 + 1) (some 63)) 83 84) 22 (0 + 1 + 1 + 1) (some 83)) 1 3 (some 103)) 104 105) := Zr_S (o := 104) z20 (by decide)
  have z22 : Zr 124 (rM (rM (rM (rM (rM (rM ρ (3 + 10)) (24 + 10)) (44 + 10)) (64 + 10)) (84 + 10)) (105 + 10)) (q2 (rfS (q2 (q2 (rfS (q2 (rfS (q2 (rfS (q2 (rfS (q2 (q2 (rfS rf0 2 3) 1 0 (some 2)) 1 1 (some 22)) 23 24) 22 (0) (some 23)) 43 44) 22 (0 + 1) (some 43)) 63 64) 22 (0 + 1 + 1) (some 63)) 83 84) 22 (0 + 1 + 1 + 1) (some 83)) 1 3 (some 103)) 104 105) 103 (0) (some 104)) := z21.q (o := 103) (by decide) (0) (some 104)
  have z23 : Zr 125 (rM (rM (rM (rM (rM (rM ρ (3 + 10)) (24 + 10)) (44 + 10)) (64 + 10)) (84 + 10)) (105 + 10)) (q2 (rfS (q2 (q2 (rfS (q2 (rfS (q2 (rfS (q2 (rfS (q2 (q2 (rfS rf0 2 3) 1 0 (some 2)) 1 1 (some 22)) 23 24) 22 (0) (some 23)) 43 44) 22 (0 + 1) (some 43)) 63 64) 22 (0 + 1 + 1) (some 63)) 83 84) 22 (0 + 1 + 1 + 1) (some 83)) 1 3 (some 103)) 104 105) 103 (0) (some 104)) := z22.s 1
  have z24 : Zr 144 (rM (rM (rM (rM (rM (rM (rM ρ (3 + 10)) (24 + 10)) (44 + 10)) (64 + 10)) (84 + 10)) (105 + 10)) (125 + 10)) (rfS (q2 (rfS (q2 (q2 (rfS (q2 (rfS (q2 (rfS (q2 (rfS (q2 (q2 (rfS rf0 2 3) 1 0 (some 2)) 1 1 (some 22)) 23 24) 22 (0) (some 23)) 43 44) 22 (0 + 1) (some 43)) 63 64) 22 (0 + 1 + 1) (some 63)) 83 84) 22 (0 + 1 + 1 + 1) (some 83)) 1 3 (some 103)) 104 105) 103 (0) (some 104)) 124 125) := Zr_S (o := 124) z23 (by decide)
  have z25 : Zr 144 (rM (rM (rM (rM (rM (rM (rM ρ (3 + 10)) (24 + 10)) (44 + 10)) (64 + 10)) (84 + 10)) (105 + 10)) (125 + 10)) (q2 (rfS (q2 (rfS (q2 (q2 (rfS (q2 (rfS (q2 (rfS (q2 (rfS (q2 (q2 (rfS rf0 2 3) 1 0 (some 2)) 1 1 (some 22)) 23 24) 22 (0) (some 23)) 43 44) 22 (0 + 1) (some 43)) 63 64) 22 (0 + 1 + 1) (some 63)) 83 84) 22 (0 + 1 + 1 + 1) (some 83)) 1 3 (some 103)) 104 105) 103 (0) (some 104)) 124 125) 103 (0 + 1) (some 124)) := z24.q (o := 103) (by decide) (0 + 1) (some 124)
  have z26 : Zr 145 (rM (rM (rM (rM (rM (rM (rM ρ (3 + 10)) (24 + 10)) (44 + 10)) (64 + 10)) (84 + 10)) (105 + 10)) (125 + 10)) (q2 (rfS (q2 (rfS (q2 (q2 (rfS (q2 (rfS (q2 (rfS (q2 (rfS (q2 (q2 (rfS rf0 2 3) 1 0 (some 2)) 1 1 (some 22)) 23 24) 22 (0) (some 23)) 43 44) 22 (0 + 1) (some 43)) 63 64) 22 (0 + 1 + 1) (some 63)) 83 84) 22 (0 + 1 + 1 + 1) (some 83)) 1 3 (some 103)) 104 105) 103 (0) (some 104)) 124 125) 103 (0 + 1) (some 124)) := z25.s 1
  have z27 : Zr 146 (rM (rM (rM (rM (rM (rM (rM ρ (3 + 10)) (24 + 10)) (44 + 10)) (64 + 10)) (84 + 10)) (105 + 10)) (125 + 10)) (q2 (q2 (rfS (q2 (rfS (q2 (q2 (rfS (q2 (rfS (q2 (rfS (q2 (rfS (q2 (q2 (rfS rf0 2 3) 1 0 (some 2)) 1 1 (some 22)) 23 24) 22 (0) (some 23)) 43 44) 22 (0 + 1) (some 43)) 63 64) 22 (0 + 1 + 1) (some 63)) 83 84) 22 (0 + 1 + 1 + 1) (some 83)) 1 3 (some 103)) 104 105) 103 (0) (some 104)) 124 125) 103 (0 + 1) (some 124)) 144 0 (some 145)) := (z26.s 1).q (o := 144) (by decide) 0 (some 145)
  have z28 : Zr 146 (rM (rM (rM (rM (rM (rM (rM ρ (3 + 10)) (24 + 10)) (44 + 10)) (64 + 10)) (84 + 10)) (105 + 10)) (125 + 10)) (q2 (q2 (q2 (rfS (q2 (rfS (q2 (q2 (rfS (q2 (rfS (q2 (rfS (q2 (rfS (q2 (q2 (rfS rf0 2 3) 1 0 (some 2)) 1 1 (some 22)) 23 24) 22 (0) (some 23)) 43 44) 22 (0 + 1) (some 43)) 63 64) 22 (0 + 1 + 1) (some 63)) 83 84) 22 (0 + 1 + 1 + 1) (some 83)) 1 3 (some 103)) 104 105) 103 (0) (some 104)) 124 125) 103 (0 + 1) (some 124)) 144 0 (some 145)) 1 5 (some 144)) := z27.q (o := 1) (by decide) 5 (some 144)
  exact z28
def rfD (rf : pF) : pF := (q2 (q2 (q2 (q2 (q2 (q2 rf 146 0 (some 147)) 146 1 (some 148)) 146 3 (some 149)) 146 4 (some 150)) 146 5 (some 151)) 146 11 (some 152))
def k1 (j : Nat) : Nat → Int32 := fun s => if 3 ≤ s ∧ s < 3 + j then -1 else 0
def k2 (j : Nat) : Nat → Int32 := fun s => if 3 ≤ s ∧ s < 9 ∨ 9 ≤ s ∧ s < 9 + 13 * j ∧ ((s - 9) % 13 = 6 ∨ (s - 9) % 13 = 7) then -1 else 0
theorem k1_0 : k1 0 = fun _ => 0 := by
  funext s
  exact if_neg (by omega)
theorem k1_s (j : Nat) : upd (k1 j) (3 + j) (-1) = k1 (j + 1) := by
  funext s
  unfold k1
  by_cases e : s = 3 + j
  · rw [e, up_eq, if_pos (by omega)]
  · rw [up_ne e]
    by_cases q : 3 ≤ s ∧ s < 3 + j
    · rw [if_pos q, if_pos (by omega)]
    · rw [if_neg q, if_neg (by omega)]
theorem k2_0 : k2 0 = k1 6 := by
  funext s
  unfold k1 k2
  by_cases q : 3 ≤ s ∧ s < 3 + 6
  · rw [if_pos q, if_pos (by omega)]
  · rw [if_neg q, if_neg (by omega)]
theorem k2_s (j : Nat) : upd (upd (k2 j) (9 + 13 * j + 6) (-1)) (9 + 13 * j + 7) (-1) = k2 (j + 1) := by
  funext s
  unfold k2
  by_cases e : s = 9 + 13 * j + 7
  · rw [e, up_eq, if_pos (by omega)]
  · rw [up_ne e]
    by_cases e2 : s = 9 + 13 * j + 6
    · rw [e2, up_eq, if_pos (by omega)]
    · rw [up_ne e2]
      by_cases q : 3 ≤ s ∧ s < 9 ∨ 9 ≤ s ∧ s < 9 + 13 * j ∧ ((s - 9) % 13 = 6 ∨ (s - 9) % 13 = 7)
      · rw [if_pos q, if_pos (by omega)]
      · rw [if_neg q, if_neg (by omega)]
set_option maxRecDepth 8000 in
theorem i_Model (hz : Zr 147 ρ rf) (hrf : RFok (rfD rf)) : PC 94 [.ref 146] (BL L ++ [(5, 13)], ρ, rf) none (HP L (u1 ρ 147 (k2 6)) (rfD rf)) := by
  have hB := down (n := 6) (P := fun j => PW p_c_X5_init 42 [some (.ref 146), some (.int (nI j))] [] (HP L (u1 ρ 147 (k2 j)) (rfD rf)) (fun zz => zz = (none, HP L (u1 ρ 147 (k2 6)) (rfD rf)))) ?_ ?_
  have hA := down (n := 6) (P := fun j => PW p_c_X5_init 28 [some (.ref 146), some (.int (nI j))] [] (HP L (u1 ρ 147 (k1 j)) (rfD rf)) (fun zz => zz = (none, HP L (u1 ρ 147 (k2 6)) (rfD rf)))) ?_ ?_
  · refine PC_of (cd := p_c_X5_init) (L0 := [some (.ref 146), none]) rfl rfl ?_
    have hN0 : (BL L ++ [(5, 13)]).length = 147 := gL BL_len [(5, 13)]
    have hl0 : (BL L ++ [(5, 13)])[146]? = some (5, 13) := gN BL_len (5, 13) []
    refine R_la0 rfl ?_
    refine G_obj rfl rfl ?_
    refine R_la0 rfl ?_
    refine R_n 263 rfl rfl ?_
    refine G_arr (n := 263) rfl hN0 (by decide) (Or.inl rfl) (by decide) hz ?_
    have hN1 : ((BL L ++ [(5, 13)]) ++ [(10, 263)]).length = 148 := gL hN0 [(10, 263)]
    have hl1 : ((BL L ++ [(5, 13)]) ++ [(10, 263)])[146]? = some (5, 13) := gA hl0
    refine G_putR rfl rfl (o := 146) hl1 (by decide) rfl ?_
    have hz1 : Zr 148 ρ (q2 rf 146 0 (some 147)) := (hz.s 1).q (o := 146) (by decide) 0 (some 147)
    refine R_la0 rfl ?_
    refine R_n 1052 rfl rfl ?_
    refine G_arr (n := 1052) rfl hN1 (by decide) (Or.inl rfl) (by decide) hz1 ?_
    have hN2 : (((BL L ++ [(5, 13)]) ++ [(10, 263)]) ++ [(10, 1052)]).length = 149 := gL hN1 [(10, 1052)]
    have hl2 : (((BL L ++ [(5, 13)]) ++ [(10, 263)]) ++ [(10, 1052)])[146]? = some (5, 13) := gA hl1
    refine G_putR rfl rfl (o := 146) hl2 (by decide) rfl ?_
    have hz2 : Zr 149 ρ (q2 (q2 rf 146 0 (some 147)) 146 1 (some 148)) := (hz1.s 1).q (o := 146) (by decide) 1 (some 148)
    refine R_la0 rfl ?_
    refine R_n 526 rfl rfl ?_
    refine G_arr (n := 526) rfl hN2 (by decide) (Or.inl rfl) (by decide) hz2 ?_
    have hN3 : ((((BL L ++ [(5, 13)]) ++ [(10, 263)]) ++ [(10, 1052)]) ++ [(10, 526)]).length = 150 := gL hN2 [(10, 526)]
    have hl3 : ((((BL L ++ [(5, 13)]) ++ [(10, 263)]) ++ [(10, 1052)]) ++ [(10, 526)])[146]? = some (5, 13) := gA hl2
    refine G_putR rfl rfl (o := 146) hl3 (by decide) rfl ?_
    have hz3 : Zr 150 ρ (q2 (q2 (q2 rf 146 0 (some 147)) 146 1 (some 148)) 146 3 (some 149)) := (hz2.s 1).q (o := 146) (by decide) 3 (some 149)
    refine R_la0 rfl ?_
    refine R_n 2 rfl rfl ?_
    refine G_arr (n := 2) rfl hN3 (by decide) (Or.inr (Or.inr rfl)) (by decide) hz3 ?_
    have hN4 : (((((BL L ++ [(5, 13)]) ++ [(10, 263)]) ++ [(10, 1052)]) ++ [(10, 526)]) ++ [(12, 2)]).length = 151 := gL hN3 [(12, 2)]
    have hl4 : (((((BL L ++ [(5, 13)]) ++ [(10, 263)]) ++ [(10, 1052)]) ++ [(10, 526)]) ++ [(12, 2)])[146]? = some (5, 13) := gA hl3
    refine G_putR rfl rfl (o := 146) hl4 (by decide) rfl ?_
    have hz4 : Zr 151 ρ (q2 (q2 (q2 (q2 rf 146 0 (some 147)) 146 1 (some 148)) 146 3 (some 149)) 146 4 (some 150)) := (hz3.s 1).q (o := 146) (by decide) 4 (some 150)
    refine R_la0 rfl ?_
    refine R_n 80 rfl rfl ?_
    refine G_arr (n := 80) rfl hN4 (by decide) (Or.inl rfl) (by decide) hz4 ?_
    have hN5 : ((((((BL L ++ [(5, 13)]) ++ [(10, 263)]) ++ [(10, 1052)]) ++ [(10, 526)]) ++ [(12, 2)]) ++ [(10, 80)]).length = 152 := gL hN4 [(10, 80)]
    have hl5 : ((((((BL L ++ [(5, 13)]) ++ [(10, 263)]) ++ [(10, 1052)]) ++ [(10, 526)]) ++ [(12, 2)]) ++ [(10, 80)])[146]? = some (5, 13) := gA hl4
    refine G_putR rfl rfl (o := 146) hl5 (by decide) rfl ?_
    have hz5 : Zr 152 ρ (q2 (q2 (q2 (q2 (q2 rf 146 0 (some 147)) 146 1 (some 148)) 146 3 (some 149)) 146 4 (some 150)) 146 5 (some 151)) := (hz4.s 1).q (o := 146) (by decide) 5 (some 151)
    refine R_la0 rfl ?_
    refine R_n 6 rfl rfl ?_
    refine G_arr (n := 6) rfl hN5 (by decide) (Or.inl rfl) (by decide) hz5 ?_
    have hN6 : (((((((BL L ++ [(5, 13)]) ++ [(10, 263)]) ++ [(10, 1052)]) ++ [(10, 526)]) ++ [(12, 2)]) ++ [(10, 80)]) ++ [(10, 6)]).length = 153 := gL hN5 [(10, 6)]
    have hl6 : (((((((BL L ++ [(5, 13)]) ++ [(10, 263)]) ++ [(10, 1052)]) ++ [(10, 526)]) ++ [(12, 2)]) ++ [(10, 80)]) ++ [(10, 6)])[146]? = some (5, 13) := gA hl5
    refine G_putR rfl rfl (o := 146) hl6 (by decide) rfl ?_
    have hz6 : Zr 153 ρ (q2 (q2 (q2 (q2 (q2 (q2 rf 146 0 (some 147)) 146 1 (some 148)) 146 3 (some 149)) 146 4 (some 150)) 146 5 (some 151)) 146 11 (some 152)) := (hz5.s 1).q (o := 146) (by decide) 11 (some 152)
    have eSH : SH L = (((((((BL L ++ [(5, 13)]) ++ [(10, 263)]) ++ [(10, 1052)]) ++ [(10, 526)]) ++ [(12, 2)]) ++ [(10, 80)]) ++ [(10, 6)]) := by simp [SH, BL, SL]
    refine PW_h (show ((SH L, ρ, rfD rf) : pH) = ((((((((BL L ++ [(5, 13)]) ++ [(10, 263)]) ++ [(10, 1052)]) ++ [(10, 526)]) ++ [(12, 2)]) ++ [(10, 80)]) ++ [(10, 6)]), ρ, (q2 (q2 (q2 (q2 (q2 (q2 rf 146 0 (some 147)) 146 1 (some 148)) 146 3 (some 149)) 146 4 (some 150)) 146 5 (some 151)) 146 11 (some 152))) by rw [eSH]; rfl) ?_
    refine R_n 0 rfl rfl ?_
    refine R_st1 rfl ?_
    have e0 : u1 ρ 147 (k1 0) = ρ := by rw [k1_0, ← (hz 147 (by decide)).1, u1_id]
    exact PW_eq e0 (hA 0 (Nat.zero_le _))
  · refine R_ld1 rfl ?_
    refine R_n 6 rfl rfl ?_
    refine N2_geT rfl (by omega) (by omega) (by omega) ?_
    refine R_n 0 rfl rfl ?_
    refine R_st1 rfl ?_
    rw [← k2_0]
    exact hB 0 (Nat.zero_le _)
  · intro j hj hnext
    refine R_ld1 rfl ?_
    refine R_n 6 rfl rfl ?_
    refine N2_geF rfl (by omega) (by omega) (hj) ?_
    refine R_la0 rfl ?_
    refine R_getR rfl sh_146 rfl (rf_146_0 hrf) ?_
    refine R_n 3 rfl rfl ?_
    refine R_ld1 rfl ?_
    refine R_addN rfl ?_
    refine R_i rfl ?_
    refine R_ast rfl sh_147 (by decide) (by omega) ?_
    refine R_in1 rfl rfl ?_
    refine R_goto rfl ?_
    exact PW_eq (by rw [u2_u1, k1_s]) hnext
  · refine R_ld1 rfl ?_
    refine R_n 6 rfl rfl ?_
    refine N2_geT rfl (by omega) (by omega) (by omega) ?_
    exact R_ret rfl (rfl)
  · intro j hj hnext
    refine R_ld1 rfl ?_
    refine R_n 6 rfl rfl ?_
    refine N2_geF rfl (by omega) (by omega) (hj) ?_
    refine R_la0 rfl ?_
    refine R_ld1 rfl ?_
    refine R_n 6 rfl rfl ?_
    refine R_i rfl ?_
    refine R_c1 rfl (x_put hrf hj (by decide) _) rfl rfl rfl sh_146 rfl rfl ?_
    refine R_la0 rfl ?_
    refine R_ld1 rfl ?_
    refine R_n 7 rfl rfl ?_
    refine R_i rfl ?_
    refine R_c1 rfl (x_put hrf hj (by decide) _) rfl rfl rfl sh_146 rfl rfl ?_
    refine R_in1 rfl rfl ?_
    refine R_goto rfl ?_
    exact PW_eq (by rw [u2_u1, u2_u1, k2_s]) hnext
theorem RF_D : RFok (rfD rfB) := by
  unfold RFok
  decide +kernel
theorem rB_0 {k : Nat} (h : k ∉ [16,17,37,38,57,58,77,78,97,98,118,119,138,139]) : rB ρ k = ρ k := by
  simp only [List.mem_cons, List.not_mem_nil, or_false, not_or] at h
  unfold rB
  rw [rM_o (by omega) (by omega), rM_o (by omega) (by omega), rM_o (by omega) (by omega), rM_o (by omega) (by omega), rM_o (by omega) (by omega), rM_o (by omega) (by omega), rM_o (by omega) (by omega)]
theorem rB_16 : rB ρ 16 = mj 6 := by
  unfold rB
  rw [rM_o (by decide) (by decide), rM_o (by decide) (by decide), rM_o (by decide) (by decide), rM_o (by decide) (by decide), rM_o (by decide) (by decide), rM_o (by decide) (by decide)]
  unfold rM
  rw [u1_ne (by decide), u1_at]
theorem rB_17 : rB ρ 17 = mj 6 := by
  unfold rB
  rw [rM_o (by decide) (by decide), rM_o (by decide) (by decide), rM_o (by decide) (by decide), rM_o (by decide) (by decide), rM_o (by decide) (by decide), rM_o (by decide) (by decide)]
  unfold rM
  rw [u1_at]
def r0 (xs : Nat → Int32) : pR := fun k j => if k = 0 then xs j else 0
theorem r0_z {xs : Nat → Int32} {k : Nat} (h : k ≠ 0) : r0 xs k = fun _ => 0 := by
  funext j
  exact if_neg h
theorem Zr_0 (xs : Nat → Int32) : Zr 1 (r0 xs) rf0 := fun k hk => ⟨r0_z (by omega), rfl⟩
/-- the cells at the start -/
def rS (xs : Nat → Int32) : pR := u1 (rB (r0 xs)) 147 (k2 6)
theorem rS_z {xs : Nat → Int32} {k : Nat} (h0 : k ≠ 0) (h1 : k ≠ 147) (h : k ∉ [16,17,37,38,57,58,77,78,97,98,118,119,138,139]) : rS xs k = fun _ => 0 := by
  unfold rS
  rw [u1_ne h1, rB_0 h, r0_z h0]
theorem k2_z {s : Nat} (h : ¬ (3 ≤ s ∧ s < 9 ∨ 9 ≤ s ∧ s < 9 + 13 * 6 ∧ ((s - 9) % 13 = 6 ∨ (s - 9) % 13 = 7))) : k2 6 s = 0 := if_neg h
theorem k2_m {s : Nat} (h : 3 ≤ s ∧ s < 9 ∨ 9 ≤ s ∧ s < 9 + 13 * 6 ∧ ((s - 9) % 13 = 6 ∨ (s - 9) % 13 = 7)) : k2 6 s = -1 := if_pos h
theorem mj_m {m : Nat} (h : m < 6) : mj 6 m = -1 := if_pos h
theorem rS_v {xs : Nat → Int32} {k : Nat} (h0 : k ≠ 0) (h1 : k ≠ 147) (h : k ∉ [16,17,37,38,57,58,77,78,97,98,118,119,138,139]) (j : Nat) : rS xs k j = 0 := congrFun (rS_z h0 h1 h) j
theorem Rel_0 (xs : Nat → Int32) : Rel (rS xs) (k2 6) 0 (fun _ => 0) := by
  have h : ∀ k, k ≠ 0 → k ≠ 147 → k ∉ [16,17,37,38,57,58,77,78,97,98,118,119,138,139] → ∀ j, rS xs k j = 0 := fun k a b c j => rS_v a b c j
  have h16 : ∀ m, m < 6 → rS xs 16 m = -1 := fun m hm => by
    unfold rS
    rw [u1_ne (by decide), rB_16]
    exact mj_m hm
  have h17 : ∀ m, m < 6 → rS xs 17 m = -1 := fun m hm => by
    unfold rS
    rw [u1_ne (by decide), rB_17]
    exact mj_m hm
  have b12 : ∀ i, bt (rS xs 12 0) i = false := fun i => by rw [h 12 (by decide) (by decide) (by decide)]; exact b_0 i
  refine ⟨⟨by decide, h 3 (by decide) (by decide) (by decide) 0, k2_z (by decide), (k2_z (by decide)).trans (h 3 (by decide) (by decide) (by decide) 1).symm, (k2_z (by decide)).trans (h 3 (by decide) (by decide) (by decide) 2).symm⟩, fun m hm => ?_, fun i hi => b12 i, fun i hi => absurd hi (Nat.not_lt_zero _), fun k hk => Or.inl (k2_m (by omega)), fun i _ hi => ⟨h 8 (by decide) (by decide) (by decide) i, h 9 (by decide) (by decide) (by decide) i, h 10 (by decide) (by decide) (by decide) i⟩, fun i _ => by rw [h 3 (by decide) (by decide) (by decide) 3]; exact b_0 i, fun i _ => by rw [h 3 (by decide) (by decide) (by decide) 4]; exact b_0 i⟩
  refine ⟨Nat.zero_le _, h 14 (by decide) (by decide) (by decide) m, k2_z (by omega), fun j hj => (k2_z (by omega)).trans (h 13 (by decide) (by decide) (by decide) _).symm, (k2_z (by omega)).trans (by rw [b12 m]; rfl), (k2_m (by omega)).trans (h16 m hm).symm, Or.inl (h16 m hm), (k2_m (by omega)).trans (h17 m hm).symm, Or.inl (h17 m hm), (k2_z (by omega)).trans (h 21 (by decide) (by decide) (by decide) m).symm, (k2_z (by omega)).trans (h 20 (by decide) (by decide) (by decide) m).symm, (k2_z (by omega)).trans (h 19 (by decide) (by decide) (by decide) m).symm, (k2_z (by omega)).trans (h 18 (by decide) (by decide) (by decide) m).symm, (k2_z (by omega)).trans (h 15 (by decide) (by decide) (by decide) m).symm, fun q => ?_, fun j hj => ?_⟩
  · rw [b12 m] at q; cases q
  · rw [h 13 (by decide) (by decide) (by decide)]; exact ⟨0, by decide, rfl⟩
theorem FI_0 (xs : Nat → Int32) : FI xs (rS xs) (rfD rfB) := by
  have h : ∀ k, k ≠ 0 → k ≠ 147 → k ∉ [16,17,37,38,57,58,77,78,97,98,118,119,138,139] → ∀ j, rS xs k j = 0 := fun k a b c j => rS_v a b c j
  refine ⟨RF_D, ?_, ⟨0, fun _ => 0, 0, ?_, h 3 (by decide) (by decide) (by decide) 1, by decide, Nat.zero_le _⟩, ⟨fun i => 23 + 20 * i, 0, ⟨⟨by decide +kernel, fun i j _ _ hij => by show 23 + 20 * i ≠ 23 + 20 * j; omega⟩, by decide, h 1 (by decide) (by decide) (by decide) 2, h 146 (by decide) (by decide) (by decide) 2, fun i hi => absurd hi (Nat.not_lt_zero _)⟩⟩, ⟨fun i _ => by rw [h 1 (by decide) (by decide) (by decide) 4]; exact b_0 i, fun j hj => ⟨?_, fun q => ?_⟩⟩, ⟨fun _ => 0, 0, ⟨h 144 (by decide) (by decide) (by decide) 1, by decide, fun j hj => absurd hj (Nat.not_lt_zero _)⟩, fun j hj => absurd hj (Nat.not_lt_zero _), h 146 (by decide) (by decide) (by decide) 6, fun j hj => absurd hj (Nat.not_lt_zero _)⟩⟩
  · unfold rS
    rw [u1_ne (by decide), rB_0 (by decide)]
    funext j
    exact if_pos rfl
  · rw [show rS xs 147 = k2 6 from u1_at _ _ _]
    exact Rel_0 xs
  · rw [h 150 (by decide) (by decide) (by decide) j, h 1 (by decide) (by decide) (by decide) 4, b_0]; rfl
  · rw [h 1 (by decide) (by decide) (by decide) 4, b_0] at q; cases q
end
theorem law_run (L : Nat) (xs : Nat → Int32) (hL : L ≤ 2048) : PW p_c_L_law 0 [some (.ref 0), none, none, none] [] ([(10, L)], r0 xs, rf0) (fun zz => zz.1 = some (.int 1) ∧ zz.2.1 = SH L) := by
  have z1 := Zr_0 xs
  have z2 : Zr 2 (r0 xs) rf0 := z1.s 1
  have zB := Zr_B z2
  have hN1 : ([(10, L)] : List (Nat × Nat)).length = 1 := rfl
  have hN146 : (BL L).length = 146 := BL_len
  refine G_new rfl hN1 ⟨by decide, by decide⟩ z1 rfl ?_
  refine R_dupR rfl ?_
  refine PW_call rfl (i_Board (L := L) z2 (r0_z (by decide))) rfl rfl rfl rfl ?_
  refine R_sa1 rfl ?_
  refine G_new rfl hN146 ⟨by decide, by decide⟩ zB rfl ?_
  refine R_dupR rfl ?_
  refine PW_call rfl (i_Model (L := L) (zB.s 1) RF_D) rfl rfl rfl rfl ?_
  refine R_sa2 rfl ?_
  refine R_n 0 rfl rfl ?_
  refine R_st3 rfl ?_
  exact law_loop hL L 0 (rS xs) (rfD rfB) (by omega) (by decide) (FI_0 xs)
theorem p_claim_ok : p_claim := fun L xs hL => by
  obtain ⟨n, ⟨r, h'⟩, h1, h2, h3⟩ := law_run L xs hL
  refine ⟨n, h', ?_, ?_, ?_⟩
  · rw [← (show r = some (.int 1) from h2)]
    exact h1
  · rw [show h'.1 = SH L from h3]
    show (153 : Nat) ≤ 600000
    decide
  · unfold p_sl
    rw [show h'.1 = SH L from h3]
    simp only [SH, List.map_cons, List.map_nil, List.sum_cons, List.sum_nil]
    omega
