-- ===== PART A: goes FIRST, ahead of the names: the tables' words, and 'selects' of the private methods out of them =====
/-- a private method of a class that the tables say can be made, by its rows of tables_1 -/
def lw_okq (q : MethodName × Nat) : Prop := (q.1.cls ≠ "java/lang/invoke/MethodHandle" ∧ q.1.cls ≠ "java/lang/invoke/VarHandle") ∧ Cond.instantiable q.1.cls q.2 ∈ tables_1 ∧ Cond.privateMethod q.1 ∈ tables_1 ∧ Cond.instanceMethod q.1 ∈ tables_1
theorem lw_p0 : lw_okq (⟨"InterlockBoard", "remember", "()V"⟩, 6) := ⟨⟨by decide +kernel, by decide +kernel⟩, List.mem_of_getElem? (i := 11) (by decide +kernel), List.mem_of_getElem? (i := 179) (by decide +kernel), List.mem_of_getElem? (i := 180) (by decide +kernel)⟩
theorem lw_p1 : lw_okq (⟨"InterlockBoard", "forgetOldest", "()V"⟩, 6) := ⟨⟨by decide +kernel, by decide +kernel⟩, List.mem_of_getElem? (i := 11) (by decide +kernel), List.mem_of_getElem? (i := 183) (by decide +kernel), List.mem_of_getElem? (i := 184) (by decide +kernel)⟩
theorem lw_p2 : lw_okq (⟨"InterlockBoard", "isInput", "(I)Z"⟩, 6) := ⟨⟨by decide +kernel, by decide +kernel⟩, List.mem_of_getElem? (i := 11) (by decide +kernel), List.mem_of_getElem? (i := 220) (by decide +kernel), List.mem_of_getElem? (i := 221) (by decide +kernel)⟩
theorem lw_p3 : lw_okq (⟨"InterlockBoard", "lookAtMotions", "(I)I"⟩, 6) := ⟨⟨by decide +kernel, by decide +kernel⟩, List.mem_of_getElem? (i := 11) (by decide +kernel), List.mem_of_getElem? (i := 270) (by decide +kernel), List.mem_of_getElem? (i := 271) (by decide +kernel)⟩
theorem lw_p4 : lw_okq (⟨"InterlockBoard", "reasonAgainstStart", "(I)I"⟩, 6) := ⟨⟨by decide +kernel, by decide +kernel⟩, List.mem_of_getElem? (i := 11) (by decide +kernel), List.mem_of_getElem? (i := 386) (by decide +kernel), List.mem_of_getElem? (i := 387) (by decide +kernel)⟩
theorem lw_p5 : lw_okq (⟨"InterlockBoard", "isPermitted", "(I)Z"⟩, 6) := ⟨⟨by decide +kernel, by decide +kernel⟩, List.mem_of_getElem? (i := 11) (by decide +kernel), List.mem_of_getElem? (i := 390) (by decide +kernel), List.mem_of_getElem? (i := 391) (by decide +kernel)⟩
theorem lw_p6 : lw_okq (⟨"InterlockBoard", "rowOrNotFound", "(II)I"⟩, 6) := ⟨⟨by decide +kernel, by decide +kernel⟩, List.mem_of_getElem? (i := 11) (by decide +kernel), List.mem_of_getElem? (i := 415) (by decide +kernel), List.mem_of_getElem? (i := 416) (by decide +kernel)⟩
theorem lw_p7 : lw_okq (⟨"InterlockBoard", "placeOfFault", "()I"⟩, 6) := ⟨⟨by decide +kernel, by decide +kernel⟩, List.mem_of_getElem? (i := 11) (by decide +kernel), List.mem_of_getElem? (i := 506) (by decide +kernel), List.mem_of_getElem? (i := 507) (by decide +kernel)⟩
theorem lw_p8 : lw_okq (⟨"InterlockBoard", "faultOfRow", "(II)I"⟩, 6) := ⟨⟨by decide +kernel, by decide +kernel⟩, List.mem_of_getElem? (i := 11) (by decide +kernel), List.mem_of_getElem? (i := 510) (by decide +kernel), List.mem_of_getElem? (i := 511) (by decide +kernel)⟩
theorem lw_p9 : lw_okq (⟨"InterlockBoardModel", "put", "(III)V"⟩, 13) := ⟨⟨by decide +kernel, by decide +kernel⟩, List.mem_of_getElem? (i := 551) (by decide +kernel), List.mem_of_getElem? (i := 557) (by decide +kernel), List.mem_of_getElem? (i := 558) (by decide +kernel)⟩
theorem lw_p10 : lw_okq (⟨"InterlockBoardModel", "records", "()V"⟩, 13) := ⟨⟨by decide +kernel, by decide +kernel⟩, List.mem_of_getElem? (i := 551) (by decide +kernel), List.mem_of_getElem? (i := 613) (by decide +kernel), List.mem_of_getElem? (i := 614) (by decide +kernel)⟩
theorem lw_p11 : lw_okq (⟨"InterlockBoardModel", "newInput", "(IIII)I"⟩, 13) := ⟨⟨by decide +kernel, by decide +kernel⟩, List.mem_of_getElem? (i := 551) (by decide +kernel), List.mem_of_getElem? (i := 617) (by decide +kernel), List.mem_of_getElem? (i := 618) (by decide +kernel)⟩
theorem lw_p12 : lw_okq (⟨"InterlockBoardModel", "lay", "(III)V"⟩, 13) := ⟨⟨by decide +kernel, by decide +kernel⟩, List.mem_of_getElem? (i := 551) (by decide +kernel), List.mem_of_getElem? (i := 621) (by decide +kernel), List.mem_of_getElem? (i := 622) (by decide +kernel)⟩
theorem lw_p13 : lw_okq (⟨"InterlockBoardModel", "isInput", "(I)Z"⟩, 13) := ⟨⟨by decide +kernel, by decide +kernel⟩, List.mem_of_getElem? (i := 551) (by decide +kernel), List.mem_of_getElem? (i := 632) (by decide +kernel), List.mem_of_getElem? (i := 633) (by decide +kernel)⟩
theorem lw_p14 : lw_okq (⟨"InterlockBoardModel", "on", "(II)I"⟩, 13) := ⟨⟨by decide +kernel, by decide +kernel⟩, List.mem_of_getElem? (i := 551) (by decide +kernel), List.mem_of_getElem? (i := 643) (by decide +kernel), List.mem_of_getElem? (i := 644) (by decide +kernel)⟩
theorem lw_p15 : lw_okq (⟨"InterlockBoardModel", "isLock", "(I)Z"⟩, 13) := ⟨⟨by decide +kernel, by decide +kernel⟩, List.mem_of_getElem? (i := 551) (by decide +kernel), List.mem_of_getElem? (i := 651) (by decide +kernel), List.mem_of_getElem? (i := 652) (by decide +kernel)⟩
def lw_privs_1 : List (MethodName × Nat) := [(⟨"InterlockBoard", "remember", "()V"⟩, 6), (⟨"InterlockBoard", "forgetOldest", "()V"⟩, 6), (⟨"InterlockBoard", "isInput", "(I)Z"⟩, 6), (⟨"InterlockBoard", "lookAtMotions", "(I)I"⟩, 6), (⟨"InterlockBoard", "reasonAgainstStart", "(I)I"⟩, 6), (⟨"InterlockBoard", "isPermitted", "(I)Z"⟩, 6), (⟨"InterlockBoard", "rowOrNotFound", "(II)I"⟩, 6), (⟨"InterlockBoard", "placeOfFault", "()I"⟩, 6), (⟨"InterlockBoard", "faultOfRow", "(II)I"⟩, 6), (⟨"InterlockBoardModel", "put", "(III)V"⟩, 13), (⟨"InterlockBoardModel", "records", "()V"⟩, 13), (⟨"InterlockBoardModel", "newInput", "(IIII)I"⟩, 13), (⟨"InterlockBoardModel", "lay", "(III)V"⟩, 13), (⟨"InterlockBoardModel", "isInput", "(I)Z"⟩, 13), (⟨"InterlockBoardModel", "on", "(II)I"⟩, 13), (⟨"InterlockBoardModel", "isLock", "(I)Z"⟩, 13)]
theorem lw_r1 : ∀ q ∈ lw_privs_1, lw_okq q := List.forall_mem_cons.mpr ⟨lw_p0, List.forall_mem_cons.mpr ⟨lw_p1, List.forall_mem_cons.mpr ⟨lw_p2, List.forall_mem_cons.mpr ⟨lw_p3, List.forall_mem_cons.mpr ⟨lw_p4, List.forall_mem_cons.mpr ⟨lw_p5, List.forall_mem_cons.mpr ⟨lw_p6, List.forall_mem_cons.mpr ⟨lw_p7, List.forall_mem_cons.mpr ⟨lw_p8, List.forall_mem_cons.mpr ⟨lw_p9, List.forall_mem_cons.mpr ⟨lw_p10, List.forall_mem_cons.mpr ⟨lw_p11, List.forall_mem_cons.mpr ⟨lw_p12, List.forall_mem_cons.mpr ⟨lw_p13, List.forall_mem_cons.mpr ⟨lw_p14, List.forall_mem_cons.mpr ⟨lw_p15, fun _ h => absurd h List.not_mem_nil⟩⟩⟩⟩⟩⟩⟩⟩⟩⟩⟩⟩⟩⟩⟩⟩
theorem lw_p16 : lw_okq (⟨"InterlockBoardModel", "closedOnes", "()I"⟩, 13) := ⟨⟨by decide +kernel, by decide +kernel⟩, List.mem_of_getElem? (i := 551) (by decide +kernel), List.mem_of_getElem? (i := 655) (by decide +kernel), List.mem_of_getElem? (i := 656) (by decide +kernel)⟩
theorem lw_p17 : lw_okq (⟨"InterlockBoardModel", "counts", "(I)Z"⟩, 13) := ⟨⟨by decide +kernel, by decide +kernel⟩, List.mem_of_getElem? (i := 551) (by decide +kernel), List.mem_of_getElem? (i := 659) (by decide +kernel), List.mem_of_getElem? (i := 660) (by decide +kernel)⟩
theorem lw_p18 : lw_okq (⟨"InterlockBoardModel", "isClosed", "(I)Z"⟩, 13) := ⟨⟨by decide +kernel, by decide +kernel⟩, List.mem_of_getElem? (i := 551) (by decide +kernel), List.mem_of_getElem? (i := 663) (by decide +kernel), List.mem_of_getElem? (i := 664) (by decide +kernel)⟩
theorem lw_p19 : lw_okq (⟨"InterlockBoardModel", "isOverdue", "(I)Z"⟩, 13) := ⟨⟨by decide +kernel, by decide +kernel⟩, List.mem_of_getElem? (i := 551) (by decide +kernel), List.mem_of_getElem? (i := 667) (by decide +kernel), List.mem_of_getElem? (i := 668) (by decide +kernel)⟩
theorem lw_p20 : lw_okq (⟨"InterlockBoardModel", "testGoesOn", "(II)V"⟩, 13) := ⟨⟨by decide +kernel, by decide +kernel⟩, List.mem_of_getElem? (i := 551) (by decide +kernel), List.mem_of_getElem? (i := 671) (by decide +kernel), List.mem_of_getElem? (i := 672) (by decide +kernel)⟩
theorem lw_p21 : lw_okq (⟨"InterlockBoardModel", "looks", "(I)I"⟩, 13) := ⟨⟨by decide +kernel, by decide +kernel⟩, List.mem_of_getElem? (i := 551) (by decide +kernel), List.mem_of_getElem? (i := 675) (by decide +kernel), List.mem_of_getElem? (i := 676) (by decide +kernel)⟩
theorem lw_p22 : lw_okq (⟨"InterlockBoardModel", "of", "(II)I"⟩, 13) := ⟨⟨by decide +kernel, by decide +kernel⟩, List.mem_of_getElem? (i := 551) (by decide +kernel), List.mem_of_getElem? (i := 679) (by decide +kernel), List.mem_of_getElem? (i := 680) (by decide +kernel)⟩
theorem lw_p23 : lw_okq (⟨"InterlockBoardModel", "isPermitted", "(II)Z"⟩, 13) := ⟨⟨by decide +kernel, by decide +kernel⟩, List.mem_of_getElem? (i := 551) (by decide +kernel), List.mem_of_getElem? (i := 683) (by decide +kernel), List.mem_of_getElem? (i := 684) (by decide +kernel)⟩
theorem lw_p24 : lw_okq (⟨"InterlockBoardModel", "inputsOf", "(I)I"⟩, 13) := ⟨⟨by decide +kernel, by decide +kernel⟩, List.mem_of_getElem? (i := 551) (by decide +kernel), List.mem_of_getElem? (i := 687) (by decide +kernel), List.mem_of_getElem? (i := 688) (by decide +kernel)⟩
theorem lw_p25 : lw_okq (⟨"InterlockBoardModel", "adds", "(III)V"⟩, 13) := ⟨⟨by decide +kernel, by decide +kernel⟩, List.mem_of_getElem? (i := 551) (by decide +kernel), List.mem_of_getElem? (i := 694) (by decide +kernel), List.mem_of_getElem? (i := 695) (by decide +kernel)⟩
theorem lw_p26 : lw_okq (⟨"InterlockBoardModel", "keysIn", "()I"⟩, 13) := ⟨⟨by decide +kernel, by decide +kernel⟩, List.mem_of_getElem? (i := 551) (by decide +kernel), List.mem_of_getElem? (i := 709) (by decide +kernel), List.mem_of_getElem? (i := 710) (by decide +kernel)⟩
theorem lw_p27 : lw_okq (⟨"InterlockBoardModel", "bridges", "()I"⟩, 13) := ⟨⟨by decide +kernel, by decide +kernel⟩, List.mem_of_getElem? (i := 551) (by decide +kernel), List.mem_of_getElem? (i := 725) (by decide +kernel), List.mem_of_getElem? (i := 726) (by decide +kernel)⟩
theorem lw_p28 : lw_okq (⟨"InterlockBoardModel", "endAhead", "(I)I"⟩, 13) := ⟨⟨by decide +kernel, by decide +kernel⟩, List.mem_of_getElem? (i := 551) (by decide +kernel), List.mem_of_getElem? (i := 737) (by decide +kernel), List.mem_of_getElem? (i := 738) (by decide +kernel)⟩
theorem lw_p29 : lw_okq (⟨"InterlockBoardModel", "newRow", "(II)I"⟩, 13) := ⟨⟨by decide +kernel, by decide +kernel⟩, List.mem_of_getElem? (i := 551) (by decide +kernel), List.mem_of_getElem? (i := 748) (by decide +kernel), List.mem_of_getElem? (i := 749) (by decide +kernel)⟩
theorem lw_p30 : lw_okq (⟨"InterlockBoardModel", "excludes", "(III)V"⟩, 13) := ⟨⟨by decide +kernel, by decide +kernel⟩, List.mem_of_getElem? (i := 551) (by decide +kernel), List.mem_of_getElem? (i := 760) (by decide +kernel), List.mem_of_getElem? (i := 761) (by decide +kernel)⟩
theorem lw_p31 : lw_okq (⟨"InterlockBoardModel", "reasonOf", "(I)I"⟩, 13) := ⟨⟨by decide +kernel, by decide +kernel⟩, List.mem_of_getElem? (i := 551) (by decide +kernel), List.mem_of_getElem? (i := 768) (by decide +kernel), List.mem_of_getElem? (i := 769) (by decide +kernel)⟩
def lw_privs_2 : List (MethodName × Nat) := [(⟨"InterlockBoardModel", "closedOnes", "()I"⟩, 13), (⟨"InterlockBoardModel", "counts", "(I)Z"⟩, 13), (⟨"InterlockBoardModel", "isClosed", "(I)Z"⟩, 13), (⟨"InterlockBoardModel", "isOverdue", "(I)Z"⟩, 13), (⟨"InterlockBoardModel", "testGoesOn", "(II)V"⟩, 13), (⟨"InterlockBoardModel", "looks", "(I)I"⟩, 13), (⟨"InterlockBoardModel", "of", "(II)I"⟩, 13), (⟨"InterlockBoardModel", "isPermitted", "(II)Z"⟩, 13), (⟨"InterlockBoardModel", "inputsOf", "(I)I"⟩, 13), (⟨"InterlockBoardModel", "adds", "(III)V"⟩, 13), (⟨"InterlockBoardModel", "keysIn", "()I"⟩, 13), (⟨"InterlockBoardModel", "bridges", "()I"⟩, 13), (⟨"InterlockBoardModel", "endAhead", "(I)I"⟩, 13), (⟨"InterlockBoardModel", "newRow", "(II)I"⟩, 13), (⟨"InterlockBoardModel", "excludes", "(III)V"⟩, 13), (⟨"InterlockBoardModel", "reasonOf", "(I)I"⟩, 13)]
theorem lw_r2 : ∀ q ∈ lw_privs_2, lw_okq q := List.forall_mem_cons.mpr ⟨lw_p16, List.forall_mem_cons.mpr ⟨lw_p17, List.forall_mem_cons.mpr ⟨lw_p18, List.forall_mem_cons.mpr ⟨lw_p19, List.forall_mem_cons.mpr ⟨lw_p20, List.forall_mem_cons.mpr ⟨lw_p21, List.forall_mem_cons.mpr ⟨lw_p22, List.forall_mem_cons.mpr ⟨lw_p23, List.forall_mem_cons.mpr ⟨lw_p24, List.forall_mem_cons.mpr ⟨lw_p25, List.forall_mem_cons.mpr ⟨lw_p26, List.forall_mem_cons.mpr ⟨lw_p27, List.forall_mem_cons.mpr ⟨lw_p28, List.forall_mem_cons.mpr ⟨lw_p29, List.forall_mem_cons.mpr ⟨lw_p30, List.forall_mem_cons.mpr ⟨lw_p31, fun _ h => absurd h List.not_mem_nil⟩⟩⟩⟩⟩⟩⟩⟩⟩⟩⟩⟩⟩⟩⟩⟩
theorem lw_p32 : lw_okq (⟨"InterlockBoardModel", "running", "()I"⟩, 13) := ⟨⟨by decide +kernel, by decide +kernel⟩, List.mem_of_getElem? (i := 551) (by decide +kernel), List.mem_of_getElem? (i := 772) (by decide +kernel), List.mem_of_getElem? (i := 773) (by decide +kernel)⟩
theorem lw_p33 : lw_okq (⟨"InterlockBoardModel", "rowOf", "(II)I"⟩, 13) := ⟨⟨by decide +kernel, by decide +kernel⟩, List.mem_of_getElem? (i := 551) (by decide +kernel), List.mem_of_getElem? (i := 795) (by decide +kernel), List.mem_of_getElem? (i := 796) (by decide +kernel)⟩
theorem lw_p34 : lw_okq (⟨"InterlockBoardModel", "tick", "()I"⟩, 13) := ⟨⟨by decide +kernel, by decide +kernel⟩, List.mem_of_getElem? (i := 551) (by decide +kernel), List.mem_of_getElem? (i := 820) (by decide +kernel), List.mem_of_getElem? (i := 821) (by decide +kernel)⟩
theorem lw_p35 : lw_okq (⟨"InterlockBoardModel", "endsWhatIsOver", "(I)V"⟩, 13) := ⟨⟨by decide +kernel, by decide +kernel⟩, List.mem_of_getElem? (i := 551) (by decide +kernel), List.mem_of_getElem? (i := 824) (by decide +kernel), List.mem_of_getElem? (i := 825) (by decide +kernel)⟩
theorem lw_p36 : lw_okq (⟨"InterlockBoardModel", "overInputs", "(I)I"⟩, 13) := ⟨⟨by decide +kernel, by decide +kernel⟩, List.mem_of_getElem? (i := 551) (by decide +kernel), List.mem_of_getElem? (i := 832) (by decide +kernel), List.mem_of_getElem? (i := 833) (by decide +kernel)⟩
theorem lw_p37 : lw_okq (⟨"InterlockBoardModel", "overMotions", "(I)I"⟩, 13) := ⟨⟨by decide +kernel, by decide +kernel⟩, List.mem_of_getElem? (i := 551) (by decide +kernel), List.mem_of_getElem? (i := 836) (by decide +kernel), List.mem_of_getElem? (i := 837) (by decide +kernel)⟩
theorem lw_p38 : lw_okq (⟨"InterlockBoardModel", "reasonOfText", "()I"⟩, 13) := ⟨⟨by decide +kernel, by decide +kernel⟩, List.mem_of_getElem? (i := 551) (by decide +kernel), List.mem_of_getElem? (i := 861) (by decide +kernel), List.mem_of_getElem? (i := 862) (by decide +kernel)⟩
theorem lw_p39 : lw_okq (⟨"InterlockBoardModel", "reasonHere", "()I"⟩, 13) := ⟨⟨by decide +kernel, by decide +kernel⟩, List.mem_of_getElem? (i := 551) (by decide +kernel), List.mem_of_getElem? (i := 865) (by decide +kernel), List.mem_of_getElem? (i := 866) (by decide +kernel)⟩
theorem lw_p40 : lw_okq (⟨"InterlockBoardModel", "isFormed", "()Z"⟩, 13) := ⟨⟨by decide +kernel, by decide +kernel⟩, List.mem_of_getElem? (i := 551) (by decide +kernel), List.mem_of_getElem? (i := 869) (by decide +kernel), List.mem_of_getElem? (i := 870) (by decide +kernel)⟩
theorem lw_p41 : lw_okq (⟨"InterlockBoardModel", "isAt", "(II)Z"⟩, 13) := ⟨⟨by decide +kernel, by decide +kernel⟩, List.mem_of_getElem? (i := 551) (by decide +kernel), List.mem_of_getElem? (i := 873) (by decide +kernel), List.mem_of_getElem? (i := 874) (by decide +kernel)⟩
theorem lw_p42 : lw_okq (⟨"InterlockBoardModel", "takes", "(I)Z"⟩, 13) := ⟨⟨by decide +kernel, by decide +kernel⟩, List.mem_of_getElem? (i := 551) (by decide +kernel), List.mem_of_getElem? (i := 877) (by decide +kernel), List.mem_of_getElem? (i := 878) (by decide +kernel)⟩
theorem lw_p43 : lw_okq (⟨"InterlockBoardModel", "takesInput", "()Z"⟩, 13) := ⟨⟨by decide +kernel, by decide +kernel⟩, List.mem_of_getElem? (i := 551) (by decide +kernel), List.mem_of_getElem? (i := 881) (by decide +kernel), List.mem_of_getElem? (i := 882) (by decide +kernel)⟩
def lw_privs_3 : List (MethodName × Nat) := [(⟨"InterlockBoardModel", "running", "()I"⟩, 13), (⟨"InterlockBoardModel", "rowOf", "(II)I"⟩, 13), (⟨"InterlockBoardModel", "tick", "()I"⟩, 13), (⟨"InterlockBoardModel", "endsWhatIsOver", "(I)V"⟩, 13), (⟨"InterlockBoardModel", "overInputs", "(I)I"⟩, 13), (⟨"InterlockBoardModel", "overMotions", "(I)I"⟩, 13), (⟨"InterlockBoardModel", "reasonOfText", "()I"⟩, 13), (⟨"InterlockBoardModel", "reasonHere", "()I"⟩, 13), (⟨"InterlockBoardModel", "isFormed", "()Z"⟩, 13), (⟨"InterlockBoardModel", "isAt", "(II)Z"⟩, 13), (⟨"InterlockBoardModel", "takes", "(I)Z"⟩, 13), (⟨"InterlockBoardModel", "takesInput", "()Z"⟩, 13)]
theorem lw_r3 : ∀ q ∈ lw_privs_3, lw_okq q := List.forall_mem_cons.mpr ⟨lw_p32, List.forall_mem_cons.mpr ⟨lw_p33, List.forall_mem_cons.mpr ⟨lw_p34, List.forall_mem_cons.mpr ⟨lw_p35, List.forall_mem_cons.mpr ⟨lw_p36, List.forall_mem_cons.mpr ⟨lw_p37, List.forall_mem_cons.mpr ⟨lw_p38, List.forall_mem_cons.mpr ⟨lw_p39, List.forall_mem_cons.mpr ⟨lw_p40, List.forall_mem_cons.mpr ⟨lw_p41, List.forall_mem_cons.mpr ⟨lw_p42, List.forall_mem_cons.mpr ⟨lw_p43, fun _ h => absurd h List.not_mem_nil⟩⟩⟩⟩⟩⟩⟩⟩⟩⟩⟩⟩
def lw_privs : List (MethodName × Nat) := lw_privs_1 ++ (lw_privs_2 ++ (lw_privs_3))
def lw_tbl : List Cond := k2_sels lw_privs ++ tables_1
theorem lw_privs_ok : ∀ q ∈ lw_privs, lw_okq q := by
  show ∀ q ∈ lw_privs_1 ++ (lw_privs_2 ++ (lw_privs_3)), lw_okq q
  exact List.forall_mem_append.mpr ⟨lw_r1, List.forall_mem_append.mpr ⟨lw_r2, lw_r3⟩⟩
/-! ===== BEGIN words of one list among another's, by their places ===== -/
theorem goodIn_r {big : List Cond} (ws : List Cond) (ps : List Nat) (hp : ws = ps.filterMap (fun i => big[i]?)) (h : ws.all goodWord = true) : GoodIn big ws := by
  intro w hw
  have h1 := List.all_eq_true.mp h w hw
  rw [hp] at hw
  obtain ⟨i, -, hi⟩ := List.mem_filterMap.mp hw
  have hm : w ∈ big := by first | exact List.mem_of_getElem? hi | exact List.getElem?_mem hi
  exact ⟨hm, good_of_word h1⟩
theorem goodIn_app {big a b : List Cond} (ha : GoodIn big a) (hb : GoodIn big b) : GoodIn big (a ++ b) := fun w h => (List.mem_append.mp h).elim (ha w) (hb w)
theorem goodIn_ca {big a b : List Cond} {c : Cond} (ha : GoodIn big (c :: a)) (hb : GoodIn big b) : GoodIn big (c :: (a ++ b)) := fun w h => (List.mem_cons.mp h).elim (fun e => ha w (List.mem_cons.mpr (Or.inl e))) (fun h => (List.mem_append.mp h).elim (fun h => ha w (List.mem_cons.mpr (Or.inr h))) (hb w))
theorem goodIn_sub {big ws : List Cond} (hm : ∀ w ∈ ws, w ∈ big) (h : ws.all goodWord = true) : GoodIn big ws := fun w hw => ⟨hm w hw, good_of_word (List.all_eq_true.mp h w hw)⟩
/-! ===== END ===== -/

/-! ===== BEGIN printed: names, fields, word lists, decode rows ===== -/
def RX0 : String := "InterlockBoard$Inputs"
def TX0 : u_T := fun k => match k with
  | 0 => ("InterlockBoard$Inputs", "size", "I", false)
  | 1 => ("InterlockBoard$Inputs", "ticks", "I", false)
  | 2 => ("InterlockBoard$Inputs", "testsDone", "I", false)
  | 3 => ("InterlockBoard$Inputs", "closedOnes", "I", false)
  | 4 => ("InterlockBoard$Inputs", "essentialOnes", "I", false)
  | 5 => ("InterlockBoard$Inputs", "keyOf", "[I", true)
  | 6 => ("InterlockBoard$Inputs", "guard", "[I", true)
  | 7 => ("InterlockBoard$Inputs", "interval", "[I", true)
  | 8 => ("InterlockBoard$Inputs", "tested", "[I", true)
  | 9 => ("InterlockBoard$Inputs", "bridgeLeft", "[I", true)
  | 10 => ("InterlockBoard$Inputs", "bridgedTicks", "[I", true)
  | 11 => ("InterlockBoard$Inputs", "testPhase", "[I", true)
  | _ => ("InterlockBoard$Inputs", "lastTickOfTest", "[I", true)
def tyX0 : Nat → FieldType := fun k => match k with
  | 0 => .int
  | 1 => .int
  | 2 => .int
  | 3 => .int
  | 4 => .int
  | 5 => .array .int
  | 6 => .array .int
  | 7 => .array .int
  | 8 => .array .int
  | 9 => .array .int
  | 10 => .array .int
  | 11 => .array .int
  | _ => .array .int
abbrev wsX00 : List Cond := u_ws RX0 TX0 13
theorem nmX0 : ∀ a, a < 13 → ∀ b, b < 13 → a ≠ b → (TX0 a).2.1 ≠ (TX0 b).2.1 := by decide +kernel
theorem tyX0_ok : ∀ k, k < 13 → parseFieldDescriptor (TX0 k).2.2.1 = some (tyX0 k) := by decide +kernel
abbrev cX0_init : ByteArray := prog_2_method_1_code
def yX0_init : MethodName := ⟨RX0, "<init>", "()V"⟩
abbrev cX0_copyFrom : ByteArray := prog_2_method_2_code
def yX0_copyFrom : MethodName := ⟨RX0, "copyFrom", "(LInterlockBoard$Inputs;)V"⟩
abbrev cX0_add : ByteArray := prog_2_method_3_code
def yX0_add : MethodName := ⟨RX0, "add", "(III)I"⟩
abbrev cX0_all : ByteArray := prog_2_method_4_code
def yX0_all : MethodName := ⟨RX0, "all", "()I"⟩
abbrev cX0_isLock : ByteArray := prog_2_method_5_code
def yX0_isLock : MethodName := ⟨RX0, "isLock", "(I)Z"⟩
abbrev cX0_overdueOnes : ByteArray := prog_2_method_6_code
def yX0_overdueOnes : MethodName := ⟨RX0, "overdueOnes", "()I"⟩
abbrev cX0_bridgedOnes : ByteArray := prog_2_method_7_code
def yX0_bridgedOnes : MethodName := ⟨RX0, "bridgedOnes", "()I"⟩
abbrev cX0_countingAsClosed : ByteArray := prog_2_method_8_code
def yX0_countingAsClosed : MethodName := ⟨RX0, "countingAsClosed", "()I"⟩
abbrev cX0_endsFirst : ByteArray := prog_2_method_9_code
def yX0_endsFirst : MethodName := ⟨RX0, "endsFirst", "(I)I"⟩
abbrev cX0_placeOfKey : ByteArray := prog_2_method_10_code
def yX0_placeOfKey : MethodName := ⟨RX0, "placeOfKey", "(I)I"⟩
abbrev cX0_keysInLocks : ByteArray := prog_2_method_11_code
def yX0_keysInLocks : MethodName := ⟨RX0, "keysInLocks", "()I"⟩
abbrev cX0_guardAllows : ByteArray := prog_2_method_12_code
def yX0_guardAllows : MethodName := ⟨RX0, "guardAllows", "(I)Z"⟩
abbrev cX0_canBeTested : ByteArray := prog_2_method_13_code
def yX0_canBeTested : MethodName := ⟨RX0, "canBeTested", "(I)Z"⟩
abbrev cX0_beginTest : ByteArray := prog_2_method_14_code
def yX0_beginTest : MethodName := ⟨RX0, "beginTest", "(I)I"⟩
abbrev cX0_openSensor : ByteArray := prog_2_method_15_code
def yX0_openSensor : MethodName := ⟨RX0, "openSensor", "(I)V"⟩
abbrev cX0_closeSensor : ByteArray := prog_2_method_16_code
def yX0_closeSensor : MethodName := ⟨RX0, "closeSensor", "(I)V"⟩
abbrev cX0_tick : ByteArray := prog_2_method_17_code
def yX0_tick : MethodName := ⟨RX0, "tick", "()V"⟩
def RX1 : String := "InterlockBoard$Motions"
def TX1 : u_T := fun k => match k with
  | 0 => ("InterlockBoard$Motions", "running", "I", false)
  | 1 => ("InterlockBoard$Motions", "rows", "[I", true)
  | 2 => ("InterlockBoard$Motions", "rowCount", "[I", true)
  | 3 => ("InterlockBoard$Motions", "excluders", "[I", true)
  | 4 => ("InterlockBoard$Motions", "firstOut", "[I", true)
  | 5 => ("InterlockBoard$Motions", "tickOfStop", "[I", true)
  | 6 => ("InterlockBoard$Motions", "stopsByInput", "[I", true)
  | 7 => ("InterlockBoard$Motions", "starts", "[I", true)
  | 8 => ("InterlockBoard$Motions", "ticksSinceStart", "[I", true)
  | _ => ("InterlockBoard$Motions", "ticksInAll", "[I", true)
def tyX1 : Nat → FieldType := fun k => match k with
  | 0 => .int
  | 1 => .array .int
  | 2 => .array .int
  | 3 => .array .int
  | 4 => .array .int
  | 5 => .array .int
  | 6 => .array .int
  | 7 => .array .int
  | 8 => .array .int
  | _ => .array .int
abbrev wsX10 : List Cond := u_ws RX1 TX1 10
theorem nmX1 : ∀ a, a < 10 → ∀ b, b < 10 → a ≠ b → (TX1 a).2.1 ≠ (TX1 b).2.1 := by decide +kernel
theorem tyX1_ok : ∀ k, k < 10 → parseFieldDescriptor (TX1 k).2.2.1 = some (tyX1 k) := by decide +kernel
abbrev cX1_init : ByteArray := prog_3_method_1_code
def yX1_init : MethodName := ⟨RX1, "<init>", "()V"⟩
abbrev cX1_copyFrom : ByteArray := prog_3_method_2_code
def yX1_copyFrom : MethodName := ⟨RX1, "copyFrom", "(LInterlockBoard$Motions;)V"⟩
abbrev cX1_rowAt : ByteArray := prog_3_method_3_code
def yX1_rowAt : MethodName := ⟨RX1, "rowAt", "(II)I"⟩
abbrev cX1_addRow : ByteArray := prog_3_method_4_code
def yX1_addRow : MethodName := ⟨RX1, "addRow", "(II)I"⟩
abbrev cX1_inputsOf : ByteArray := prog_3_method_5_code
def yX1_inputsOf : MethodName := ⟨RX1, "inputsOf", "(I)I"⟩
abbrev cX1_inputsOfRows : ByteArray := prog_3_method_6_code
def yX1_inputsOfRows : MethodName := ⟨RX1, "inputsOfRows", "(II)I"⟩
abbrev cX1_isPermitted : ByteArray := prog_3_method_7_code
def yX1_isPermitted : MethodName := ⟨RX1, "isPermitted", "(II)Z"⟩
abbrev cX1_permittedOnes : ByteArray := prog_3_method_8_code
def yX1_permittedOnes : MethodName := ⟨RX1, "permittedOnes", "(I)I"⟩
abbrev cX1_withFirstOut : ByteArray := prog_3_method_9_code
def yX1_withFirstOut : MethodName := ⟨RX1, "withFirstOut", "()I"⟩
abbrev cX1_fewestOpen : ByteArray := prog_3_method_10_code
def yX1_fewestOpen : MethodName := ⟨RX1, "fewestOpen", "(II)I"⟩
abbrev cX1_begin : ByteArray := prog_3_method_11_code
def yX1_begin : MethodName := ⟨RX1, "begin", "(I)V"⟩
abbrev cX1_stopUnpermitted : ByteArray := prog_3_method_12_code
def yX1_stopUnpermitted : MethodName := ⟨RX1, "stopUnpermitted", "(III)I"⟩
abbrev cX1_leastOpened : ByteArray := prog_3_method_13_code
def yX1_leastOpened : MethodName := ⟨RX1, "leastOpened", "(II)I"⟩
abbrev cX1_countTick : ByteArray := prog_3_method_14_code
def yX1_countTick : MethodName := ⟨RX1, "countTick", "()V"⟩
def RX2 : String := "InterlockBoard$State"
def TX2 : u_T := fun k => match k with
  | 0 => ("InterlockBoard$State", "inputs", "LInterlockBoard$Inputs;", true)
  | _ => ("InterlockBoard$State", "motions", "LInterlockBoard$Motions;", true)
def tyX2 : Nat → FieldType := fun k => match k with
  | 0 => .object "InterlockBoard$Inputs"
  | _ => .object "InterlockBoard$Motions"
abbrev wsX20 : List Cond := u_ws RX2 TX2 2
theorem nmX2 : ∀ a, a < 2 → ∀ b, b < 2 → a ≠ b → (TX2 a).2.1 ≠ (TX2 b).2.1 := by decide +kernel
theorem tyX2_ok : ∀ k, k < 2 → parseFieldDescriptor (TX2 k).2.2.1 = some (tyX2 k) := by decide +kernel
abbrev cX2_init : ByteArray := prog_4_method_1_code
def yX2_init : MethodName := ⟨RX2, "<init>", "()V"⟩
abbrev cX2_copyFrom : ByteArray := prog_4_method_2_code
def yX2_copyFrom : MethodName := ⟨RX2, "copyFrom", "(LInterlockBoard$State;)V"⟩
def RX3 : String := "InterlockBoard$Text"
def TX3 : u_T := fun k => match k with
  | 0 => ("InterlockBoard$Text", "signs", "[C", true)
  | _ => ("InterlockBoard$Text", "length", "I", false)
def tyX3 : Nat → FieldType := fun k => match k with
  | 0 => .array .char
  | _ => .int
abbrev wsX30 : List Cond := u_ws RX3 TX3 2
theorem nmX3 : ∀ a, a < 2 → ∀ b, b < 2 → a ≠ b → (TX3 a).2.1 ≠ (TX3 b).2.1 := by decide +kernel
theorem tyX3_ok : ∀ k, k < 2 → parseFieldDescriptor (TX3 k).2.2.1 = some (tyX3 k) := by decide +kernel
abbrev cX3_init : ByteArray := prog_5_method_1_code
def yX3_init : MethodName := ⟨RX3, "<init>", "()V"⟩
abbrev cX3_endOfRow : ByteArray := prog_5_method_2_code
def yX3_endOfRow : MethodName := ⟨RX3, "endOfRow", "(I)I"⟩
abbrev cX3_isRow : ByteArray := prog_5_method_3_code
def yX3_isRow : MethodName := ⟨RX3, "isRow", "(II)Z"⟩
abbrev cX3_isDigit : ByteArray := prog_5_method_4_code
def yX3_isDigit : MethodName := ⟨RX3, "isDigit", "(C)Z"⟩
abbrev cX3_motionOfRow : ByteArray := prog_5_method_5_code
def yX3_motionOfRow : MethodName := ⟨RX3, "motionOfRow", "(I)I"⟩
abbrev cX3_highestInputOfRow : ByteArray := prog_5_method_6_code
def yX3_highestInputOfRow : MethodName := ⟨RX3, "highestInputOfRow", "(II)I"⟩
abbrev cX3_inputsOfRow : ByteArray := prog_5_method_7_code
def yX3_inputsOfRow : MethodName := ⟨RX3, "inputsOfRow", "(II)I"⟩
abbrev cX3_rowsOfMotion : ByteArray := prog_5_method_8_code
def yX3_rowsOfMotion : MethodName := ⟨RX3, "rowsOfMotion", "(II)I"⟩
def RX4 : String := "InterlockBoard"
def TX4 : u_T := fun k => match k with
  | 0 => ("InterlockBoard", "now", "LInterlockBoard$State;", true)
  | 1 => ("InterlockBoard", "history", "[LInterlockBoard$State;", true)
  | 2 => ("InterlockBoard", "historySize", "I", false)
  | 3 => ("InterlockBoard", "snapshots", "[LInterlockBoard$State;", true)
  | 4 => ("InterlockBoard", "snapshotsTaken", "I", false)
  | _ => ("InterlockBoard", "text", "LInterlockBoard$Text;", true)
def tyX4 : Nat → FieldType := fun k => match k with
  | 0 => .object "InterlockBoard$State"
  | 1 => .array (.object "InterlockBoard$State")
  | 2 => .int
  | 3 => .array (.object "InterlockBoard$State")
  | 4 => .int
  | _ => .object "InterlockBoard$Text"
abbrev wsX40 : List Cond := u_ws RX4 TX4 6
theorem nmX4 : ∀ a, a < 6 → ∀ b, b < 6 → a ≠ b → (TX4 a).2.1 ≠ (TX4 b).2.1 := by decide +kernel
theorem tyX4_ok : ∀ k, k < 6 → parseFieldDescriptor (TX4 k).2.2.1 = some (tyX4 k) := by decide +kernel
abbrev cX4_init : ByteArray := prog_1_method_1_code
def yX4_init : MethodName := ⟨RX4, "<init>", "()V"⟩
abbrev cX4_sensor : ByteArray := prog_1_method_2_code
def yX4_sensor : MethodName := ⟨RX4, "sensor", "(I)I"⟩
abbrev cX4_lock : ByteArray := prog_1_method_3_code
def yX4_lock : MethodName := ⟨RX4, "lock", "(II)I"⟩
abbrev cX4_essential : ByteArray := prog_1_method_4_code
def yX4_essential : MethodName := ⟨RX4, "essential", "(II)I"⟩
abbrev cX4_input : ByteArray := prog_1_method_5_code
def yX4_input : MethodName := ⟨RX4, "input", "(II)I"⟩
abbrev cX4_inputInfo : ByteArray := prog_1_method_6_code
def yX4_inputInfo : MethodName := ⟨RX4, "inputInfo", "(II)I"⟩
abbrev cX4_keyIn : ByteArray := prog_1_method_7_code
def yX4_keyIn : MethodName := ⟨RX4, "keyIn", "(II)I"⟩
abbrev cX4_keyOut : ByteArray := prog_1_method_8_code
def yX4_keyOut : MethodName := ⟨RX4, "keyOut", "(I)I"⟩
abbrev cX4_key : ByteArray := prog_1_method_9_code
def yX4_key : MethodName := ⟨RX4, "key", "(I)I"⟩
abbrev cX4_bridge : ByteArray := prog_1_method_10_code
def yX4_bridge : MethodName := ⟨RX4, "bridge", "(II)I"⟩
abbrev cX4_unbridge : ByteArray := prog_1_method_11_code
def yX4_unbridge : MethodName := ⟨RX4, "unbridge", "(I)I"⟩
abbrev cX4_bridged : ByteArray := prog_1_method_12_code
def yX4_bridged : MethodName := ⟨RX4, "bridged", "(I)I"⟩
abbrev cX4_row : ByteArray := prog_1_method_13_code
def yX4_row : MethodName := ⟨RX4, "row", "(II)I"⟩
abbrev cX4_dropRows : ByteArray := prog_1_method_14_code
def yX4_dropRows : MethodName := ⟨RX4, "dropRows", "(I)I"⟩
abbrev cX4_exclude : ByteArray := prog_1_method_15_code
def yX4_exclude : MethodName := ⟨RX4, "exclude", "(III)I"⟩
abbrev cX4_start : ByteArray := prog_1_method_16_code
def yX4_start : MethodName := ⟨RX4, "start", "(I)I"⟩
abbrev cX4_why : ByteArray := prog_1_method_17_code
def yX4_why : MethodName := ⟨RX4, "why", "(I)I"⟩
abbrev cX4_stop : ByteArray := prog_1_method_18_code
def yX4_stop : MethodName := ⟨RX4, "stop", "(I)I"⟩
abbrev cX4_reset : ByteArray := prog_1_method_19_code
def yX4_reset : MethodName := ⟨RX4, "reset", "(I)I"⟩
abbrev cX4_motion : ByteArray := prog_1_method_20_code
def yX4_motion : MethodName := ⟨RX4, "motion", "(II)I"⟩
abbrev cX4_ways : ByteArray := prog_1_method_21_code
def yX4_ways : MethodName := ⟨RX4, "ways", "(I)I"⟩
abbrev cX4_waysAgain : ByteArray := prog_1_method_22_code
def yX4_waysAgain : MethodName := ⟨RX4, "waysAgain", "(I)I"⟩
abbrev cX4_needed : ByteArray := prog_1_method_23_code
def yX4_needed : MethodName := ⟨RX4, "needed", "(I)I"⟩
abbrev cX4_test : ByteArray := prog_1_method_24_code
def yX4_test : MethodName := ⟨RX4, "test", "(I)I"⟩
abbrev cX4_run : ByteArray := prog_1_method_25_code
def yX4_run : MethodName := ⟨RX4, "run", "(I)I"⟩
abbrev cX4_count : ByteArray := prog_1_method_26_code
def yX4_count : MethodName := ⟨RX4, "count", "(I)I"⟩
abbrev cX4_snapshot : ByteArray := prog_1_method_27_code
def yX4_snapshot : MethodName := ⟨RX4, "snapshot", "(I)I"⟩
abbrev cX4_restore : ByteArray := prog_1_method_28_code
def yX4_restore : MethodName := ⟨RX4, "restore", "(I)I"⟩
abbrev cX4_undo : ByteArray := prog_1_method_29_code
def yX4_undo : MethodName := ⟨RX4, "undo", "()I"⟩
abbrev cX4_type : ByteArray := prog_1_method_30_code
def yX4_type : MethodName := ⟨RX4, "type", "(I)I"⟩
abbrev cX4_clearText : ByteArray := prog_1_method_31_code
def yX4_clearText : MethodName := ⟨RX4, "clearText", "()I"⟩
abbrev cX4_fault : ByteArray := prog_1_method_32_code
def yX4_fault : MethodName := ⟨RX4, "fault", "(I)I"⟩
abbrev cX4_read : ByteArray := prog_1_method_33_code
def yX4_read : MethodName := ⟨RX4, "read", "()I"⟩
abbrev cX4_isInput : ByteArray := prog_1_method_34_code
def yX4_isInput : MethodName := ⟨RX4, "isInput", "(I)Z"⟩
abbrev cX4_isKey : ByteArray := prog_1_method_35_code
def yX4_isKey : MethodName := ⟨RX4, "isKey", "(I)Z"⟩
abbrev cX4_isMotion : ByteArray := prog_1_method_36_code
def yX4_isMotion : MethodName := ⟨RX4, "isMotion", "(I)Z"⟩
abbrev cX4_isSnapshotPlace : ByteArray := prog_1_method_37_code
def yX4_isSnapshotPlace : MethodName := ⟨RX4, "isSnapshotPlace", "(I)Z"⟩
abbrev cX4_isYesOrNo : ByteArray := prog_1_method_38_code
def yX4_isYesOrNo : MethodName := ⟨RX4, "isYesOrNo", "(I)Z"⟩
abbrev cX4_has : ByteArray := prog_1_method_39_code
def yX4_has : MethodName := ⟨RX4, "has", "(II)Z"⟩
abbrev cX4_bitOf : ByteArray := prog_1_method_40_code
def yX4_bitOf : MethodName := ⟨RX4, "bitOf", "(II)I"⟩
abbrev cX4_with : ByteArray := prog_1_method_41_code
def yX4_with : MethodName := ⟨RX4, "with", "(IIZ)I"⟩
abbrev cX4_least : ByteArray := prog_1_method_42_code
def yX4_least : MethodName := ⟨RX4, "least", "(I)I"⟩
abbrev cX4_sum : ByteArray := prog_1_method_43_code
def yX4_sum : MethodName := ⟨RX4, "sum", "([I)I"⟩
abbrev cX4_copyAll : ByteArray := prog_1_method_44_code
def yX4_copyAll : MethodName := ⟨RX4, "copyAll", "([I[I)V"⟩
abbrev cX4_orNotFound : ByteArray := prog_1_method_45_code
def yX4_orNotFound : MethodName := ⟨RX4, "orNotFound", "(I)I"⟩
abbrev cX4_rowOrNotFound : ByteArray := prog_1_method_46_code
def yX4_rowOrNotFound : MethodName := ⟨RX4, "rowOrNotFound", "(II)I"⟩
abbrev cX4_isPermitted : ByteArray := prog_1_method_47_code
def yX4_isPermitted : MethodName := ⟨RX4, "isPermitted", "(I)Z"⟩
abbrev cX4_reasonAgainstStart : ByteArray := prog_1_method_48_code
def yX4_reasonAgainstStart : MethodName := ⟨RX4, "reasonAgainstStart", "(I)I"⟩
abbrev cX4_remember : ByteArray := prog_1_method_49_code
def yX4_remember : MethodName := ⟨RX4, "remember", "()V"⟩
abbrev cX4_forgetOldest : ByteArray := prog_1_method_50_code
def yX4_forgetOldest : MethodName := ⟨RX4, "forgetOldest", "()V"⟩
abbrev cX4_lookAtMotions : ByteArray := prog_1_method_51_code
def yX4_lookAtMotions : MethodName := ⟨RX4, "lookAtMotions", "(I)I"⟩
abbrev cX4_placeOfFault : ByteArray := prog_1_method_52_code
def yX4_placeOfFault : MethodName := ⟨RX4, "placeOfFault", "()I"⟩
abbrev cX4_faultOfRow : ByteArray := prog_1_method_53_code
def yX4_faultOfRow : MethodName := ⟨RX4, "faultOfRow", "(II)I"⟩
def RX5 : String := "InterlockBoardModel"
def TX5 : u_T := fun k => match k with
  | 0 => ("InterlockBoardModel", "st", "[I", true)
  | 1 => ("InterlockBoardModel", "past", "[I", true)
  | 2 => ("InterlockBoardModel", "pasts", "I", false)
  | 3 => ("InterlockBoardModel", "shots", "[I", true)
  | 4 => ("InterlockBoardModel", "isShot", "[Z", true)
  | 5 => ("InterlockBoardModel", "text", "[I", true)
  | 6 => ("InterlockBoardModel", "length", "I", false)
  | 7 => ("InterlockBoardModel", "spot", "I", false)
  | 8 => ("InterlockBoardModel", "itsMotion", "I", false)
  | 9 => ("InterlockBoardModel", "itsInputs", "I", false)
  | 10 => ("InterlockBoardModel", "hasOthers", "Z", false)
  | 11 => ("InterlockBoardModel", "manyRows", "[I", true)
  | _ => ("InterlockBoardModel", "from", "I", false)
def tyX5 : Nat → FieldType := fun k => match k with
  | 0 => .array .int
  | 1 => .array .int
  | 2 => .int
  | 3 => .array .int
  | 4 => .array .boolean
  | 5 => .array .int
  | 6 => .int
  | 7 => .int
  | 8 => .int
  | 9 => .int
  | 10 => .boolean
  | 11 => .array .int
  | _ => .int
abbrev wsX50 : List Cond := u_ws RX5 TX5 13
theorem nmX5 : ∀ a, a < 13 → ∀ b, b < 13 → a ≠ b → (TX5 a).2.1 ≠ (TX5 b).2.1 := by decide +kernel
theorem tyX5_ok : ∀ k, k < 13 → parseFieldDescriptor (TX5 k).2.2.1 = some (tyX5 k) := by decide +kernel
abbrev cX5_init : ByteArray := prog_7_method_1_code
def yX5_init : MethodName := ⟨RX5, "<init>", "()V"⟩
abbrev cX5_in : ByteArray := prog_7_method_3_code
def yX5_in : MethodName := ⟨RX5, "in", "(III)Z"⟩
abbrev cX5_isTwo : ByteArray := prog_7_method_4_code
def yX5_isTwo : MethodName := ⟨RX5, "isTwo", "(I)Z"⟩
abbrev cX5_of : ByteArray := prog_7_method_5_code
def yX5_of : MethodName := ⟨RX5, "of", "(II)I"⟩
abbrev cX5_put : ByteArray := prog_7_method_6_code
def yX5_put : MethodName := ⟨RX5, "put", "(III)V"⟩
abbrev cX5_adds : ByteArray := prog_7_method_7_code
def yX5_adds : MethodName := ⟨RX5, "adds", "(III)V"⟩
abbrev cX5_on : ByteArray := prog_7_method_8_code
def yX5_on : MethodName := ⟨RX5, "on", "(II)I"⟩
abbrev cX5_lay : ByteArray := prog_7_method_9_code
def yX5_lay : MethodName := ⟨RX5, "lay", "(III)V"⟩
abbrev cX5_isInput : ByteArray := prog_7_method_10_code
def yX5_isInput : MethodName := ⟨RX5, "isInput", "(I)Z"⟩
abbrev cX5_isMotion : ByteArray := prog_7_method_11_code
def yX5_isMotion : MethodName := ⟨RX5, "isMotion", "(I)Z"⟩
abbrev cX5_isKey : ByteArray := prog_7_method_12_code
def yX5_isKey : MethodName := ⟨RX5, "isKey", "(I)Z"⟩
abbrev cX5_records : ByteArray := prog_7_method_13_code
def yX5_records : MethodName := ⟨RX5, "records", "()V"⟩
abbrev cX5_undo : ByteArray := prog_7_method_14_code
def yX5_undo : MethodName := ⟨RX5, "undo", "()I"⟩
abbrev cX5_isLock : ByteArray := prog_7_method_15_code
def yX5_isLock : MethodName := ⟨RX5, "isLock", "(I)Z"⟩
abbrev cX5_isClosed : ByteArray := prog_7_method_16_code
def yX5_isClosed : MethodName := ⟨RX5, "isClosed", "(I)Z"⟩
abbrev cX5_isOverdue : ByteArray := prog_7_method_17_code
def yX5_isOverdue : MethodName := ⟨RX5, "isOverdue", "(I)Z"⟩
abbrev cX5_counts : ByteArray := prog_7_method_18_code
def yX5_counts : MethodName := ⟨RX5, "counts", "(I)Z"⟩
abbrev cX5_closedOnes : ByteArray := prog_7_method_19_code
def yX5_closedOnes : MethodName := ⟨RX5, "closedOnes", "()I"⟩
abbrev cX5_bits : ByteArray := prog_7_method_20_code
def yX5_bits : MethodName := ⟨RX5, "bits", "(I)I"⟩
abbrev cX5_least : ByteArray := prog_7_method_21_code
def yX5_least : MethodName := ⟨RX5, "least", "(I)I"⟩
abbrev cX5_isPermitted : ByteArray := prog_7_method_22_code
def yX5_isPermitted : MethodName := ⟨RX5, "isPermitted", "(II)Z"⟩
abbrev cX5_inputsOf : ByteArray := prog_7_method_23_code
def yX5_inputsOf : MethodName := ⟨RX5, "inputsOf", "(I)I"⟩
abbrev cX5_looks : ByteArray := prog_7_method_24_code
def yX5_looks : MethodName := ⟨RX5, "looks", "(I)I"⟩
abbrev cX5_running : ByteArray := prog_7_method_25_code
def yX5_running : MethodName := ⟨RX5, "running", "()I"⟩
abbrev cX5_newInput : ByteArray := prog_7_method_26_code
def yX5_newInput : MethodName := ⟨RX5, "newInput", "(IIII)I"⟩
abbrev cX5_sensor : ByteArray := prog_7_method_27_code
def yX5_sensor : MethodName := ⟨RX5, "sensor", "(I)I"⟩
abbrev cX5_lock : ByteArray := prog_7_method_28_code
def yX5_lock : MethodName := ⟨RX5, "lock", "(II)I"⟩
abbrev cX5_essential : ByteArray := prog_7_method_29_code
def yX5_essential : MethodName := ⟨RX5, "essential", "(II)I"⟩
abbrev cX5_testGoesOn : ByteArray := prog_7_method_30_code
def yX5_testGoesOn : MethodName := ⟨RX5, "testGoesOn", "(II)V"⟩
abbrev cX5_input : ByteArray := prog_7_method_31_code
def yX5_input : MethodName := ⟨RX5, "input", "(II)I"⟩
abbrev cX5_one : ByteArray := prog_7_method_32_code
def yX5_one : MethodName := ⟨RX5, "one", "(Z)I"⟩
abbrev cX5_inputInfo : ByteArray := prog_7_method_33_code
def yX5_inputInfo : MethodName := ⟨RX5, "inputInfo", "(II)I"⟩
abbrev cX5_keysIn : ByteArray := prog_7_method_34_code
def yX5_keysIn : MethodName := ⟨RX5, "keysIn", "()I"⟩
abbrev cX5_keyIn : ByteArray := prog_7_method_35_code
def yX5_keyIn : MethodName := ⟨RX5, "keyIn", "(II)I"⟩
abbrev cX5_keyOut : ByteArray := prog_7_method_36_code
def yX5_keyOut : MethodName := ⟨RX5, "keyOut", "(I)I"⟩
abbrev cX5_key : ByteArray := prog_7_method_37_code
def yX5_key : MethodName := ⟨RX5, "key", "(I)I"⟩
abbrev cX5_bridges : ByteArray := prog_7_method_38_code
def yX5_bridges : MethodName := ⟨RX5, "bridges", "()I"⟩
abbrev cX5_bridge : ByteArray := prog_7_method_39_code
def yX5_bridge : MethodName := ⟨RX5, "bridge", "(II)I"⟩
abbrev cX5_unbridge : ByteArray := prog_7_method_40_code
def yX5_unbridge : MethodName := ⟨RX5, "unbridge", "(I)I"⟩
abbrev cX5_endAhead : ByteArray := prog_7_method_41_code
def yX5_endAhead : MethodName := ⟨RX5, "endAhead", "(I)I"⟩
abbrev cX5_bridged : ByteArray := prog_7_method_42_code
def yX5_bridged : MethodName := ⟨RX5, "bridged", "(I)I"⟩
abbrev cX5_newRow : ByteArray := prog_7_method_43_code
def yX5_newRow : MethodName := ⟨RX5, "newRow", "(II)I"⟩
abbrev cX5_row : ByteArray := prog_7_method_44_code
def yX5_row : MethodName := ⟨RX5, "row", "(II)I"⟩
abbrev cX5_dropRows : ByteArray := prog_7_method_45_code
def yX5_dropRows : MethodName := ⟨RX5, "dropRows", "(I)I"⟩
abbrev cX5_excludes : ByteArray := prog_7_method_46_code
def yX5_excludes : MethodName := ⟨RX5, "excludes", "(III)V"⟩
abbrev cX5_exclude : ByteArray := prog_7_method_47_code
def yX5_exclude : MethodName := ⟨RX5, "exclude", "(III)I"⟩
abbrev cX5_reasonOf : ByteArray := prog_7_method_48_code
def yX5_reasonOf : MethodName := ⟨RX5, "reasonOf", "(I)I"⟩
abbrev cX5_start : ByteArray := prog_7_method_49_code
def yX5_start : MethodName := ⟨RX5, "start", "(I)I"⟩
abbrev cX5_why : ByteArray := prog_7_method_50_code
def yX5_why : MethodName := ⟨RX5, "why", "(I)I"⟩
abbrev cX5_stop : ByteArray := prog_7_method_51_code
def yX5_stop : MethodName := ⟨RX5, "stop", "(I)I"⟩
abbrev cX5_reset : ByteArray := prog_7_method_52_code
def yX5_reset : MethodName := ⟨RX5, "reset", "(I)I"⟩
abbrev cX5_rowOf : ByteArray := prog_7_method_53_code
def yX5_rowOf : MethodName := ⟨RX5, "rowOf", "(II)I"⟩
abbrev cX5_motion : ByteArray := prog_7_method_54_code
def yX5_motion : MethodName := ⟨RX5, "motion", "(II)I"⟩
abbrev cX5_ways : ByteArray := prog_7_method_55_code
def yX5_ways : MethodName := ⟨RX5, "ways", "(I)I"⟩
abbrev cX5_waysAgain : ByteArray := prog_7_method_56_code
def yX5_waysAgain : MethodName := ⟨RX5, "waysAgain", "(I)I"⟩
abbrev cX5_needed : ByteArray := prog_7_method_57_code
def yX5_needed : MethodName := ⟨RX5, "needed", "(I)I"⟩
abbrev cX5_test : ByteArray := prog_7_method_58_code
def yX5_test : MethodName := ⟨RX5, "test", "(I)I"⟩
abbrev cX5_endsWhatIsOver : ByteArray := prog_7_method_59_code
def yX5_endsWhatIsOver : MethodName := ⟨RX5, "endsWhatIsOver", "(I)V"⟩
abbrev cX5_tick : ByteArray := prog_7_method_60_code
def yX5_tick : MethodName := ⟨RX5, "tick", "()I"⟩
abbrev cX5_run : ByteArray := prog_7_method_61_code
def yX5_run : MethodName := ⟨RX5, "run", "(I)I"⟩
abbrev cX5_overInputs : ByteArray := prog_7_method_62_code
def yX5_overInputs : MethodName := ⟨RX5, "overInputs", "(I)I"⟩
abbrev cX5_overMotions : ByteArray := prog_7_method_63_code
def yX5_overMotions : MethodName := ⟨RX5, "overMotions", "(I)I"⟩
abbrev cX5_count : ByteArray := prog_7_method_64_code
def yX5_count : MethodName := ⟨RX5, "count", "(I)I"⟩
abbrev cX5_snapshot : ByteArray := prog_7_method_65_code
def yX5_snapshot : MethodName := ⟨RX5, "snapshot", "(I)I"⟩
abbrev cX5_restore : ByteArray := prog_7_method_66_code
def yX5_restore : MethodName := ⟨RX5, "restore", "(I)I"⟩
abbrev cX5_type : ByteArray := prog_7_method_67_code
def yX5_type : MethodName := ⟨RX5, "type", "(I)I"⟩
abbrev cX5_clearText : ByteArray := prog_7_method_68_code
def yX5_clearText : MethodName := ⟨RX5, "clearText", "()I"⟩
abbrev cX5_isAt : ByteArray := prog_7_method_69_code
def yX5_isAt : MethodName := ⟨RX5, "isAt", "(II)Z"⟩
abbrev cX5_takes : ByteArray := prog_7_method_70_code
def yX5_takes : MethodName := ⟨RX5, "takes", "(I)Z"⟩
abbrev cX5_takesInput : ByteArray := prog_7_method_71_code
def yX5_takesInput : MethodName := ⟨RX5, "takesInput", "()Z"⟩
abbrev cX5_isFormed : ByteArray := prog_7_method_72_code
def yX5_isFormed : MethodName := ⟨RX5, "isFormed", "()Z"⟩
abbrev cX5_reasonHere : ByteArray := prog_7_method_73_code
def yX5_reasonHere : MethodName := ⟨RX5, "reasonHere", "()I"⟩
abbrev cX5_reasonOfText : ByteArray := prog_7_method_74_code
def yX5_reasonOfText : MethodName := ⟨RX5, "reasonOfText", "()I"⟩
abbrev cX5_fault : ByteArray := prog_7_method_75_code
def yX5_fault : MethodName := ⟨RX5, "fault", "(I)I"⟩
abbrev cX5_read : ByteArray := prog_7_method_76_code
def yX5_read : MethodName := ⟨RX5, "read", "()I"⟩
def RJ6 : String := "java/lang/Integer"
def TJ6 : u_T := fun k => match k with
  | _ => ("", "", "", false)
def tyJ6 : Nat → FieldType := fun k => match k with
  | _ => .int
abbrev wsJ60 : List Cond := u_ws RJ6 TJ6 0
theorem nmJ6 : ∀ a, a < 0 → ∀ b, b < 0 → a ≠ b → (TJ6 a).2.1 ≠ (TJ6 b).2.1 := by decide +kernel
theorem tyJ6_ok : ∀ k, k < 0 → parseFieldDescriptor (TJ6 k).2.2.1 = some (tyJ6 k) := by decide +kernel
abbrev cJ6_bitCount_0f7a4 : ByteArray := prog_8_method_49_code
def yJ6_bitCount_0f7a4 : MethodName := ⟨RJ6, "bitCount", "(I)I"⟩
def RJ9 : String := "java/lang/Math"
def TJ9 : u_T := fun k => match k with
  | _ => ("", "", "", false)
def tyJ9 : Nat → FieldType := fun k => match k with
  | _ => .int
abbrev wsJ90 : List Cond := u_ws RJ9 TJ9 0
theorem nmJ9 : ∀ a, a < 0 → ∀ b, b < 0 → a ≠ b → (TJ9 a).2.1 ≠ (TJ9 b).2.1 := by decide +kernel
theorem tyJ9_ok : ∀ k, k < 0 → parseFieldDescriptor (TJ9 k).2.2.1 = some (tyJ9 k) := by decide +kernel
abbrev cJ9_max_7cf53 : ByteArray := prog_9_method_65_code
def yJ9_max_7cf53 : MethodName := ⟨RJ9, "max", "(II)I"⟩
abbrev cJ9_min_7cf53 : ByteArray := prog_9_method_69_code
def yJ9_min_7cf53 : MethodName := ⟨RJ9, "min", "(II)I"⟩
def RJ10 : String := "java/lang/System"
def TJ10 : u_T := fun k => match k with
  | _ => ("", "", "", false)
def tyJ10 : Nat → FieldType := fun k => match k with
  | _ => .int
abbrev wsJ100 : List Cond := u_ws RJ10 TJ10 0
theorem nmJ10 : ∀ a, a < 0 → ∀ b, b < 0 → a ≠ b → (TJ10 a).2.1 ≠ (TJ10 b).2.1 := by decide +kernel
theorem tyJ10_ok : ∀ k, k < 0 → parseFieldDescriptor (TJ10 k).2.2.1 = some (tyJ10 k) := by decide +kernel
def RL : String := "InterlockBoardLaw"
abbrev cL_law : ByteArray := code
def yL_law : MethodName := ⟨RL, "law", "([I)Z"⟩
