section
-- ===== PART A: goes FIRST, ahead of the names: the tables' words, and 'selects' of the private methods out of them =====
/-- a private method of a class that the tables say can be made, by its rows of tables_1 -/
def lw_okq (q : MethodName × Nat) : Prop := (q.1.cls ≠ "java/lang/invoke/MethodHandle" ∧ q.1.cls ≠ "java/lang/invoke/VarHandle") ∧ Cond.instantiable q.1.cls q.2 ∈ tables_1 ∧ Cond.privateMethod q.1 ∈ tables_1 ∧ Cond.instanceMethod q.1 ∈ tables_1
theorem lw_p0 : lw_okq (⟨"LispForge$Reader", "takes", "(I)Z"⟩, 7) := ⟨⟨by decide +kernel, by decide +kernel⟩, List.mem_of_getElem? (i := 51) (by decide +kernel), List.mem_of_getElem? (i := 326) (by decide +kernel), List.mem_of_getElem? (i := 327) (by decide +kernel)⟩
theorem lw_p1 : lw_okq (⟨"LispForge$Reader", "lengthensAtom", "(I)Z"⟩, 7) := ⟨⟨by decide +kernel, by decide +kernel⟩, List.mem_of_getElem? (i := 51) (by decide +kernel), List.mem_of_getElem? (i := 330) (by decide +kernel), List.mem_of_getElem? (i := 331) (by decide +kernel)⟩
theorem lw_p2 : lw_okq (⟨"LispForge$Reader", "addsDigit", "(I)Z"⟩, 7) := ⟨⟨by decide +kernel, by decide +kernel⟩, List.mem_of_getElem? (i := 51) (by decide +kernel), List.mem_of_getElem? (i := 337) (by decide +kernel), List.mem_of_getElem? (i := 338) (by decide +kernel)⟩
theorem lw_p3 : lw_okq (⟨"LispForge$Reader", "opensList", "()Z"⟩, 7) := ⟨⟨by decide +kernel, by decide +kernel⟩, List.mem_of_getElem? (i := 51) (by decide +kernel), List.mem_of_getElem? (i := 351) (by decide +kernel), List.mem_of_getElem? (i := 352) (by decide +kernel)⟩
theorem lw_p4 : lw_okq (⟨"LispForge$Reader", "adds", "(LLispForge$Form;)Z"⟩, 7) := ⟨⟨by decide +kernel, by decide +kernel⟩, List.mem_of_getElem? (i := 51) (by decide +kernel), List.mem_of_getElem? (i := 387) (by decide +kernel), List.mem_of_getElem? (i := 388) (by decide +kernel)⟩
theorem lw_p5 : lw_okq (⟨"LispForge$Reader", "closesList", "()Z"⟩, 7) := ⟨⟨by decide +kernel, by decide +kernel⟩, List.mem_of_getElem? (i := 51) (by decide +kernel), List.mem_of_getElem? (i := 395) (by decide +kernel), List.mem_of_getElem? (i := 396) (by decide +kernel)⟩
theorem lw_p6 : lw_okq (⟨"LispForge$Reader", "beginsAtom", "(I)Z"⟩, 7) := ⟨⟨by decide +kernel, by decide +kernel⟩, List.mem_of_getElem? (i := 51) (by decide +kernel), List.mem_of_getElem? (i := 399) (by decide +kernel), List.mem_of_getElem? (i := 400) (by decide +kernel)⟩
theorem lw_p7 : lw_okq (⟨"java/lang/Throwable", "fillInStackTrace", "(I)Ljava/lang/Throwable;"⟩, 6) := ⟨⟨by decide +kernel, by decide +kernel⟩, List.mem_of_getElem? (i := 448) (by decide +kernel), List.mem_of_getElem? (i := 446) (by decide +kernel), List.mem_of_getElem? (i := 447) (by decide +kernel)⟩
theorem lw_p8 : lw_okq (⟨"LispForge$Compiler", "definitionOf", "(LLispForge$Form;I)LLispForge$Unit;"⟩, 12) := ⟨⟨by decide +kernel, by decide +kernel⟩, List.mem_of_getElem? (i := 97) (by decide +kernel), List.mem_of_getElem? (i := 487) (by decide +kernel), List.mem_of_getElem? (i := 488) (by decide +kernel)⟩
theorem lw_p9 : lw_okq (⟨"LispForge$Compiler", "bind", "(II)V"⟩, 12) := ⟨⟨by decide +kernel, by decide +kernel⟩, List.mem_of_getElem? (i := 97) (by decide +kernel), List.mem_of_getElem? (i := 582) (by decide +kernel), List.mem_of_getElem? (i := 583) (by decide +kernel)⟩
theorem lw_p10 : lw_okq (⟨"LispForge$Compiler", "translate", "(LLispForge$Form;LLispForge$Replacement;II)V"⟩, 12) := ⟨⟨by decide +kernel, by decide +kernel⟩, List.mem_of_getElem? (i := 97) (by decide +kernel), List.mem_of_getElem? (i := 587) (by decide +kernel), List.mem_of_getElem? (i := 588) (by decide +kernel)⟩
theorem lw_p11 : lw_okq (⟨"LispForge$Compiler", "settle", "(LLispForge$Form;LLispForge$Replacement;)V"⟩, 12) := ⟨⟨by decide +kernel, by decide +kernel⟩, List.mem_of_getElem? (i := 97) (by decide +kernel), List.mem_of_getElem? (i := 592) (by decide +kernel), List.mem_of_getElem? (i := 593) (by decide +kernel)⟩
theorem lw_p12 : lw_okq (⟨"LispForge$Compiler", "follow", "(LLispForge$Form;LLispForge$Replacement;)V"⟩, 12) := ⟨⟨by decide +kernel, by decide +kernel⟩, List.mem_of_getElem? (i := 97) (by decide +kernel), List.mem_of_getElem? (i := 596) (by decide +kernel), List.mem_of_getElem? (i := 597) (by decide +kernel)⟩
theorem lw_p13 : lw_okq (⟨"LispForge$Compiler", "macroSeen", "()LLispForge$Unit;"⟩, 12) := ⟨⟨by decide +kernel, by decide +kernel⟩, List.mem_of_getElem? (i := 97) (by decide +kernel), List.mem_of_getElem? (i := 605) (by decide +kernel), List.mem_of_getElem? (i := 606) (by decide +kernel)⟩
theorem lw_p14 : lw_okq (⟨"LispForge$Compiler", "replacementBy", "(LLispForge$Unit;LLispForge$Form;LLispForge$Replacement;)LLispForge$Replacement;"⟩, 12) := ⟨⟨by decide +kernel, by decide +kernel⟩, List.mem_of_getElem? (i := 97) (by decide +kernel), List.mem_of_getElem? (i := 613) (by decide +kernel), List.mem_of_getElem? (i := 614) (by decide +kernel)⟩
theorem lw_p15 : lw_okq (⟨"LispForge$Compiler", "putNumber", "(I)V"⟩, 12) := ⟨⟨by decide +kernel, by decide +kernel⟩, List.mem_of_getElem? (i := 97) (by decide +kernel), List.mem_of_getElem? (i := 639) (by decide +kernel), List.mem_of_getElem? (i := 640) (by decide +kernel)⟩
def lw_privs_1 : List (MethodName × Nat) := [(⟨"LispForge$Reader", "takes", "(I)Z"⟩, 7), (⟨"LispForge$Reader", "lengthensAtom", "(I)Z"⟩, 7), (⟨"LispForge$Reader", "addsDigit", "(I)Z"⟩, 7), (⟨"LispForge$Reader", "opensList", "()Z"⟩, 7), (⟨"LispForge$Reader", "adds", "(LLispForge$Form;)Z"⟩, 7), (⟨"LispForge$Reader", "closesList", "()Z"⟩, 7), (⟨"LispForge$Reader", "beginsAtom", "(I)Z"⟩, 7), (⟨"java/lang/Throwable", "fillInStackTrace", "(I)Ljava/lang/Throwable;"⟩, 6), (⟨"LispForge$Compiler", "definitionOf", "(LLispForge$Form;I)LLispForge$Unit;"⟩, 12), (⟨"LispForge$Compiler", "bind", "(II)V"⟩, 12), (⟨"LispForge$Compiler", "translate", "(LLispForge$Form;LLispForge$Replacement;II)V"⟩, 12), (⟨"LispForge$Compiler", "settle", "(LLispForge$Form;LLispForge$Replacement;)V"⟩, 12), (⟨"LispForge$Compiler", "follow", "(LLispForge$Form;LLispForge$Replacement;)V"⟩, 12), (⟨"LispForge$Compiler", "macroSeen", "()LLispForge$Unit;"⟩, 12), (⟨"LispForge$Compiler", "replacementBy", "(LLispForge$Unit;LLispForge$Form;LLispForge$Replacement;)LLispForge$Replacement;"⟩, 12), (⟨"LispForge$Compiler", "putNumber", "(I)V"⟩, 12)]
theorem lw_r1 : ∀ q ∈ lw_privs_1, lw_okq q := List.forall_mem_cons.mpr ⟨lw_p0, List.forall_mem_cons.mpr ⟨lw_p1, List.forall_mem_cons.mpr ⟨lw_p2, List.forall_mem_cons.mpr ⟨lw_p3, List.forall_mem_cons.mpr ⟨lw_p4, List.forall_mem_cons.mpr ⟨lw_p5, List.forall_mem_cons.mpr ⟨lw_p6, List.forall_mem_cons.mpr ⟨lw_p7, List.forall_mem_cons.mpr ⟨lw_p8, List.forall_mem_cons.mpr ⟨lw_p9, List.forall_mem_cons.mpr ⟨lw_p10, List.forall_mem_cons.mpr ⟨lw_p11, List.forall_mem_cons.mpr ⟨lw_p12, List.forall_mem_cons.mpr ⟨lw_p13, List.forall_mem_cons.mpr ⟨lw_p14, List.forall_mem_cons.mpr ⟨lw_p15, fun _ h => absurd h List.not_mem_nil⟩⟩⟩⟩⟩⟩⟩⟩⟩⟩⟩⟩⟩⟩⟩⟩
theorem lw_p16 : lw_okq (⟨"LispForge$Compiler", "emit", "(I)V"⟩, 12) := ⟨⟨by decide +kernel, by decide +kernel⟩, List.mem_of_getElem? (i := 97) (by decide +kernel), List.mem_of_getElem? (i := 643) (by decide +kernel), List.mem_of_getElem? (i := 644) (by decide +kernel)⟩
theorem lw_p17 : lw_okq (⟨"LispForge$Compiler", "slotOf", "(I)I"⟩, 12) := ⟨⟨by decide +kernel, by decide +kernel⟩, List.mem_of_getElem? (i := 97) (by decide +kernel), List.mem_of_getElem? (i := 650) (by decide +kernel), List.mem_of_getElem? (i := 651) (by decide +kernel)⟩
theorem lw_p18 : lw_okq (⟨"LispForge$Compiler", "symbolSeen", "()I"⟩, 12) := ⟨⟨by decide +kernel, by decide +kernel⟩, List.mem_of_getElem? (i := 97) (by decide +kernel), List.mem_of_getElem? (i := 655) (by decide +kernel), List.mem_of_getElem? (i := 656) (by decide +kernel)⟩
theorem lw_p19 : lw_okq (⟨"LispForge$Compiler", "putPair", "(LLispForge$Form;LLispForge$Replacement;III)V"⟩, 12) := ⟨⟨by decide +kernel, by decide +kernel⟩, List.mem_of_getElem? (i := 97) (by decide +kernel), List.mem_of_getElem? (i := 663) (by decide +kernel), List.mem_of_getElem? (i := 664) (by decide +kernel)⟩
theorem lw_p20 : lw_okq (⟨"LispForge$Compiler", "putIf", "(LLispForge$Form;LLispForge$Replacement;II)V"⟩, 12) := ⟨⟨by decide +kernel, by decide +kernel⟩, List.mem_of_getElem? (i := 97) (by decide +kernel), List.mem_of_getElem? (i := 667) (by decide +kernel), List.mem_of_getElem? (i := 668) (by decide +kernel)⟩
theorem lw_p21 : lw_okq (⟨"LispForge$Compiler", "putJump", "(I)I"⟩, 12) := ⟨⟨by decide +kernel, by decide +kernel⟩, List.mem_of_getElem? (i := 97) (by decide +kernel), List.mem_of_getElem? (i := 671) (by decide +kernel), List.mem_of_getElem? (i := 672) (by decide +kernel)⟩
theorem lw_p22 : lw_okq (⟨"LispForge$Compiler", "putLet", "(LLispForge$Form;LLispForge$Replacement;II)V"⟩, 12) := ⟨⟨by decide +kernel, by decide +kernel⟩, List.mem_of_getElem? (i := 97) (by decide +kernel), List.mem_of_getElem? (i := 679) (by decide +kernel), List.mem_of_getElem? (i := 680) (by decide +kernel)⟩
theorem lw_p23 : lw_okq (⟨"LispForge$Compiler", "putDo", "(LLispForge$Form;LLispForge$Replacement;II)V"⟩, 12) := ⟨⟨by decide +kernel, by decide +kernel⟩, List.mem_of_getElem? (i := 97) (by decide +kernel), List.mem_of_getElem? (i := 685) (by decide +kernel), List.mem_of_getElem? (i := 686) (by decide +kernel)⟩
theorem lw_p24 : lw_okq (⟨"LispForge$Compiler", "putSet", "(LLispForge$Form;LLispForge$Replacement;II)V"⟩, 12) := ⟨⟨by decide +kernel, by decide +kernel⟩, List.mem_of_getElem? (i := 97) (by decide +kernel), List.mem_of_getElem? (i := 690) (by decide +kernel), List.mem_of_getElem? (i := 691) (by decide +kernel)⟩
theorem lw_p25 : lw_okq (⟨"LispForge$Compiler", "putRun", "(LLispForge$Form;LLispForge$Replacement;II)V"⟩, 12) := ⟨⟨by decide +kernel, by decide +kernel⟩, List.mem_of_getElem? (i := 97) (by decide +kernel), List.mem_of_getElem? (i := 694) (by decide +kernel), List.mem_of_getElem? (i := 695) (by decide +kernel)⟩
theorem lw_p26 : lw_okq (⟨"LispForge$Compiler", "putCall", "(ILLispForge$Form;LLispForge$Replacement;II)V"⟩, 12) := ⟨⟨by decide +kernel, by decide +kernel⟩, List.mem_of_getElem? (i := 97) (by decide +kernel), List.mem_of_getElem? (i := 699) (by decide +kernel), List.mem_of_getElem? (i := 700) (by decide +kernel)⟩
theorem lw_p27 : lw_okq (⟨"LispForge$Compiler", "addFix", "(II)V"⟩, 12) := ⟨⟨by decide +kernel, by decide +kernel⟩, List.mem_of_getElem? (i := 97) (by decide +kernel), List.mem_of_getElem? (i := 703) (by decide +kernel), List.mem_of_getElem? (i := 704) (by decide +kernel)⟩
theorem lw_p28 : lw_okq (⟨"LispForge$Compiler", "fileOf", "(LLispForge$Unit;)LLispForge$Bytes;"⟩, 12) := ⟨⟨by decide +kernel, by decide +kernel⟩, List.mem_of_getElem? (i := 97) (by decide +kernel), List.mem_of_getElem? (i := 735) (by decide +kernel), List.mem_of_getElem? (i := 736) (by decide +kernel)⟩
theorem lw_p29 : lw_okq (⟨"LispForge$Linker", "add", "(LLispForge$Unit;)V"⟩, 5) := ⟨⟨by decide +kernel, by decide +kernel⟩, List.mem_of_getElem? (i := 142) (by decide +kernel), List.mem_of_getElem? (i := 785) (by decide +kernel), List.mem_of_getElem? (i := 786) (by decide +kernel)⟩
theorem lw_p30 : lw_okq (⟨"LispForge$Linker", "gatherCalledBy", "(LLispForge$Unit;)I"⟩, 5) := ⟨⟨by decide +kernel, by decide +kernel⟩, List.mem_of_getElem? (i := 142) (by decide +kernel), List.mem_of_getElem? (i := 789) (by decide +kernel), List.mem_of_getElem? (i := 790) (by decide +kernel)⟩
theorem lw_p31 : lw_okq (⟨"LispForge$Linker", "beginningOf", "(LLispForge$Unit;)I"⟩, 5) := ⟨⟨by decide +kernel, by decide +kernel⟩, List.mem_of_getElem? (i := 142) (by decide +kernel), List.mem_of_getElem? (i := 794) (by decide +kernel), List.mem_of_getElem? (i := 795) (by decide +kernel)⟩
def lw_privs_2 : List (MethodName × Nat) := [(⟨"LispForge$Compiler", "emit", "(I)V"⟩, 12), (⟨"LispForge$Compiler", "slotOf", "(I)I"⟩, 12), (⟨"LispForge$Compiler", "symbolSeen", "()I"⟩, 12), (⟨"LispForge$Compiler", "putPair", "(LLispForge$Form;LLispForge$Replacement;III)V"⟩, 12), (⟨"LispForge$Compiler", "putIf", "(LLispForge$Form;LLispForge$Replacement;II)V"⟩, 12), (⟨"LispForge$Compiler", "putJump", "(I)I"⟩, 12), (⟨"LispForge$Compiler", "putLet", "(LLispForge$Form;LLispForge$Replacement;II)V"⟩, 12), (⟨"LispForge$Compiler", "putDo", "(LLispForge$Form;LLispForge$Replacement;II)V"⟩, 12), (⟨"LispForge$Compiler", "putSet", "(LLispForge$Form;LLispForge$Replacement;II)V"⟩, 12), (⟨"LispForge$Compiler", "putRun", "(LLispForge$Form;LLispForge$Replacement;II)V"⟩, 12), (⟨"LispForge$Compiler", "putCall", "(ILLispForge$Form;LLispForge$Replacement;II)V"⟩, 12), (⟨"LispForge$Compiler", "addFix", "(II)V"⟩, 12), (⟨"LispForge$Compiler", "fileOf", "(LLispForge$Unit;)LLispForge$Bytes;"⟩, 12), (⟨"LispForge$Linker", "add", "(LLispForge$Unit;)V"⟩, 5), (⟨"LispForge$Linker", "gatherCalledBy", "(LLispForge$Unit;)I"⟩, 5), (⟨"LispForge$Linker", "beginningOf", "(LLispForge$Unit;)I"⟩, 5)]
theorem lw_r2 : ∀ q ∈ lw_privs_2, lw_okq q := List.forall_mem_cons.mpr ⟨lw_p16, List.forall_mem_cons.mpr ⟨lw_p17, List.forall_mem_cons.mpr ⟨lw_p18, List.forall_mem_cons.mpr ⟨lw_p19, List.forall_mem_cons.mpr ⟨lw_p20, List.forall_mem_cons.mpr ⟨lw_p21, List.forall_mem_cons.mpr ⟨lw_p22, List.forall_mem_cons.mpr ⟨lw_p23, List.forall_mem_cons.mpr ⟨lw_p24, List.forall_mem_cons.mpr ⟨lw_p25, List.forall_mem_cons.mpr ⟨lw_p26, List.forall_mem_cons.mpr ⟨lw_p27, List.forall_mem_cons.mpr ⟨lw_p28, List.forall_mem_cons.mpr ⟨lw_p29, List.forall_mem_cons.mpr ⟨lw_p30, List.forall_mem_cons.mpr ⟨lw_p31, fun _ h => absurd h List.not_mem_nil⟩⟩⟩⟩⟩⟩⟩⟩⟩⟩⟩⟩⟩⟩⟩⟩
theorem lw_p32 : lw_okq (⟨"LispForge$Linker", "moveJumps", "(LLispForge$Bytes;LLispForge$Bytes;I)V"⟩, 5) := ⟨⟨by decide +kernel, by decide +kernel⟩, List.mem_of_getElem? (i := 142) (by decide +kernel), List.mem_of_getElem? (i := 805) (by decide +kernel), List.mem_of_getElem? (i := 806) (by decide +kernel)⟩
theorem lw_p33 : lw_okq (⟨"LispForge$Linker", "setCalls", "(LLispForge$Unit;LLispForge$Bytes;I)V"⟩, 5) := ⟨⟨by decide +kernel, by decide +kernel⟩, List.mem_of_getElem? (i := 142) (by decide +kernel), List.mem_of_getElem? (i := 819) (by decide +kernel), List.mem_of_getElem? (i := 820) (by decide +kernel)⟩
theorem lw_p34 : lw_okq (⟨"LispForge$Machine", "makeStep", "()V"⟩, 10) := ⟨⟨by decide +kernel, by decide +kernel⟩, List.mem_of_getElem? (i := 165) (by decide +kernel), List.mem_of_getElem? (i := 835) (by decide +kernel), List.mem_of_getElem? (i := 836) (by decide +kernel)⟩
theorem lw_p35 : lw_okq (⟨"LispForge$Machine", "hasNoRoomFor", "(I)Z"⟩, 10) := ⟨⟨by decide +kernel, by decide +kernel⟩, List.mem_of_getElem? (i := 165) (by decide +kernel), List.mem_of_getElem? (i := 840) (by decide +kernel), List.mem_of_getElem? (i := 841) (by decide +kernel)⟩
theorem lw_p36 : lw_okq (⟨"LispForge$Machine", "put", "(I)V"⟩, 10) := ⟨⟨by decide +kernel, by decide +kernel⟩, List.mem_of_getElem? (i := 165) (by decide +kernel), List.mem_of_getElem? (i := 845) (by decide +kernel), List.mem_of_getElem? (i := 846) (by decide +kernel)⟩
theorem lw_p37 : lw_okq (⟨"LispForge$Machine", "joinTwo", "(I)V"⟩, 10) := ⟨⟨by decide +kernel, by decide +kernel⟩, List.mem_of_getElem? (i := 165) (by decide +kernel), List.mem_of_getElem? (i := 850) (by decide +kernel), List.mem_of_getElem? (i := 851) (by decide +kernel)⟩
theorem lw_p38 : lw_okq (⟨"LispForge$Machine", "takeOff", "()I"⟩, 10) := ⟨⟨by decide +kernel, by decide +kernel⟩, List.mem_of_getElem? (i := 165) (by decide +kernel), List.mem_of_getElem? (i := 854) (by decide +kernel), List.mem_of_getElem? (i := 855) (by decide +kernel)⟩
theorem lw_p39 : lw_okq (⟨"LispForge$Machine", "takeOutBelow", "()V"⟩, 10) := ⟨⟨by decide +kernel, by decide +kernel⟩, List.mem_of_getElem? (i := 165) (by decide +kernel), List.mem_of_getElem? (i := 859) (by decide +kernel), List.mem_of_getElem? (i := 860) (by decide +kernel)⟩
theorem lw_p40 : lw_okq (⟨"LispForge$Machine", "store", "(I)V"⟩, 10) := ⟨⟨by decide +kernel, by decide +kernel⟩, List.mem_of_getElem? (i := 165) (by decide +kernel), List.mem_of_getElem? (i := 863) (by decide +kernel), List.mem_of_getElem? (i := 864) (by decide +kernel)⟩
theorem lw_p41 : lw_okq (⟨"LispForge$Machine", "enter", "()V"⟩, 10) := ⟨⟨by decide +kernel, by decide +kernel⟩, List.mem_of_getElem? (i := 165) (by decide +kernel), List.mem_of_getElem? (i := 867) (by decide +kernel), List.mem_of_getElem? (i := 868) (by decide +kernel)⟩
theorem lw_p42 : lw_okq (⟨"LispForge$Machine", "leave", "()V"⟩, 10) := ⟨⟨by decide +kernel, by decide +kernel⟩, List.mem_of_getElem? (i := 165) (by decide +kernel), List.mem_of_getElem? (i := 871) (by decide +kernel), List.mem_of_getElem? (i := 872) (by decide +kernel)⟩
theorem lw_p43 : lw_okq (⟨"LispForgeModel", "read", "(III)I"⟩, 57) := ⟨⟨by decide +kernel, by decide +kernel⟩, List.mem_of_getElem? (i := 875) (by decide +kernel), List.mem_of_getElem? (i := 1066) (by decide +kernel), List.mem_of_getElem? (i := 1067) (by decide +kernel)⟩
theorem lw_p44 : lw_okq (⟨"LispForgeModel", "at", "(II)I"⟩, 57) := ⟨⟨by decide +kernel, by decide +kernel⟩, List.mem_of_getElem? (i := 875) (by decide +kernel), List.mem_of_getElem? (i := 1070) (by decide +kernel), List.mem_of_getElem? (i := 1071) (by decide +kernel)⟩
theorem lw_p45 : lw_okq (⟨"LispForgeModel", "form", "(II)I"⟩, 57) := ⟨⟨by decide +kernel, by decide +kernel⟩, List.mem_of_getElem? (i := 875) (by decide +kernel), List.mem_of_getElem? (i := 1083) (by decide +kernel), List.mem_of_getElem? (i := 1084) (by decide +kernel)⟩
theorem lw_p46 : lw_okq (⟨"LispForgeModel", "joins", "(I)V"⟩, 57) := ⟨⟨by decide +kernel, by decide +kernel⟩, List.mem_of_getElem? (i := 875) (by decide +kernel), List.mem_of_getElem? (i := 1087) (by decide +kernel), List.mem_of_getElem? (i := 1088) (by decide +kernel)⟩
theorem lw_p47 : lw_okq (⟨"LispForgeModel", "number", "(I)I"⟩, 57) := ⟨⟨by decide +kernel, by decide +kernel⟩, List.mem_of_getElem? (i := 875) (by decide +kernel), List.mem_of_getElem? (i := 1091) (by decide +kernel), List.mem_of_getElem? (i := 1092) (by decide +kernel)⟩
def lw_privs_3 : List (MethodName × Nat) := [(⟨"LispForge$Linker", "moveJumps", "(LLispForge$Bytes;LLispForge$Bytes;I)V"⟩, 5), (⟨"LispForge$Linker", "setCalls", "(LLispForge$Unit;LLispForge$Bytes;I)V"⟩, 5), (⟨"LispForge$Machine", "makeStep", "()V"⟩, 10), (⟨"LispForge$Machine", "hasNoRoomFor", "(I)Z"⟩, 10), (⟨"LispForge$Machine", "put", "(I)V"⟩, 10), (⟨"LispForge$Machine", "joinTwo", "(I)V"⟩, 10), (⟨"LispForge$Machine", "takeOff", "()I"⟩, 10), (⟨"LispForge$Machine", "takeOutBelow", "()V"⟩, 10), (⟨"LispForge$Machine", "store", "(I)V"⟩, 10), (⟨"LispForge$Machine", "enter", "()V"⟩, 10), (⟨"LispForge$Machine", "leave", "()V"⟩, 10), (⟨"LispForgeModel", "read", "(III)I"⟩, 57), (⟨"LispForgeModel", "at", "(II)I"⟩, 57), (⟨"LispForgeModel", "form", "(II)I"⟩, 57), (⟨"LispForgeModel", "joins", "(I)V"⟩, 57), (⟨"LispForgeModel", "number", "(I)I"⟩, 57)]
theorem lw_r3 : ∀ q ∈ lw_privs_3, lw_okq q := List.forall_mem_cons.mpr ⟨lw_p32, List.forall_mem_cons.mpr ⟨lw_p33, List.forall_mem_cons.mpr ⟨lw_p34, List.forall_mem_cons.mpr ⟨lw_p35, List.forall_mem_cons.mpr ⟨lw_p36, List.forall_mem_cons.mpr ⟨lw_p37, List.forall_mem_cons.mpr ⟨lw_p38, List.forall_mem_cons.mpr ⟨lw_p39, List.forall_mem_cons.mpr ⟨lw_p40, List.forall_mem_cons.mpr ⟨lw_p41, List.forall_mem_cons.mpr ⟨lw_p42, List.forall_mem_cons.mpr ⟨lw_p43, List.forall_mem_cons.mpr ⟨lw_p44, List.forall_mem_cons.mpr ⟨lw_p45, List.forall_mem_cons.mpr ⟨lw_p46, List.forall_mem_cons.mpr ⟨lw_p47, fun _ h => absurd h List.not_mem_nil⟩⟩⟩⟩⟩⟩⟩⟩⟩⟩⟩⟩⟩⟩⟩⟩
theorem lw_p48 : lw_okq (⟨"LispForgeModel", "symbolForm", "(II)I"⟩, 57) := ⟨⟨by decide +kernel, by decide +kernel⟩, List.mem_of_getElem? (i := 875) (by decide +kernel), List.mem_of_getElem? (i := 1095) (by decide +kernel), List.mem_of_getElem? (i := 1096) (by decide +kernel)⟩
theorem lw_p49 : lw_okq (⟨"LispForgeModel", "head", "(I)I"⟩, 57) := ⟨⟨by decide +kernel, by decide +kernel⟩, List.mem_of_getElem? (i := 875) (by decide +kernel), List.mem_of_getElem? (i := 1099) (by decide +kernel), List.mem_of_getElem? (i := 1100) (by decide +kernel)⟩
theorem lw_p50 : lw_okq (⟨"LispForgeModel", "count", "(I)I"⟩, 57) := ⟨⟨by decide +kernel, by decide +kernel⟩, List.mem_of_getElem? (i := 875) (by decide +kernel), List.mem_of_getElem? (i := 1103) (by decide +kernel), List.mem_of_getElem? (i := 1104) (by decide +kernel)⟩
theorem lw_p51 : lw_okq (⟨"LispForgeModel", "part", "(II)I"⟩, 57) := ⟨⟨by decide +kernel, by decide +kernel⟩, List.mem_of_getElem? (i := 875) (by decide +kernel), List.mem_of_getElem? (i := 1107) (by decide +kernel), List.mem_of_getElem? (i := 1108) (by decide +kernel)⟩
theorem lw_p52 : lw_okq (⟨"LispForgeModel", "isSymbol", "(I)Z"⟩, 57) := ⟨⟨by decide +kernel, by decide +kernel⟩, List.mem_of_getElem? (i := 875) (by decide +kernel), List.mem_of_getElem? (i := 1114) (by decide +kernel), List.mem_of_getElem? (i := 1115) (by decide +kernel)⟩
theorem lw_p53 : lw_okq (⟨"LispForgeModel", "parametersOf", "(I)I"⟩, 57) := ⟨⟨by decide +kernel, by decide +kernel⟩, List.mem_of_getElem? (i := 875) (by decide +kernel), List.mem_of_getElem? (i := 1121) (by decide +kernel), List.mem_of_getElem? (i := 1122) (by decide +kernel)⟩
theorem lw_p54 : lw_okq (⟨"LispForgeModel", "know", "(II)V"⟩, 57) := ⟨⟨by decide +kernel, by decide +kernel⟩, List.mem_of_getElem? (i := 875) (by decide +kernel), List.mem_of_getElem? (i := 1125) (by decide +kernel), List.mem_of_getElem? (i := 1126) (by decide +kernel)⟩
theorem lw_p55 : lw_okq (⟨"LispForgeModel", "body", "(III)V"⟩, 57) := ⟨⟨by decide +kernel, by decide +kernel⟩, List.mem_of_getElem? (i := 875) (by decide +kernel), List.mem_of_getElem? (i := 1129) (by decide +kernel), List.mem_of_getElem? (i := 1130) (by decide +kernel)⟩
theorem lw_p56 : lw_okq (⟨"LispForgeModel", "push", "(III)V"⟩, 57) := ⟨⟨by decide +kernel, by decide +kernel⟩, List.mem_of_getElem? (i := 875) (by decide +kernel), List.mem_of_getElem? (i := 1133) (by decide +kernel), List.mem_of_getElem? (i := 1134) (by decide +kernel)⟩
theorem lw_p57 : lw_okq (⟨"LispForgeModel", "perform", "(III)V"⟩, 57) := ⟨⟨by decide +kernel, by decide +kernel⟩, List.mem_of_getElem? (i := 875) (by decide +kernel), List.mem_of_getElem? (i := 1137) (by decide +kernel), List.mem_of_getElem? (i := 1138) (by decide +kernel)⟩
theorem lw_p58 : lw_okq (⟨"LispForgeModel", "listed", "(I)V"⟩, 57) := ⟨⟨by decide +kernel, by decide +kernel⟩, List.mem_of_getElem? (i := 875) (by decide +kernel), List.mem_of_getElem? (i := 1141) (by decide +kernel), List.mem_of_getElem? (i := 1142) (by decide +kernel)⟩
theorem lw_p59 : lw_okq (⟨"LispForgeModel", "macro", "(I)I"⟩, 57) := ⟨⟨by decide +kernel, by decide +kernel⟩, List.mem_of_getElem? (i := 875) (by decide +kernel), List.mem_of_getElem? (i := 1145) (by decide +kernel), List.mem_of_getElem? (i := 1146) (by decide +kernel)⟩
theorem lw_p60 : lw_okq (⟨"LispForgeModel", "replace", "(III)V"⟩, 57) := ⟨⟨by decide +kernel, by decide +kernel⟩, List.mem_of_getElem? (i := 875) (by decide +kernel), List.mem_of_getElem? (i := 1149) (by decide +kernel), List.mem_of_getElem? (i := 1150) (by decide +kernel)⟩
theorem lw_p61 : lw_okq (⟨"LispForgeModel", "atom", "(I)V"⟩, 57) := ⟨⟨by decide +kernel, by decide +kernel⟩, List.mem_of_getElem? (i := 875) (by decide +kernel), List.mem_of_getElem? (i := 1156) (by decide +kernel), List.mem_of_getElem? (i := 1157) (by decide +kernel)⟩
theorem lw_p62 : lw_okq (⟨"LispForgeModel", "emit", "(I)V"⟩, 57) := ⟨⟨by decide +kernel, by decide +kernel⟩, List.mem_of_getElem? (i := 875) (by decide +kernel), List.mem_of_getElem? (i := 1160) (by decide +kernel), List.mem_of_getElem? (i := 1161) (by decide +kernel)⟩
theorem lw_p63 : lw_okq (⟨"LispForgeModel", "emitPlace", "(I)V"⟩, 57) := ⟨⟨by decide +kernel, by decide +kernel⟩, List.mem_of_getElem? (i := 875) (by decide +kernel), List.mem_of_getElem? (i := 1164) (by decide +kernel), List.mem_of_getElem? (i := 1165) (by decide +kernel)⟩
def lw_privs_4 : List (MethodName × Nat) := [(⟨"LispForgeModel", "symbolForm", "(II)I"⟩, 57), (⟨"LispForgeModel", "head", "(I)I"⟩, 57), (⟨"LispForgeModel", "count", "(I)I"⟩, 57), (⟨"LispForgeModel", "part", "(II)I"⟩, 57), (⟨"LispForgeModel", "isSymbol", "(I)Z"⟩, 57), (⟨"LispForgeModel", "parametersOf", "(I)I"⟩, 57), (⟨"LispForgeModel", "know", "(II)V"⟩, 57), (⟨"LispForgeModel", "body", "(III)V"⟩, 57), (⟨"LispForgeModel", "push", "(III)V"⟩, 57), (⟨"LispForgeModel", "perform", "(III)V"⟩, 57), (⟨"LispForgeModel", "listed", "(I)V"⟩, 57), (⟨"LispForgeModel", "macro", "(I)I"⟩, 57), (⟨"LispForgeModel", "replace", "(III)V"⟩, 57), (⟨"LispForgeModel", "atom", "(I)V"⟩, 57), (⟨"LispForgeModel", "emit", "(I)V"⟩, 57), (⟨"LispForgeModel", "emitPlace", "(I)V"⟩, 57)]
theorem lw_r4 : ∀ q ∈ lw_privs_4, lw_okq q := List.forall_mem_cons.mpr ⟨lw_p48, List.forall_mem_cons.mpr ⟨lw_p49, List.forall_mem_cons.mpr ⟨lw_p50, List.forall_mem_cons.mpr ⟨lw_p51, List.forall_mem_cons.mpr ⟨lw_p52, List.forall_mem_cons.mpr ⟨lw_p53, List.forall_mem_cons.mpr ⟨lw_p54, List.forall_mem_cons.mpr ⟨lw_p55, List.forall_mem_cons.mpr ⟨lw_p56, List.forall_mem_cons.mpr ⟨lw_p57, List.forall_mem_cons.mpr ⟨lw_p58, List.forall_mem_cons.mpr ⟨lw_p59, List.forall_mem_cons.mpr ⟨lw_p60, List.forall_mem_cons.mpr ⟨lw_p61, List.forall_mem_cons.mpr ⟨lw_p62, List.forall_mem_cons.mpr ⟨lw_p63, fun _ h => absurd h List.not_mem_nil⟩⟩⟩⟩⟩⟩⟩⟩⟩⟩⟩⟩⟩⟩⟩⟩
theorem lw_p64 : lw_okq (⟨"LispForgeModel", "slotOf", "(I)I"⟩, 57) := ⟨⟨by decide +kernel, by decide +kernel⟩, List.mem_of_getElem? (i := 875) (by decide +kernel), List.mem_of_getElem? (i := 1168) (by decide +kernel), List.mem_of_getElem? (i := 1169) (by decide +kernel)⟩
theorem lw_p65 : lw_okq (⟨"LispForgeModel", "aim", "(I)V"⟩, 57) := ⟨⟨by decide +kernel, by decide +kernel⟩, List.mem_of_getElem? (i := 875) (by decide +kernel), List.mem_of_getElem? (i := 1172) (by decide +kernel), List.mem_of_getElem? (i := 1173) (by decide +kernel)⟩
theorem lw_p66 : lw_okq (⟨"LispForgeModel", "fourth", "()I"⟩, 57) := ⟨⟨by decide +kernel, by decide +kernel⟩, List.mem_of_getElem? (i := 875) (by decide +kernel), List.mem_of_getElem? (i := 1176) (by decide +kernel), List.mem_of_getElem? (i := 1177) (by decide +kernel)⟩
theorem lw_p67 : lw_okq (⟨"LispForgeModel", "keep", "(IIII)I"⟩, 57) := ⟨⟨by decide +kernel, by decide +kernel⟩, List.mem_of_getElem? (i := 875) (by decide +kernel), List.mem_of_getElem? (i := 1180) (by decide +kernel), List.mem_of_getElem? (i := 1181) (by decide +kernel)⟩
theorem lw_p68 : lw_okq (⟨"LispForgeModel", "latest", "(II)I"⟩, 57) := ⟨⟨by decide +kernel, by decide +kernel⟩, List.mem_of_getElem? (i := 875) (by decide +kernel), List.mem_of_getElem? (i := 1208) (by decide +kernel), List.mem_of_getElem? (i := 1209) (by decide +kernel)⟩
theorem lw_p69 : lw_okq (⟨"LispForgeModel", "meet", "(I)I"⟩, 57) := ⟨⟨by decide +kernel, by decide +kernel⟩, List.mem_of_getElem? (i := 875) (by decide +kernel), List.mem_of_getElem? (i := 1212) (by decide +kernel), List.mem_of_getElem? (i := 1213) (by decide +kernel)⟩
theorem lw_p70 : lw_okq (⟨"LispForgeModel", "stands", "(I)I"⟩, 57) := ⟨⟨by decide +kernel, by decide +kernel⟩, List.mem_of_getElem? (i := 875) (by decide +kernel), List.mem_of_getElem? (i := 1216) (by decide +kernel), List.mem_of_getElem? (i := 1217) (by decide +kernel)⟩
theorem lw_p71 : lw_okq (⟨"LispForgeModel", "copy", "(II)V"⟩, 57) := ⟨⟨by decide +kernel, by decide +kernel⟩, List.mem_of_getElem? (i := 875) (by decide +kernel), List.mem_of_getElem? (i := 1220) (by decide +kernel), List.mem_of_getElem? (i := 1221) (by decide +kernel)⟩
theorem lw_p72 : lw_okq (⟨"LispForgeModel", "putPlace", "(II)V"⟩, 57) := ⟨⟨by decide +kernel, by decide +kernel⟩, List.mem_of_getElem? (i := 875) (by decide +kernel), List.mem_of_getElem? (i := 1224) (by decide +kernel), List.mem_of_getElem? (i := 1225) (by decide +kernel)⟩
theorem lw_p73 : lw_okq (⟨"LispForgeModel", "begin", "()V"⟩, 57) := ⟨⟨by decide +kernel, by decide +kernel⟩, List.mem_of_getElem? (i := 875) (by decide +kernel), List.mem_of_getElem? (i := 1231) (by decide +kernel), List.mem_of_getElem? (i := 1232) (by decide +kernel)⟩
theorem lw_p74 : lw_okq (⟨"LispForgeModel", "step", "()V"⟩, 57) := ⟨⟨by decide +kernel, by decide +kernel⟩, List.mem_of_getElem? (i := 875) (by decide +kernel), List.mem_of_getElem? (i := 1251) (by decide +kernel), List.mem_of_getElem? (i := 1252) (by decide +kernel)⟩
theorem lw_p75 : lw_okq (⟨"LispForgeModel", "placeAt", "(I)I"⟩, 57) := ⟨⟨by decide +kernel, by decide +kernel⟩, List.mem_of_getElem? (i := 875) (by decide +kernel), List.mem_of_getElem? (i := 1255) (by decide +kernel), List.mem_of_getElem? (i := 1256) (by decide +kernel)⟩
theorem lw_p76 : lw_okq (⟨"LispForgeModel", "put", "(I)V"⟩, 57) := ⟨⟨by decide +kernel, by decide +kernel⟩, List.mem_of_getElem? (i := 875) (by decide +kernel), List.mem_of_getElem? (i := 1259) (by decide +kernel), List.mem_of_getElem? (i := 1260) (by decide +kernel)⟩
theorem lw_p77 : lw_okq (⟨"LispForgeModel", "work", "(I)V"⟩, 57) := ⟨⟨by decide +kernel, by decide +kernel⟩, List.mem_of_getElem? (i := 875) (by decide +kernel), List.mem_of_getElem? (i := 1263) (by decide +kernel), List.mem_of_getElem? (i := 1264) (by decide +kernel)⟩
def lw_privs_5 : List (MethodName × Nat) := [(⟨"LispForgeModel", "slotOf", "(I)I"⟩, 57), (⟨"LispForgeModel", "aim", "(I)V"⟩, 57), (⟨"LispForgeModel", "fourth", "()I"⟩, 57), (⟨"LispForgeModel", "keep", "(IIII)I"⟩, 57), (⟨"LispForgeModel", "latest", "(II)I"⟩, 57), (⟨"LispForgeModel", "meet", "(I)I"⟩, 57), (⟨"LispForgeModel", "stands", "(I)I"⟩, 57), (⟨"LispForgeModel", "copy", "(II)V"⟩, 57), (⟨"LispForgeModel", "putPlace", "(II)V"⟩, 57), (⟨"LispForgeModel", "begin", "()V"⟩, 57), (⟨"LispForgeModel", "step", "()V"⟩, 57), (⟨"LispForgeModel", "placeAt", "(I)I"⟩, 57), (⟨"LispForgeModel", "put", "(I)V"⟩, 57), (⟨"LispForgeModel", "work", "(I)V"⟩, 57)]
theorem lw_r5 : ∀ q ∈ lw_privs_5, lw_okq q := List.forall_mem_cons.mpr ⟨lw_p64, List.forall_mem_cons.mpr ⟨lw_p65, List.forall_mem_cons.mpr ⟨lw_p66, List.forall_mem_cons.mpr ⟨lw_p67, List.forall_mem_cons.mpr ⟨lw_p68, List.forall_mem_cons.mpr ⟨lw_p69, List.forall_mem_cons.mpr ⟨lw_p70, List.forall_mem_cons.mpr ⟨lw_p71, List.forall_mem_cons.mpr ⟨lw_p72, List.forall_mem_cons.mpr ⟨lw_p73, List.forall_mem_cons.mpr ⟨lw_p74, List.forall_mem_cons.mpr ⟨lw_p75, List.forall_mem_cons.mpr ⟨lw_p76, List.forall_mem_cons.mpr ⟨lw_p77, fun _ h => absurd h List.not_mem_nil⟩⟩⟩⟩⟩⟩⟩⟩⟩⟩⟩⟩⟩⟩
def lw_privs : List (MethodName × Nat) := lw_privs_1 ++ (lw_privs_2 ++ (lw_privs_3 ++ (lw_privs_4 ++ (lw_privs_5))))
def lw_tbl : List Cond := k2_sels lw_privs ++ tables_1
theorem lw_privs_ok : ∀ q ∈ lw_privs, lw_okq q := by
  show ∀ q ∈ lw_privs_1 ++ (lw_privs_2 ++ (lw_privs_3 ++ (lw_privs_4 ++ (lw_privs_5)))), lw_okq q
  exact List.forall_mem_append.mpr ⟨lw_r1, List.forall_mem_append.mpr ⟨lw_r2, List.forall_mem_append.mpr ⟨lw_r3, List.forall_mem_append.mpr ⟨lw_r4, lw_r5⟩⟩⟩⟩
end
section
def mm_T0 : u_T := fun k => match k with
  | 0 => ("LispForge", "text", "LLispForge$Bytes;", true)
  | 1 => ("LispForge", "reader", "LLispForge$Reader;", true)
  | 2 => ("LispForge", "shelf", "LLispForge$Shelf;", true)
  | 3 => ("LispForge", "compiler", "LLispForge$Compiler;", true)
  | 4 => ("LispForge", "linker", "LLispForge$Linker;", true)
  | 5 => ("LispForge", "machine", "LLispForge$Machine;", true)
  | 6 => ("LispForge", "errorPosition", "I", false)
  | _ => ("LispForge", "linkFailure", "I", false)
def mm_T1 : u_T := fun k => match k with
  | 0 => ("LispForge$Bytes", "row", "[I", true)
  | _ => ("LispForge$Bytes", "length", "I", false)
def mm_T2 : u_T := fun k => match k with
  | 0 => ("LispForge$Compiler", "shelf", "LLispForge$Shelf;", true)
  | 1 => ("LispForge$Compiler", "code", "LLispForge$Bytes;", true)
  | 2 => ("LispForge$Compiler", "file", "LLispForge$Bytes;", true)
  | 3 => ("LispForge$Compiler", "fixPlaces", "[I", true)
  | 4 => ("LispForge$Compiler", "fixNames", "[I", true)
  | 5 => ("LispForge$Compiler", "fixCount", "I", false)
  | 6 => ("LispForge$Compiler", "boundNames", "[I", true)
  | 7 => ("LispForge$Compiler", "boundSlots", "[I", true)
  | 8 => ("LispForge$Compiler", "boundCount", "I", false)
  | 9 => ("LispForge$Compiler", "replacedCount", "I", false)
  | 10 => ("LispForge$Compiler", "seen", "LLispForge$Form;", false)
  | _ => ("LispForge$Compiler", "seenWithin", "LLispForge$Replacement;", false)
def mm_T3 : u_T := fun k => match k with
  | 0 => ("LispForge$Form", "kind", "I", false)
  | 1 => ("LispForge$Form", "value", "I", false)
  | 2 => ("LispForge$Form", "size", "I", false)
  | 3 => ("LispForge$Form", "first", "LLispForge$Form;", false)
  | 4 => ("LispForge$Form", "last", "LLispForge$Form;", false)
  | _ => ("LispForge$Form", "next", "LLispForge$Form;", false)
def mm_T4 : u_T := fun k => match k with
  | 0 => ("LispForge$Linker", "shelf", "LLispForge$Shelf;", true)
  | 1 => ("LispForge$Linker", "order", "[LLispForge$Unit;", true)
  | 2 => ("LispForge$Linker", "beginnings", "[I", true)
  | 3 => ("LispForge$Linker", "count", "I", false)
  | _ => ("LispForge$Linker", "length", "I", false)
def mm_T5 : u_T := fun k => match k with
  | 0 => ("LispForge$Machine", "program", "LLispForge$Bytes;", true)
  | 1 => ("LispForge$Machine", "numbers", "[I", true)
  | 2 => ("LispForge$Machine", "size", "I", false)
  | 3 => ("LispForge$Machine", "callerFrames", "[I", true)
  | 4 => ("LispForge$Machine", "callerPlaces", "[I", true)
  | 5 => ("LispForge$Machine", "calls", "I", false)
  | 6 => ("LispForge$Machine", "state", "I", false)
  | 7 => ("LispForge$Machine", "place", "I", false)
  | 8 => ("LispForge$Machine", "frame", "I", false)
  | _ => ("LispForge$Machine", "steps", "I", false)
def mm_T6 : u_T := fun k => match k with
  | 0 => ("LispForge$Reader", "open", "[LLispForge$Form;", true)
  | 1 => ("LispForge$Reader", "depth", "I", false)
  | 2 => ("LispForge$Reader", "whole", "LLispForge$Form;", false)
  | 3 => ("LispForge$Reader", "atom", "LLispForge$Form;", false)
  | 4 => ("LispForge$Reader", "atomLength", "I", false)
  | 5 => ("LispForge$Reader", "isNegative", "Z", false)
  | _ => ("LispForge$Reader", "errorPosition", "I", false)
def mm_T7 : u_T := fun k => match k with
  | 0 => ("LispForge$Replacement", "macro", "LLispForge$Unit;", true)
  | 1 => ("LispForge$Replacement", "firstArgument", "LLispForge$Form;", true)
  | _ => ("LispForge$Replacement", "around", "LLispForge$Replacement;", true)
def mm_T8 : u_T := fun k => match k with
  | 0 => ("LispForge$Shelf", "units", "[LLispForge$Unit;", true)
  | _ => ("LispForge$Shelf", "count", "I", false)
def mm_T9 : u_T := fun k => match k with
  | 0 => ("LispForge$Unit", "kind", "I", true)
  | 1 => ("LispForge$Unit", "name", "I", true)
  | 2 => ("LispForge$Unit", "parameters", "[I", true)
  | 3 => ("LispForge$Unit", "body", "LLispForge$Form;", true)
  | 4 => ("LispForge$Unit", "code", "LLispForge$Bytes;", false)
  | 5 => ("LispForge$Unit", "file", "LLispForge$Bytes;", false)
  | 6 => ("LispForge$Unit", "fixPlaces", "[I", false)
  | _ => ("LispForge$Unit", "fixNames", "[I", false)
def mm_T10 : u_T := fun k => match k with
  | 0 => ("LispForgeModel", "thrown", "I", false)
  | 1 => ("LispForgeModel", "typed", "I", false)
  | 2 => ("LispForgeModel", "units", "I", false)
  | 3 => ("LispForgeModel", "position", "I", false)
  | 4 => ("LispForgeModel", "failure", "I", false)
  | 5 => ("LispForgeModel", "text", "[C", true)
  | 6 => ("LispForgeModel", "sort", "[I", true)
  | 7 => ("LispForgeModel", "named", "[I", true)
  | 8 => ("LispForgeModel", "parameters", "[I", true)
  | 9 => ("LispForgeModel", "sizes", "[I", true)
  | 10 => ("LispForgeModel", "codes", "[B", true)
  | 11 => ("LispForgeModel", "fixes", "[I", true)
  | 12 => ("LispForgeModel", "fixAt", "[I", true)
  | 13 => ("LispForgeModel", "fixName", "[I", true)
  | 14 => ("LispForgeModel", "wanted", "[I", true)
  | 15 => ("LispForgeModel", "kept", "[C", true)
  | 16 => ("LispForgeModel", "long0", "[I", true)
  | 17 => ("LispForgeModel", "forms", "I", false)
  | 18 => ("LispForgeModel", "cells", "I", false)
  | 19 => ("LispForgeModel", "kind", "[I", true)
  | 20 => ("LispForgeModel", "value", "[I", true)
  | 21 => ("LispForgeModel", "held", "[I", true)
  | 22 => ("LispForgeModel", "next", "[I", true)
  | 23 => ("LispForgeModel", "p", "I", false)
  | 24 => ("LispForgeModel", "wrong", "I", false)
  | 25 => ("LispForgeModel", "open", "I", false)
  | 26 => ("LispForgeModel", "list", "[I", true)
  | 27 => ("LispForgeModel", "lastCell", "[I", true)
  | 28 => ("LispForgeModel", "bad", "Z", false)
  | 29 => ("LispForgeModel", "tasks", "I", false)
  | 30 => ("LispForgeModel", "size", "I", false)
  | 31 => ("LispForgeModel", "deep", "I", false)
  | 32 => ("LispForgeModel", "names", "I", false)
  | 33 => ("LispForgeModel", "replaced", "I", false)
  | 34 => ("LispForgeModel", "marks", "I", false)
  | 35 => ("LispForgeModel", "task", "[I", true)
  | 36 => ("LispForgeModel", "first", "[I", true)
  | 37 => ("LispForgeModel", "second", "[I", true)
  | 38 => ("LispForgeModel", "code", "[B", true)
  | 39 => ("LispForgeModel", "symbol", "[I", true)
  | 40 => ("LispForgeModel", "slot", "[I", true)
  | 41 => ("LispForgeModel", "markAt", "[I", true)
  | 42 => ("LispForgeModel", "markName", "[I", true)
  | 43 => ("LispForgeModel", "linked", "I", false)
  | 44 => ("LispForgeModel", "order", "[I", true)
  | 45 => ("LispForgeModel", "begins", "[I", true)
  | 46 => ("LispForgeModel", "imageSize", "I", false)
  | 47 => ("LispForgeModel", "image", "[B", true)
  | 48 => ("LispForgeModel", "state", "I", false)
  | 49 => ("LispForgeModel", "place", "I", false)
  | 50 => ("LispForgeModel", "frame", "I", false)
  | 51 => ("LispForgeModel", "top", "I", false)
  | 52 => ("LispForgeModel", "calls", "I", false)
  | 53 => ("LispForgeModel", "steps", "I", false)
  | 54 => ("LispForgeModel", "stack", "[I", true)
  | 55 => ("LispForgeModel", "callFrame", "[I", true)
  | _ => ("LispForgeModel", "callPlace", "[I", true)
def vwCl : List vw_C := [("LispForge", mm_T0, 8), ("LispForge$Bytes", mm_T1, 2), ("LispForge$Compiler", mm_T2, 12), ("LispForge$Form", mm_T3, 6), ("LispForge$Linker", mm_T4, 5), ("LispForge$Machine", mm_T5, 10), ("LispForge$Reader", mm_T6, 7), ("LispForge$Replacement", mm_T7, 3), ("LispForge$Shelf", mm_T8, 2), ("LispForge$Unit", mm_T9, 8), ("LispForgeModel", mm_T10, 57)]
def mm_K0 : List FieldType := [.object "LispForge$Bytes", .object "LispForge$Reader", .object "LispForge$Shelf", .object "LispForge$Compiler", .object "LispForge$Linker", .object "LispForge$Machine", .int, .int]
def mm_K1 : List FieldType := [.array (.int), .int]
def mm_K2 : List FieldType := [.object "LispForge$Shelf", .object "LispForge$Bytes", .object "LispForge$Bytes", .array (.int), .array (.int), .int, .array (.int), .array (.int), .int, .int, .object "LispForge$Form", .object "LispForge$Replacement"]
def mm_K3 : List FieldType := [.int, .int, .int, .object "LispForge$Form", .object "LispForge$Form", .object "LispForge$Form"]
def mm_K4 : List FieldType := [.object "LispForge$Shelf", .array (.object "LispForge$Unit"), .array (.int), .int, .int]
def mm_K5 : List FieldType := [.object "LispForge$Bytes", .array (.int), .int, .array (.int), .array (.int), .int, .int, .int, .int, .int]
def mm_K6 : List FieldType := [.array (.object "LispForge$Form"), .int, .object "LispForge$Form", .object "LispForge$Form", .int, .boolean, .int]
def mm_K7 : List FieldType := [.object "LispForge$Unit", .object "LispForge$Form", .object "LispForge$Replacement"]
def mm_K8 : List FieldType := [.array (.object "LispForge$Unit"), .int]
def mm_K9 : List FieldType := [.int, .int, .array (.int), .object "LispForge$Form", .object "LispForge$Bytes", .object "LispForge$Bytes", .array (.int), .array (.int)]
def mm_K10 : List FieldType := [.int, .int, .int, .int, .int, .array (.char), .array (.int), .array (.int), .array (.int), .array (.int), .array (.byte), .array (.int), .array (.int), .array (.int), .array (.int), .array (.char), .array (.int), .int, .int, .array (.int), .array (.int), .array (.int), .array (.int), .int, .int, .int, .array (.int), .array (.int), .boolean, .int, .int, .int, .int, .int, .int, .array (.int), .array (.int), .array (.int), .array (.byte), .array (.int), .array (.int), .array (.int), .array (.int), .int, .array (.int), .array (.int), .int, .array (.byte), .int, .int, .int, .int, .int, .int, .array (.int), .array (.int), .array (.int)]
def mm_K (ci : Nat) : List FieldType := match ci with
  | 0 => mm_K0
  | 1 => mm_K1
  | 2 => mm_K2
  | 3 => mm_K3
  | 4 => mm_K4
  | 5 => mm_K5
  | 6 => mm_K6
  | 7 => mm_K7
  | 8 => mm_K8
  | 9 => mm_K9
  | 10 => mm_K10
  | _ => []
/-- the classes of the arrays of references: their elements' class -/
def mm_el (j : Nat) : Nat := match j with
  | 0 => 3
  | _ => 9
def mm_tys (cT : Nat → ClassId) : List (ClassId × FieldType) := [(cT 0, .int), (cT 1, .byte), (cT 2, .char), (cT 3, .long), (cT 4, .object "LispForge$Form"), (cT 5, .object "LispForge$Unit")]
def mm_over : List String := ["LispForge$Form", "LispForge$Unit"]
def mm_ex (e : Nat) : String := match e with
  | 0 => "java/lang/IllegalArgumentException"
  | 1 => "java/lang/UnsupportedOperationException"
  | _ => "java/lang/IllegalStateException"
def mm_meths : List (MethodName × (ByteArray × (Nat × (Option FieldType × Nat)))) := [
  (⟨"LispForge", "<init>", "()V"⟩, prog_1_method_1_code, 1, none, 1),
  (⟨"LispForge$Bytes", "<init>", "(I)V"⟩, prog_2_method_1_code, 2, none, 2),
  (⟨"java/lang/Math", "max", "(II)I"⟩, prog_17_method_65_code, 2, (some .int), 2),
  (⟨"LispForge$Reader", "<init>", "()V"⟩, prog_7_method_1_code, 1, none, 1),
  (⟨"LispForge$Shelf", "<init>", "()V"⟩, prog_9_method_1_code, 1, none, 1),
  (⟨"LispForge$Compiler", "<init>", "(LLispForge$Shelf;)V"⟩, prog_3_method_1_code, 2, none, 2),
  (⟨"LispForge$Linker", "<init>", "(LLispForge$Shelf;)V"⟩, prog_5_method_1_code, 2, none, 2),
  (⟨"LispForge$Machine", "<init>", "()V"⟩, prog_6_method_1_code, 1, none, 1),
  (⟨"LispForge", "write", "(J)Z"⟩, prog_1_method_2_code, 6, (some .boolean), 2),
  (⟨"LispForge", "characterAt", "(JI)I"⟩, prog_1_method_15_code, 3, (some .int), 2),
  (⟨"LispForge$Bytes", "room", "()I"⟩, prog_2_method_3_code, 1, (some .int), 1),
  (⟨"LispForge$Bytes", "put", "(I)V"⟩, prog_2_method_5_code, 2, none, 2),
  (⟨"LispForge", "position", "()I"⟩, prog_1_method_4_code, 1, (some .int), 1),
  (⟨"LispForge", "object", "(II)I"⟩, prog_1_method_5_code, 4, (some .int), 3),
  (⟨"LispForge$Shelf", "unit", "(I)LLispForge$Unit;"⟩, prog_9_method_5_code, 2, (some (.object "LispForge$Unit")), 2),
  (⟨"LispForge$Bytes", "lengthOrByte", "(I)I"⟩, prog_2_method_12_code, 2, (some .int), 2),
  (⟨"LispForge$Bytes", "at", "(I)I"⟩, prog_2_method_10_code, 2, (some .int), 2),
  (⟨"LispForge", "clear", "()V"⟩, prog_1_method_6_code, 1, none, 1),
  (⟨"LispForge$Shelf", "empty", "()V"⟩, prog_9_method_4_code, 1, none, 1),
  (⟨"LispForge", "failure", "()I"⟩, prog_1_method_8_code, 1, (some .int), 1),
  (⟨"LispForge", "image", "(I)I"⟩, prog_1_method_9_code, 2, (some .int), 2),
  (⟨"LispForge", "restart", "()Z"⟩, prog_1_method_10_code, 1, (some .boolean), 1),
  (⟨"LispForge$Machine", "begin", "()V"⟩, prog_6_method_2_code, 1, none, 1),
  (⟨"LispForge", "about", "(I)I"⟩, prog_1_method_12_code, 2, (some .int), 2),
  (⟨"LispForge", "stack", "(I)I"⟩, prog_1_method_13_code, 2, (some .int), 2),
  (⟨"LispForge$Machine", "numberAt", "(I)I"⟩, prog_6_method_4_code, 2, (some .int), 2),
  (⟨"LispForge", "top", "()I"⟩, prog_1_method_14_code, 1, (some .int), 1),
  (⟨"LispForge", "compile", "()I"⟩, prog_1_method_3_code, 3, (some .int), 1),
  (⟨"LispForge$Reader", "read", "(LLispForge$Bytes;)LLispForge$Form;"⟩, prog_7_method_2_code, 3, (some (.object "LispForge$Form")), 2),
  (⟨"LispForge$Reader", "takes", "(I)Z"⟩, prog_7_method_3_code, 3, (some .boolean), 2),
  (⟨"LispForge$Reader", "lengthensAtom", "(I)Z"⟩, prog_7_method_4_code, 2, (some .boolean), 2),
  (⟨"LispForge$Reader", "isDigit", "(I)Z"⟩, prog_7_method_10_code, 1, (some .boolean), 1),
  (⟨"LispForge$Reader", "addsDigit", "(I)Z"⟩, prog_7_method_5_code, 2, (some .boolean), 2),
  (⟨"LispForge$Reader", "isLetter", "(I)Z"⟩, prog_7_method_11_code, 1, (some .boolean), 1),
  (⟨"LispForge$Form", "isSymbolOfLetters", "()Z"⟩, prog_4_method_2_code, 1, (some .boolean), 1),
  (⟨"LispForge", "isOfLetters", "(I)Z"⟩, prog_1_method_16_code, 1, (some .boolean), 1),
  (⟨"LispForge$Reader", "opensList", "()Z"⟩, prog_7_method_7_code, 2, (some .boolean), 1),
  (⟨"LispForge$Form", "<init>", "(II)V"⟩, prog_4_method_1_code, 3, none, 3),
  (⟨"LispForge$Reader", "adds", "(LLispForge$Form;)Z"⟩, prog_7_method_9_code, 3, (some .boolean), 2),
  (⟨"LispForge$Form", "append", "(LLispForge$Form;)V"⟩, prog_4_method_3_code, 2, none, 2),
  (⟨"LispForge$Reader", "closesList", "()Z"⟩, prog_7_method_8_code, 1, (some .boolean), 1),
  (⟨"LispForge$Reader", "beginsAtom", "(I)Z"⟩, prog_7_method_6_code, 3, (some .boolean), 2),
  (⟨"LispForge$Reader", "isSign", "(I)Z"⟩, prog_7_method_12_code, 1, (some .boolean), 1),
  (⟨"LispForge$Bytes", "empty", "()V"⟩, prog_2_method_4_code, 1, none, 1),
  (⟨"LispForge$Compiler", "unitOf", "(LLispForge$Form;)LLispForge$Unit;"⟩, prog_3_method_2_code, 3, (some (.object "LispForge$Unit")), 2),
  (⟨"LispForge$Form", "part", "(I)LLispForge$Form;"⟩, prog_4_method_4_code, 4, (some (.object "LispForge$Form")), 2),
  (⟨"LispForge$Compiler", "definitionOf", "(LLispForge$Form;I)LLispForge$Unit;"⟩, prog_3_method_3_code, 6, (some (.object "LispForge$Unit")), 3),
  (⟨"LispForge$Compiler", "isWord", "(I)Z"⟩, prog_3_method_4_code, 1, (some .boolean), 1),
  (⟨"LispForge$Compiler", "areParameters", "(LLispForge$Form;)Z"⟩, prog_3_method_5_code, 2, (some .boolean), 1),
  (⟨"LispForge$Compiler", "isRepeatedBehind", "(LLispForge$Form;)Z"⟩, prog_3_method_6_code, 2, (some .boolean), 1),
  (⟨"LispForge$Compiler", "symbolsOf", "(LLispForge$Form;)[I"⟩, prog_3_method_7_code, 4, (some (.array .int)), 1),
  (⟨"LispForge$Unit", "<init>", "(II[ILLispForge$Form;)V"⟩, prog_10_method_1_code, 5, none, 5),
  (⟨"LispForge$Compiler", "complete", "(LLispForge$Unit;)V"⟩, prog_3_method_8_code, 4, none, 2),
  (⟨"LispForge$Compiler", "bind", "(II)V"⟩, prog_3_method_23_code, 3, none, 3),
  (⟨"LispForge$Compiler", "translate", "(LLispForge$Form;LLispForge$Replacement;II)V"⟩, prog_3_method_10_code, 8, none, 5),
  (⟨"LispForge$Compiler", "settle", "(LLispForge$Form;LLispForge$Replacement;)V"⟩, prog_3_method_27_code, 7, none, 3),
  (⟨"LispForge$Compiler", "follow", "(LLispForge$Form;LLispForge$Replacement;)V"⟩, prog_3_method_28_code, 5, none, 3),
  (⟨"LispForge$Replacement", "argumentFor", "(I)LLispForge$Form;"⟩, prog_8_method_2_code, 4, (some (.object "LispForge$Form")), 2),
  (⟨"LispForge$Compiler", "macroSeen", "()LLispForge$Unit;"⟩, prog_3_method_29_code, 1, (some (.object "LispForge$Unit")), 1),
  (⟨"LispForge$Shelf", "latest", "(II)LLispForge$Unit;"⟩, prog_9_method_6_code, 5, (some (.object "LispForge$Unit")), 3),
  (⟨"LispForge$Compiler", "replacementBy", "(LLispForge$Unit;LLispForge$Form;LLispForge$Replacement;)LLispForge$Replacement;"⟩, prog_3_method_30_code, 4, (some (.object "LispForge$Replacement")), 4),
  (⟨"LispForge$Compiler", "requireSize", "(LLispForge$Form;I)V"⟩, prog_3_method_25_code, 2, none, 2),
  (⟨"LispForge$Replacement", "<init>", "(LLispForge$Unit;LLispForge$Form;LLispForge$Replacement;)V"⟩, prog_8_method_1_code, 4, none, 4),
  (⟨"LispForge$Compiler", "putNumber", "(I)V"⟩, prog_3_method_19_code, 2, none, 2),
  (⟨"LispForge$Compiler", "emit", "(I)V"⟩, prog_3_method_21_code, 2, none, 2),
  (⟨"LispForge$Compiler", "slotOf", "(I)I"⟩, prog_3_method_24_code, 3, (some .int), 2),
  (⟨"LispForge$Compiler", "symbolSeen", "()I"⟩, prog_3_method_26_code, 1, (some .int), 1),
  (⟨"LispForge$Compiler", "operationOf", "(I)I"⟩, prog_3_method_11_code, 1, (some .int), 1),
  (⟨"LispForge$Compiler", "putPair", "(LLispForge$Form;LLispForge$Replacement;III)V"⟩, prog_3_method_12_code, 6, none, 6),
  (⟨"LispForge$Compiler", "putIf", "(LLispForge$Form;LLispForge$Replacement;II)V"⟩, prog_3_method_13_code, 7, none, 5),
  (⟨"LispForge$Compiler", "putJump", "(I)I"⟩, prog_3_method_20_code, 2, (some .int), 2),
  (⟨"LispForge$Bytes", "setTwo", "(II)V"⟩, prog_2_method_9_code, 3, none, 3),
  (⟨"LispForge$Compiler", "putLet", "(LLispForge$Form;LLispForge$Replacement;II)V"⟩, prog_3_method_14_code, 6, none, 5),
  (⟨"LispForge$Compiler", "putDo", "(LLispForge$Form;LLispForge$Replacement;II)V"⟩, prog_3_method_15_code, 6, none, 5),
  (⟨"LispForge$Compiler", "putSet", "(LLispForge$Form;LLispForge$Replacement;II)V"⟩, prog_3_method_16_code, 6, none, 5),
  (⟨"LispForge$Compiler", "putRun", "(LLispForge$Form;LLispForge$Replacement;II)V"⟩, prog_3_method_17_code, 8, none, 5),
  (⟨"LispForge$Compiler", "putCall", "(ILLispForge$Form;LLispForge$Replacement;II)V"⟩, prog_3_method_18_code, 8, none, 6),
  (⟨"LispForge$Compiler", "addFix", "(II)V"⟩, prog_3_method_22_code, 3, none, 3),
  (⟨"LispForge$Bytes", "copy", "()LLispForge$Bytes;"⟩, prog_2_method_2_code, 2, (some (.object "LispForge$Bytes")), 1),
  (⟨"LispForge$Bytes", "putAll", "(LLispForge$Bytes;)V"⟩, prog_2_method_8_code, 3, none, 2),
  (⟨"java/util/Arrays", "copyOf", "([II)[I"⟩, prog_23_method_123_code, 3, (some (.array .int)), 2),
  (⟨"java/lang/Math", "min", "(II)I"⟩, prog_17_method_69_code, 2, (some .int), 2),
  (⟨"LispForge$Compiler", "fileOf", "(LLispForge$Unit;)LLispForge$Bytes;"⟩, prog_3_method_9_code, 3, (some (.object "LispForge$Bytes")), 2),
  (⟨"LispForge$Bytes", "putName", "(I)V"⟩, prog_2_method_7_code, 4, none, 2),
  (⟨"LispForge$Bytes", "putTwo", "(I)V"⟩, prog_2_method_6_code, 2, none, 2),
  (⟨"LispForge$Shelf", "isFull", "()Z"⟩, prog_9_method_2_code, 1, (some .boolean), 1),
  (⟨"LispForge$Shelf", "put", "(LLispForge$Unit;)I"⟩, prog_9_method_3_code, 2, (some .int), 2),
  (⟨"LispForge", "link", "()I"⟩, prog_1_method_7_code, 1, (some .int), 1),
  (⟨"LispForge$Linker", "gather", "()I"⟩, prog_5_method_2_code, 4, (some .int), 1),
  (⟨"LispForge$Linker", "add", "(LLispForge$Unit;)V"⟩, prog_5_method_4_code, 2, none, 2),
  (⟨"LispForge$Linker", "gatherCalledBy", "(LLispForge$Unit;)I"⟩, prog_5_method_3_code, 4, (some .int), 2),
  (⟨"LispForge$Linker", "beginningOf", "(LLispForge$Unit;)I"⟩, prog_5_method_5_code, 3, (some .int), 2),
  (⟨"LispForge$Linker", "fill", "(LLispForge$Bytes;)V"⟩, prog_5_method_6_code, 3, none, 2),
  (⟨"LispForge$Linker", "moveJumps", "(LLispForge$Bytes;LLispForge$Bytes;I)V"⟩, prog_5_method_7_code, 6, none, 4),
  (⟨"LispForge$Bytes", "twoAt", "(I)I"⟩, prog_2_method_11_code, 2, (some .int), 2),
  (⟨"LispForge$Linker", "lengthOf", "(I)I"⟩, prog_5_method_8_code, 1, (some .int), 1),
  (⟨"LispForge$Linker", "setCalls", "(LLispForge$Unit;LLispForge$Bytes;I)V"⟩, prog_5_method_9_code, 6, none, 4),
  (⟨"LispForge", "run", "(I)I"⟩, prog_1_method_11_code, 2, (some .int), 2),
  (⟨"LispForge$Machine", "makeSteps", "(I)I"⟩, prog_6_method_3_code, 3, (some .int), 2),
  (⟨"LispForge$Machine", "makeStep", "()V"⟩, prog_6_method_5_code, 2, none, 1),
  (⟨"LispForge$Machine", "hasNoRoomFor", "(I)Z"⟩, prog_6_method_6_code, 2, (some .boolean), 2),
  (⟨"LispForge$Machine", "put", "(I)V"⟩, prog_6_method_7_code, 2, none, 2),
  (⟨"LispForge$Machine", "joinTwo", "(I)V"⟩, prog_6_method_9_code, 4, none, 2),
  (⟨"LispForge$Machine", "takeOff", "()I"⟩, prog_6_method_8_code, 2, (some .int), 1),
  (⟨"LispForge$Machine", "takeOutBelow", "()V"⟩, prog_6_method_10_code, 2, none, 1),
  (⟨"LispForge$Machine", "store", "(I)V"⟩, prog_6_method_11_code, 2, none, 2),
  (⟨"LispForge$Machine", "enter", "()V"⟩, prog_6_method_12_code, 1, none, 1),
  (⟨"LispForge$Machine", "leave", "()V"⟩, prog_6_method_13_code, 2, none, 1),
  (⟨"LispForgeModel", "<init>", "()V"⟩, prog_12_method_1_code, 1, none, 1),
  (⟨"LispForgeModel", "thrown", "()I"⟩, prog_12_method_2_code, 1, (some .int), 1),
  (⟨"LispForgeModel", "write", "(J)Z"⟩, prog_12_method_3_code, 7, (some .boolean), 2),
  (⟨"LispForgeModel", "compile", "()I"⟩, prog_12_method_35_code, 7, (some .int), 1),
  (⟨"LispForgeModel", "read", "(III)I"⟩, prog_12_method_12_code, 10, (some .int), 4),
  (⟨"LispForgeModel", "at", "(II)I"⟩, prog_12_method_4_code, 3, (some .int), 3),
  (⟨"LispForgeModel", "isDigit", "(I)Z"⟩, prog_12_method_5_code, 1, (some .boolean), 1),
  (⟨"LispForgeModel", "isLetter", "(I)Z"⟩, prog_12_method_6_code, 1, (some .boolean), 1),
  (⟨"LispForgeModel", "isSign", "(I)Z"⟩, prog_12_method_7_code, 1, (some .boolean), 1),
  (⟨"LispForgeModel", "form", "(II)I"⟩, prog_12_method_8_code, 3, (some .int), 3),
  (⟨"LispForgeModel", "joins", "(I)V"⟩, prog_12_method_9_code, 2, none, 2),
  (⟨"LispForgeModel", "number", "(I)I"⟩, prog_12_method_10_code, 5, (some .int), 2),
  (⟨"LispForgeModel", "symbolForm", "(II)I"⟩, prog_12_method_11_code, 6, (some .int), 3),
  (⟨"LispForgeModel", "head", "(I)I"⟩, prog_12_method_18_code, 3, (some .int), 2),
  (⟨"LispForgeModel", "count", "(I)I"⟩, prog_12_method_13_code, 4, (some .int), 2),
  (⟨"LispForgeModel", "part", "(II)I"⟩, prog_12_method_14_code, 5, (some .int), 3),
  (⟨"LispForgeModel", "word", "(III)I"⟩, prog_12_method_16_code, 3, (some .int), 3),
  (⟨"LispForgeModel", "isSymbol", "(I)Z"⟩, prog_12_method_15_code, 2, (some .boolean), 2),
  (⟨"LispForgeModel", "isWord", "(I)Z"⟩, prog_12_method_17_code, 1, (some .boolean), 1),
  (⟨"LispForgeModel", "parametersOf", "(I)I"⟩, prog_12_method_32_code, 6, (some .int), 2),
  (⟨"LispForgeModel", "know", "(II)V"⟩, prog_12_method_24_code, 3, none, 3),
  (⟨"LispForgeModel", "body", "(III)V"⟩, prog_12_method_31_code, 4, none, 4),
  (⟨"LispForgeModel", "push", "(III)V"⟩, prog_12_method_23_code, 4, none, 4),
  (⟨"LispForgeModel", "perform", "(III)V"⟩, prog_12_method_30_code, 4, none, 4),
  (⟨"LispForgeModel", "listed", "(I)V"⟩, prog_12_method_29_code, 6, none, 2),
  (⟨"LispForgeModel", "macro", "(I)I"⟩, prog_12_method_19_code, 3, (some .int), 2),
  (⟨"LispForgeModel", "replace", "(III)V"⟩, prog_12_method_28_code, 4, none, 4),
  (⟨"LispForgeModel", "sign", "(I)I"⟩, prog_12_method_27_code, 1, (some .int), 1),
  (⟨"LispForgeModel", "atom", "(I)V"⟩, prog_12_method_26_code, 3, none, 2),
  (⟨"LispForgeModel", "emit", "(I)V"⟩, prog_12_method_20_code, 2, none, 2),
  (⟨"LispForgeModel", "emitPlace", "(I)V"⟩, prog_12_method_21_code, 2, none, 2),
  (⟨"LispForgeModel", "slotOf", "(I)I"⟩, prog_12_method_25_code, 3, (some .int), 2),
  (⟨"LispForgeModel", "aim", "(I)V"⟩, prog_12_method_22_code, 2, none, 2),
  (⟨"LispForgeModel", "fourth", "()I"⟩, prog_12_method_34_code, 8, (some .int), 1),
  (⟨"LispForgeModel", "keep", "(IIII)I"⟩, prog_12_method_33_code, 7, (some .int), 5),
  (⟨"LispForgeModel", "position", "()I"⟩, prog_12_method_36_code, 1, (some .int), 1),
  (⟨"LispForgeModel", "object", "(II)I"⟩, prog_12_method_39_code, 11, (some .int), 3),
  (⟨"LispForgeModel", "letters", "(I)I"⟩, prog_12_method_37_code, 1, (some .int), 1),
  (⟨"LispForgeModel", "nameByte", "(II)I"⟩, prog_12_method_38_code, 3, (some .int), 2),
  (⟨"LispForgeModel", "clear", "()V"⟩, prog_12_method_40_code, 1, none, 1),
  (⟨"LispForgeModel", "link", "()I"⟩, prog_12_method_47_code, 4, (some .int), 1),
  (⟨"LispForgeModel", "latest", "(II)I"⟩, prog_12_method_41_code, 4, (some .int), 3),
  (⟨"LispForgeModel", "meet", "(I)I"⟩, prog_12_method_43_code, 4, (some .int), 2),
  (⟨"LispForgeModel", "stands", "(I)I"⟩, prog_12_method_42_code, 3, (some .int), 2),
  (⟨"LispForgeModel", "copy", "(II)V"⟩, prog_12_method_46_code, 5, none, 3),
  (⟨"LispForgeModel", "putPlace", "(II)V"⟩, prog_12_method_45_code, 3, none, 3),
  (⟨"LispForgeModel", "wide", "(I)I"⟩, prog_12_method_44_code, 1, (some .int), 1),
  (⟨"LispForgeModel", "begin", "()V"⟩, prog_12_method_50_code, 1, none, 1),
  (⟨"LispForgeModel", "failure", "()I"⟩, prog_12_method_48_code, 1, (some .int), 1),
  (⟨"LispForgeModel", "image", "(I)I"⟩, prog_12_method_49_code, 2, (some .int), 2),
  (⟨"LispForgeModel", "restart", "()Z"⟩, prog_12_method_51_code, 1, (some .boolean), 1),
  (⟨"LispForgeModel", "run", "(I)I"⟩, prog_12_method_56_code, 3, (some .int), 2),
  (⟨"LispForgeModel", "step", "()V"⟩, prog_12_method_55_code, 4, none, 1),
  (⟨"LispForgeModel", "placeAt", "(I)I"⟩, prog_12_method_52_code, 2, (some .int), 2),
  (⟨"LispForgeModel", "put", "(I)V"⟩, prog_12_method_53_code, 2, none, 2),
  (⟨"LispForgeModel", "work", "(I)V"⟩, prog_12_method_54_code, 4, none, 2),
  (⟨"LispForgeModel", "about", "(I)I"⟩, prog_12_method_57_code, 2, (some .int), 2),
  (⟨"LispForgeModel", "stack", "(I)I"⟩, prog_12_method_58_code, 2, (some .int), 2),
  (⟨"LispForgeModel", "top", "()I"⟩, prog_12_method_59_code, 1, (some .int), 1),
  (⟨"LispForgeLaw", "law", "([I)Z"⟩, code, 7, (some .boolean), 1),
  (⟨"LispForgeLaw", "compile", "(LLispForge;[J)I"⟩, method_3_code, 3, (some .int), 2),
  (⟨"LispForgeLaw", "link", "(LLispForge;[J)I"⟩, method_4_code, 3, (some .int), 2),
  (⟨"LispForgeLaw", "run", "(LLispForge;I[J)I"⟩, method_5_code, 4, (some .int), 3)]
def mm_mt (mi : Nat) : MethodName × (ByteArray × (Nat × (Option FieldType × Nat))) := mm_meths.getD mi (⟨"", "", ""⟩, ⟨#[]⟩, 0, none, 0)
def mm_hdl : List (Nat × List (Nat × Nat × Nat × Nat)) := [(168, [(0, 8, 11, 13), (0, 8, 14, 15), (0, 8, 17, 17)]), (169, [(0, 8, 11, 17)]), (170, [(0, 9, 12, 13)])]
/-- a method's handlers: from, to, handler, class -/
def mm_hd (mi : Nat) : List (Nat × Nat × Nat × Nat) := (mm_hdl.lookup mi).getD []
def mm_et (x : ExceptionTableEntry) : Nat × Nat × Nat × Nat := (x.startPc, x.endPc, x.handlerPc, x.catchType)
def mm_nm (mi : Nat) : MethodName := (mm_mt mi).1
def mm_cd (mi : Nat) : ByteArray := (mm_mt mi).2.1
def mm_ml (mi : Nat) : Nat := (mm_mt mi).2.2.1
def mm_rt (mi : Nat) : Option FieldType := (mm_mt mi).2.2.2.1
def mm_na (mi : Nat) : Nat := (mm_mt mi).2.2.2.2
/-- words that go with the tables from frame to frame -/
def mm_gd (w : Cond) : Bool := match w with
  | .fieldLinkNest _ _ _ _ _ _ => true
  | .methodLinkNest _ _ _ _ => true
  | .castable _ _ => true
  | .declares _ => true
  | .stringRef _ _ _ => true
  | w => goodWord w
theorem mm_gd_warm {s U : State} {w : Cond} {a a' : Array Value} (hW : s.WarmedH U.vm) (hg : mm_gd w = true) (h : w.before a s = true) : w.before a' U = true := by
  unfold mm_gd at hg
  split at hg
  · exact va_Nw.use rfl (va_Nw.warmF hW (va_Nw.of rfl h))
  · exact va_Nw.use rfl (va_Nw.warmM hW (va_Nw.of rfl h))
  · exact va_Nw.use rfl (va_Nw.warmC hW (va_Nw.of rfl h))
  · exact va_Nw.use rfl (va_Nw.warmD hW (va_Nw.of rfl h))
  · rename_i own k tx
    have h1 := Cond.stringRef_warmed hW h
    first
      | exact h1
      | (simp only [Cond.before, Cond.holds, Cond.value, State.names, State.poolOf?, State.resolvedAt?] at h1 ⊢; exact h1)
  · exact word_at hW (good_of_word hg) h
theorem mm_gd_args {s : State} {w : Cond} {a a' : Array Value} (hg : mm_gd w = true) (h : w.before a s = true) : w.before a' s = true := mm_gd_warm (State.WarmedH.refl s) hg h
theorem mm_in0 : ∀ w ∈ u_ws "LispForge" mm_T0 8, w ∈ lw_tbl := by decide +kernel
theorem mm_ty0 : ∀ k, k < 8 → parseFieldDescriptor (mm_T0 k).2.2.1 = some (mm_K0.getD k .int) := by decide +kernel
theorem mm_nn0 : ∀ a, a < 8 → ∀ b, b < 8 → a ≠ b → (mm_T0 a).2.1 ≠ (mm_T0 b).2.1 := by decide +kernel
theorem mm_cc0 : ∀ k, k < 8 → (mm_T0 k).1 = "LispForge" := by decide +kernel
theorem mm_in1 : ∀ w ∈ u_ws "LispForge$Bytes" mm_T1 2, w ∈ lw_tbl := by decide +kernel
theorem mm_ty1 : ∀ k, k < 2 → parseFieldDescriptor (mm_T1 k).2.2.1 = some (mm_K1.getD k .int) := by decide +kernel
theorem mm_nn1 : ∀ a, a < 2 → ∀ b, b < 2 → a ≠ b → (mm_T1 a).2.1 ≠ (mm_T1 b).2.1 := by decide +kernel
theorem mm_cc1 : ∀ k, k < 2 → (mm_T1 k).1 = "LispForge$Bytes" := by decide +kernel
theorem mm_in2 : ∀ w ∈ u_ws "LispForge$Compiler" mm_T2 12, w ∈ lw_tbl := by decide +kernel
theorem mm_ty2 : ∀ k, k < 12 → parseFieldDescriptor (mm_T2 k).2.2.1 = some (mm_K2.getD k .int) := by decide +kernel
theorem mm_nn2 : ∀ a, a < 12 → ∀ b, b < 12 → a ≠ b → (mm_T2 a).2.1 ≠ (mm_T2 b).2.1 := by decide +kernel
theorem mm_cc2 : ∀ k, k < 12 → (mm_T2 k).1 = "LispForge$Compiler" := by decide +kernel
theorem mm_in3 : ∀ w ∈ u_ws "LispForge$Form" mm_T3 6, w ∈ lw_tbl := by decide +kernel
theorem mm_ty3 : ∀ k, k < 6 → parseFieldDescriptor (mm_T3 k).2.2.1 = some (mm_K3.getD k .int) := by decide +kernel
theorem mm_nn3 : ∀ a, a < 6 → ∀ b, b < 6 → a ≠ b → (mm_T3 a).2.1 ≠ (mm_T3 b).2.1 := by decide +kernel
theorem mm_cc3 : ∀ k, k < 6 → (mm_T3 k).1 = "LispForge$Form" := by decide +kernel
theorem mm_in4 : ∀ w ∈ u_ws "LispForge$Linker" mm_T4 5, w ∈ lw_tbl := by decide +kernel
theorem mm_ty4 : ∀ k, k < 5 → parseFieldDescriptor (mm_T4 k).2.2.1 = some (mm_K4.getD k .int) := by decide +kernel
theorem mm_nn4 : ∀ a, a < 5 → ∀ b, b < 5 → a ≠ b → (mm_T4 a).2.1 ≠ (mm_T4 b).2.1 := by decide +kernel
theorem mm_cc4 : ∀ k, k < 5 → (mm_T4 k).1 = "LispForge$Linker" := by decide +kernel
theorem mm_in5 : ∀ w ∈ u_ws "LispForge$Machine" mm_T5 10, w ∈ lw_tbl := by decide +kernel
theorem mm_ty5 : ∀ k, k < 10 → parseFieldDescriptor (mm_T5 k).2.2.1 = some (mm_K5.getD k .int) := by decide +kernel
theorem mm_nn5 : ∀ a, a < 10 → ∀ b, b < 10 → a ≠ b → (mm_T5 a).2.1 ≠ (mm_T5 b).2.1 := by decide +kernel
theorem mm_cc5 : ∀ k, k < 10 → (mm_T5 k).1 = "LispForge$Machine" := by decide +kernel
theorem mm_in6 : ∀ w ∈ u_ws "LispForge$Reader" mm_T6 7, w ∈ lw_tbl := by decide +kernel
theorem mm_ty6 : ∀ k, k < 7 → parseFieldDescriptor (mm_T6 k).2.2.1 = some (mm_K6.getD k .int) := by decide +kernel
theorem mm_nn6 : ∀ a, a < 7 → ∀ b, b < 7 → a ≠ b → (mm_T6 a).2.1 ≠ (mm_T6 b).2.1 := by decide +kernel
theorem mm_cc6 : ∀ k, k < 7 → (mm_T6 k).1 = "LispForge$Reader" := by decide +kernel
theorem mm_in7 : ∀ w ∈ u_ws "LispForge$Replacement" mm_T7 3, w ∈ lw_tbl := by decide +kernel
theorem mm_ty7 : ∀ k, k < 3 → parseFieldDescriptor (mm_T7 k).2.2.1 = some (mm_K7.getD k .int) := by decide +kernel
theorem mm_nn7 : ∀ a, a < 3 → ∀ b, b < 3 → a ≠ b → (mm_T7 a).2.1 ≠ (mm_T7 b).2.1 := by decide +kernel
theorem mm_cc7 : ∀ k, k < 3 → (mm_T7 k).1 = "LispForge$Replacement" := by decide +kernel
theorem mm_in8 : ∀ w ∈ u_ws "LispForge$Shelf" mm_T8 2, w ∈ lw_tbl := by decide +kernel
theorem mm_ty8 : ∀ k, k < 2 → parseFieldDescriptor (mm_T8 k).2.2.1 = some (mm_K8.getD k .int) := by decide +kernel
theorem mm_nn8 : ∀ a, a < 2 → ∀ b, b < 2 → a ≠ b → (mm_T8 a).2.1 ≠ (mm_T8 b).2.1 := by decide +kernel
theorem mm_cc8 : ∀ k, k < 2 → (mm_T8 k).1 = "LispForge$Shelf" := by decide +kernel
theorem mm_in9 : ∀ w ∈ u_ws "LispForge$Unit" mm_T9 8, w ∈ lw_tbl := by decide +kernel
theorem mm_ty9 : ∀ k, k < 8 → parseFieldDescriptor (mm_T9 k).2.2.1 = some (mm_K9.getD k .int) := by decide +kernel
theorem mm_nn9 : ∀ a, a < 8 → ∀ b, b < 8 → a ≠ b → (mm_T9 a).2.1 ≠ (mm_T9 b).2.1 := by decide +kernel
theorem mm_cc9 : ∀ k, k < 8 → (mm_T9 k).1 = "LispForge$Unit" := by decide +kernel
theorem mm_in10 : ∀ w ∈ u_ws "LispForgeModel" mm_T10 57, w ∈ lw_tbl := by decide +kernel
theorem mm_ty10 : ∀ k, k < 57 → parseFieldDescriptor (mm_T10 k).2.2.1 = some (mm_K10.getD k .int) := by decide +kernel
theorem mm_nn10 : ∀ a, a < 57 → ∀ b, b < 57 → a ≠ b → (mm_T10 a).2.1 ≠ (mm_T10 b).2.1 := by decide +kernel
theorem mm_cc10 : ∀ k, k < 57 → (mm_T10 k).1 = "LispForgeModel" := by decide +kernel
def mm_clsOk (ci : Nat) (q : vw_C) : Prop := (∀ w ∈ u_ws q.1 q.2.1 q.2.2, w ∈ lw_tbl) ∧ (∀ k, k < q.2.2 → parseFieldDescriptor (q.2.1 k).2.2.1 = some ((mm_K ci).getD k .int)) ∧ (∀ a, a < q.2.2 → ∀ b, b < q.2.2 → a ≠ b → (q.2.1 a).2.1 ≠ (q.2.1 b).2.1) ∧ (mm_K ci).length = q.2.2 ∧ ∀ k, k < q.2.2 → (q.2.1 k).1 = q.1
theorem mm_cls_ok {ci : Nat} {q : vw_C} (h : vwCl[ci]? = some q) : mm_clsOk ci q := by
  match ci, h with
  | 0, h => cases h; exact ⟨mm_in0, mm_ty0, mm_nn0, rfl, mm_cc0⟩
  | 1, h => cases h; exact ⟨mm_in1, mm_ty1, mm_nn1, rfl, mm_cc1⟩
  | 2, h => cases h; exact ⟨mm_in2, mm_ty2, mm_nn2, rfl, mm_cc2⟩
  | 3, h => cases h; exact ⟨mm_in3, mm_ty3, mm_nn3, rfl, mm_cc3⟩
  | 4, h => cases h; exact ⟨mm_in4, mm_ty4, mm_nn4, rfl, mm_cc4⟩
  | 5, h => cases h; exact ⟨mm_in5, mm_ty5, mm_nn5, rfl, mm_cc5⟩
  | 6, h => cases h; exact ⟨mm_in6, mm_ty6, mm_nn6, rfl, mm_cc6⟩
  | 7, h => cases h; exact ⟨mm_in7, mm_ty7, mm_nn7, rfl, mm_cc7⟩
  | 8, h => cases h; exact ⟨mm_in8, mm_ty8, mm_nn8, rfl, mm_cc8⟩
  | 9, h => cases h; exact ⟨mm_in9, mm_ty9, mm_nn9, rfl, mm_cc9⟩
  | 10, h => cases h; exact ⟨mm_in10, mm_ty10, mm_nn10, rfl, mm_cc10⟩
  | n + 11, h => simp [vwCl] at h
end
section
/-! THE SMALL MACHINE: what one side's methods (the class's, or the reference's) do, said over a row of cells that is this side's own.
A value: an int, a long, null or the place of a cell, or one of the constant arrays of the tables. A cell: an object (class number, fields), an array of ints, bytes or chars (0, 1, 2), a long array, an array of references.
A heap: the cells, and what is left of the claim's cells and slots. An answer: returned (a value or none), or thrown (the exception's number).
The steps are written with the constructors of Instr, their numbers resolved (mm_s1, mm_wp say which): jumps bear the place itself, fields (class, field), calls the method's number. -/
abbrev mm_V : Type := Int32 ⊕ (Int64 ⊕ (Option Nat ⊕ Nat))
abbrev mm_O : Type := (Nat × List mm_V) ⊕ ((Nat × List Int32) ⊕ (List Int64 ⊕ (Nat × List (Option Nat))))
abbrev mm_H : Type := List mm_O × (Nat × Nat)
abbrev mm_A : Type := Option mm_V ⊕ Nat
abbrev mm_L : Type := List (Option mm_V)
abbrev vI (x : Int32) : mm_V := .inl x
abbrev vJ (x : Int64) : mm_V := .inr (.inl x)
abbrev vQ (r : Option Nat) : mm_V := .inr (.inr (.inl r))
abbrev vN : mm_V := vQ none
abbrev vR (a : Nat) : mm_V := vQ (some a)
abbrev vZ (j : Nat) : mm_V := .inr (.inr (.inr j))
abbrev aV : mm_A := .inl none
abbrev aX (v : mm_V) : mm_A := .inl (some v)
abbrev aT (e : Nat) : mm_A := .inr e
/-- the class's constant array -/
def mm_step0 : List Int32 := [3, 2, 1, 1, 1, 1, 1, 3, 3, 1, 1, 2, 4, 2, 1]
/-- field k of the object of class ci at place a -/
def mm_fld (h : mm_H) (a ci k : Nat) : Option mm_V := match h.1[a]? with
  | some (.inl (c, fs)) => if c = ci then fs[k]? else none
  | _ => none
def mm_put (h : mm_H) (a ci k : Nat) (v : mm_V) : Option mm_H := match h.1[a]? with
  | some (.inl (c, fs)) => if c = ci ∧ k < fs.length then some (h.1.set a (.inl (c, fs.set k v)), h.2) else none
  | _ => none
def mm_int (h : mm_H) (a kd : Nat) : Option (List Int32) := match h.1[a]? with
  | some (.inr (.inl q)) => if q.1 = kd then some q.2 else none
  | _ => none
def mm_lng (h : mm_H) (a : Nat) : Option (List Int64) := match h.1[a]? with
  | some (.inr (.inr (.inl xs))) => some xs
  | _ => none
def mm_refs (h : mm_H) (a : Nat) : Option (Nat × List (Option Nat)) := match h.1[a]? with
  | some (.inr (.inr (.inr q))) => if q.1 < 2 then some q else none
  | _ => none
def mm_len (h : mm_H) (a : Nat) : Option Int32 := match h.1[a]? with
  | some (.inr (.inl q)) => if q.1 < 3 then some (Int32.ofNat q.2.length) else none
  | some (.inr (.inr (.inl xs))) => some (Int32.ofNat xs.length)
  | some (.inr (.inr (.inr q))) => if q.1 < 2 then some (Int32.ofNat q.2.length) else none
  | _ => none
/-- an index inside a row of n -/
def mm_ix (i : Int32) (n : Nat) : Option Nat := if i < 0 then none else if i.toNatClampNeg < n then some i.toNatClampNeg else none
def mm_iald (h : mm_H) (a kd : Nat) (i : Int32) : Option Int32 := (mm_int h a kd).bind fun xs => (mm_ix i xs.length).bind fun k => xs[k]?
def mm_zald (Z : Nat → List Int32) (j : Nat) (i : Int32) : Option Int32 := (mm_ix i (Z j).length).bind fun k => (Z j)[k]?
def mm_iast (h : mm_H) (a kd : Nat) (i x : Int32) : Option mm_H := (mm_int h a kd).bind fun xs => (mm_ix i xs.length).map fun k => (h.1.set a (.inr (.inl (kd, xs.set k x))), h.2)
def mm_lald (h : mm_H) (a : Nat) (i : Int32) : Option Int64 := (mm_lng h a).bind fun xs => (mm_ix i xs.length).bind fun k => xs[k]?
def mm_last (h : mm_H) (a : Nat) (i : Int32) (x : Int64) : Option mm_H := (mm_lng h a).bind fun xs => (mm_ix i xs.length).map fun k => (h.1.set a (.inr (.inr (.inl (xs.set k x)))), h.2)
def mm_aald (h : mm_H) (a : Nat) (i : Int32) : Option (Option Nat) := (mm_refs h a).bind fun q => (mm_ix i q.2.length).bind fun k => q.2[k]?
/-- what is stored is null, or an object of the row's own class -/
def mm_of (h : mm_H) (ci : Nat) (r : Option Nat) : Bool := match r with
  | none => true
  | some b => match h.1[b]? with
    | some (.inl (c, _)) => c == ci
    | _ => false
def mm_aast (h : mm_H) (a : Nat) (i : Int32) (r : Option Nat) : Option mm_H := (mm_refs h a).bind fun q => if mm_of h (mm_el q.1) r then (mm_ix i q.2.length).map fun k => (h.1.set a (.inr (.inr (.inr (q.1, q.2.set k r)))), h.2) else none
/-- a new cell of n slots -/
def mm_new (h : mm_H) (o : mm_O) (n : Nat) : Option mm_H := if 1 ≤ h.2.1 ∧ n ≤ h.2.2 then some (h.1 ++ [o], (h.2.1 - 1, h.2.2 - n)) else none
/-- the locals: a long lies in two places; nothing is laid over a long's second half -/
def mm_lj (o : Option (Option mm_V)) : Bool := match o with
  | some (some (.inr (.inl _))) => true
  | _ => false
def mm_set (L : mm_L) (k : Nat) (v : mm_V) : Option mm_L := if k < L.length then (if k ≠ 0 ∧ mm_lj L[k - 1]? = true then none else some (L.set k (some v))) else none
def mm_cmp (c : Jvm.ClassFile.Cond) (x y : Int32) : Prop := match c with
  | .eq => x = y
  | .ne => ¬ x = y
  | .lt => x < y
  | .ge => y ≤ x
  | .gt => y < x
  | .le => x ≤ y
/-- fields of a class: what they are at first, how many -/
def mm_fresh (tys : List FieldType) : List mm_V := tys.map fun t => match t with
  | .int => vI 0
  | .boolean => vI 0
  | .long => vJ 0
  | _ => vN
/-- ONE STEP that goes on with the next one -/
def mm_s1 (K : Nat → List FieldType) (Z : Nat → List Int32) (i : Instr) (L : mm_L) (st : List mm_V) (h : mm_H) : Option (mm_L × (List mm_V × mm_H)) := match i with
  | .sipush n => some (L, vI (Int32.ofInt n) :: st, h)
  | .lconst n => some (L, vJ (Int64.ofNat n.val) :: st, h)
  | .aconst_null => some (L, vN :: st, h)
  | .getstatic j => some (L, vZ j :: st, h)
  | .iload k => (match L[k]? with
    | some (some (.inl x)) => some (L, vI x :: st, h)
    | _ => none)
  | .lload k => (match L[k]? with
    | some (some (.inr (.inl x))) => some (L, vJ x :: st, h)
    | _ => none)
  | .aload k => (match L[k]? with
    | some (some (.inr (.inr (.inl r)))) => some (L, vQ r :: st, h)
    | some (some (.inr (.inr (.inr j)))) => some (L, vZ j :: st, h)
    | _ => none)
  | .istore k => (match st with
    | .inl x :: r => (mm_set L k (vI x)).map fun L' => (L', r, h)
    | _ => none)
  | .astore k => (match st with
    | .inr (.inr (.inl q)) :: r => (mm_set L k (vQ q)).map fun L' => (L', r, h)
    | _ => none)
  | .iinc k n => (match L[k]? with
    | some (some (.inl x)) => (mm_set L k (vI (x + Int32.ofInt n))).map fun L' => (L', st, h)
    | _ => none)
  | .invokeinterface ci k => (match st with
    | .inr (.inr (.inl (some a))) :: r => (mm_fld h a ci k).map fun v => (L, v :: r, h)
    | _ => none)
  | .multianewarray ci k => (match st with
    | v :: .inr (.inr (.inl (some a))) :: r => (match v, (K ci)[k]? with
      | .inl x, some .int => (mm_put h a ci k (vI x)).map fun h' => (L, r, h')
      | .inl x, some .boolean => if x = 0 ∨ x = 1 then (mm_put h a ci k (vI x)).map fun h' => (L, r, h') else none
      | .inr (.inr (.inl q)), some (.object _) => (mm_put h a ci k (vQ q)).map fun h' => (L, r, h')
      | .inr (.inr (.inl q)), some (.array _) => (mm_put h a ci k (vQ q)).map fun h' => (L, r, h')
      | _, _ => none)
    | _ => none)
  | .new ci => (mm_new h (.inl (ci, mm_fresh (K ci))) (K ci).length).map fun h' => (L, vR h.1.length :: st, h')
  | .newarray .int => (match st with
    | .inl n :: r => if n < 0 ∨ 134217728 < n.toNatClampNeg then none else (mm_new h (.inr (.inl (0, List.replicate n.toNatClampNeg 0))) n.toNatClampNeg).map fun h' => (L, vR h.1.length :: r, h')
    | _ => none)
  | .newarray .byte => (match st with
    | .inl n :: r => if n < 0 ∨ 134217728 < n.toNatClampNeg then none else (mm_new h (.inr (.inl (1, List.replicate n.toNatClampNeg 0))) n.toNatClampNeg).map fun h' => (L, vR h.1.length :: r, h')
    | _ => none)
  | .newarray .char => (match st with
    | .inl n :: r => if n < 0 ∨ 134217728 < n.toNatClampNeg then none else (mm_new h (.inr (.inl (2, List.replicate n.toNatClampNeg 0))) n.toNatClampNeg).map fun h' => (L, vR h.1.length :: r, h')
    | _ => none)
  | .newarray .long => (match st with
    | .inl n :: r => if n < 0 ∨ 67108864 < n.toNatClampNeg then none else (mm_new h (.inr (.inr (.inl (List.replicate n.toNatClampNeg 0)))) n.toNatClampNeg).map fun h' => (L, vR h.1.length :: r, h')
    | _ => none)
  | .anewarray ci => (match st with
    | .inl n :: r => if n < 0 ∨ 134217728 < n.toNatClampNeg then none else (mm_new h (.inr (.inr (.inr (ci, List.replicate n.toNatClampNeg none)))) n.toNatClampNeg).map fun h' => (L, vR h.1.length :: r, h')
    | _ => none)
  | .arraylength => (match st with
    | .inr (.inr (.inl (some a))) :: r => (mm_len h a).map fun n => (L, vI n :: r, h)
    | .inr (.inr (.inr j)) :: r => if j < 2 then some (L, vI (Int32.ofNat (Z j).length) :: r, h) else none
    | _ => none)
  | .iaload => (match st with
    | .inl i :: .inr (.inr (.inl (some a))) :: r => (mm_iald h a 0 i).map fun x => (L, vI x :: r, h)
    | .inl i :: .inr (.inr (.inr j)) :: r => if j < 2 then (mm_zald Z j i).map fun x => (L, vI x :: r, h) else none
    | _ => none)
  | .iastore => (match st with
    | .inl x :: .inl i :: .inr (.inr (.inl (some a))) :: r => (mm_iast h a 0 i x).map fun h' => (L, r, h')
    | _ => none)
  | .baload => (match st with
    | .inl i :: .inr (.inr (.inl (some a))) :: r => (mm_iald h a 1 i).map fun x => (L, vI x :: r, h)
    | _ => none)
  | .caload => (match st with
    | .inl i :: .inr (.inr (.inl (some a))) :: r => (mm_iald h a 2 i).map fun x => (L, vI x :: r, h)
    | _ => none)
  | .bastore => (match st with
    | .inl x :: .inl i :: .inr (.inr (.inl (some a))) :: r => (mm_iast h a 1 i (vp_nar .byte x)).map fun h' => (L, r, h')
    | _ => none)
  | .castore => (match st with
    | .inl x :: .inl i :: .inr (.inr (.inl (some a))) :: r => (mm_iast h a 2 i (vp_nar .char x)).map fun h' => (L, r, h')
    | _ => none)
  | .laload => (match st with
    | .inl i :: .inr (.inr (.inl (some a))) :: r => (mm_lald h a i).map fun x => (L, vJ x :: r, h)
    | _ => none)
  | .lastore => (match st with
    | .inr (.inl x) :: .inl i :: .inr (.inr (.inl (some a))) :: r => (mm_last h a i x).map fun h' => (L, r, h')
    | _ => none)
  | .aaload => (match st with
    | .inl i :: .inr (.inr (.inl (some a))) :: r => (mm_aald h a i).map fun q => (L, vQ q :: r, h)
    | _ => none)
  | .aastore => (match st with
    | .inr (.inr (.inl q)) :: .inl i :: .inr (.inr (.inl (some a))) :: r => (mm_aast h a i q).map fun h' => (L, r, h')
    | _ => none)
  | .pop => (match st with
    | .inl _ :: r => some (L, r, h)
    | .inr (.inr (.inl _)) :: r => some (L, r, h)
    | _ => none)
  | .dup => (match st with
    | .inl x :: r => some (L, vI x :: vI x :: r, h)
    | .inr (.inr (.inl q)) :: r => some (L, vQ q :: vQ q :: r, h)
    | _ => none)
  | .iadd => (match st with
    | .inl y :: .inl x :: r => some (L, vI (x + y) :: r, h)
    | _ => none)
  | .isub => (match st with
    | .inl y :: .inl x :: r => some (L, vI (x - y) :: r, h)
    | _ => none)
  | .imul => (match st with
    | .inl y :: .inl x :: r => some (L, vI (x * y) :: r, h)
    | _ => none)
  | .iand => (match st with
    | .inl y :: .inl x :: r => some (L, vI (x &&& y) :: r, h)
    | _ => none)
  | .ior => (match st with
    | .inl y :: .inl x :: r => some (L, vI (x ||| y) :: r, h)
    | _ => none)
  | .ishl => (match st with
    | .inl y :: .inl x :: r => some (L, vI (x <<< (y &&& 31)) :: r, h)
    | _ => none)
  | .ishr => (match st with
    | .inl y :: .inl x :: r => some (L, vI (x >>> (y &&& 31)) :: r, h)
    | _ => none)
  | .ineg => (match st with
    | .inl x :: r => some (L, vI (-x) :: r, h)
    | _ => none)
  | .i2s => (match st with
    | .inl x :: r => some (L, vI x.toInt16.toInt32 :: r, h)
    | _ => none)
  | .i2b => (match st with
    | .inl x :: r => some (L, vI x.toInt8.toInt32 :: r, h)
    | _ => none)
  | .i2c => (match st with
    | .inl x :: r => some (L, vI (x.toUInt32 % 65536).toInt32 :: r, h)
    | _ => none)
  | .i2l => (match st with
    | .inl x :: r => some (L, vJ x.toInt64 :: r, h)
    | _ => none)
  | .l2i => (match st with
    | .inr (.inl x) :: r => some (L, vI x.toInt32 :: r, h)
    | _ => none)
  | .lushr => (match st with
    | .inl y :: .inr (.inl x) :: r => some (L, vJ (x.toUInt64 >>> (y.toInt64.toUInt64 &&& Int64.toUInt64 63)).toInt64 :: r, h)
    | _ => none)
  | .lshl => (match st with
    | .inl y :: .inr (.inl x) :: r => some (L, vJ (x <<< (y.toInt64 &&& 63)) :: r, h)
    | _ => none)
  | .land => (match st with
    | .inr (.inl y) :: .inr (.inl x) :: r => some (L, vJ (x &&& y) :: r, h)
    | _ => none)
  | .lor => (match st with
    | .inr (.inl y) :: .inr (.inl x) :: r => some (L, vJ (x ||| y) :: r, h)
    | _ => none)
  | .lcmp => (match st with
    | .inr (.inl y) :: .inr (.inl x) :: r => some (L, vI (lg_cmp x y) :: r, h)
    | _ => none)
  | .jsr n => some (L, vJ (Int64.ofInt n) :: st, h)
  | _ => none
/-- behind a call: go on with what came back; an exception leaves this method too -/
def mm_Kt (Q : mm_A → mm_H → Prop) (F : List mm_V → mm_H → Prop) (rest : List mm_V) : mm_A → mm_H → Prop := fun r h => match r with
  | .inl none => F rest h
  | .inl (some v) => F (v :: rest) h
  | .inr e => Q (.inr e) h
def mm_sw (F : Nat → Prop) (d : Nat) (x : Int32) : List (Int × Int) → Prop
  | [] => F d
  | (k, t) :: ps => (x = Int32.ofInt k → F t.toNat) ∧ (¬ x = Int32.ofInt k → mm_sw F d x ps)
/-- the first argument is an object of the class -/
def mm_rcv (h : mm_H) (vs : List mm_V) (ci : Nat) : Prop := match vs with
  | .inr (.inr (.inl (some a))) :: _ => ∃ fs, h.1[a]? = some (.inl (ci, fs))
  | _ => False
/-- A STRETCH OF STEPS: J: what must hold at a place that is jumped to; C: what a call asks; Q: what must hold at the end.
goto_w t: no step, the place t comes next; checkcast e: the exception e is made and thrown (five steps); invokespecial 0: Object's constructor; freturn: ireturn of a boolean; fadd, fsub: Math.max, Math.min; putstatic m: a static call of a method with handlers -/
def mm_wp (K : Nat → List FieldType) (Z : Nat → List Int32) (nA : Nat → Nat) (nE : Nat) (mm_ci : Nat → Nat) (J : Nat → mm_L → List mm_V → mm_H → Prop) (C : Nat → List mm_V → mm_H → (mm_A → mm_H → Prop) → Prop) (Q : mm_A → mm_H → Prop) : List Instr → mm_L → List mm_V → mm_H → Prop
  | [], _, _, _ => False
  | i :: is, L, st, h => match i with
    | .goto t => J t.toNat L st h
    | .goto_w t => J t.toNat L st h
    | .if_icmp c t => (match st with
      | .inl y :: .inl x :: r => (mm_cmp c x y → J t.toNat L r h) ∧ (¬ mm_cmp c x y → mm_wp K Z nA nE mm_ci J C Q is L r h)
      | _ => False)
    | .ifCond c t => (match st with
      | .inl x :: r => (mm_cmp c x 0 → J t.toNat L r h) ∧ (¬ mm_cmp c x 0 → mm_wp K Z nA nE mm_ci J C Q is L r h)
      | _ => False)
    | .ifnull t => (match st with
      | .inr (.inr (.inl q)) :: r => (q = none → J t.toNat L r h) ∧ (¬ q = none → mm_wp K Z nA nE mm_ci J C Q is L r h)
      | _ => False)
    | .ifnonnull t => (match st with
      | .inr (.inr (.inl q)) :: r => (¬ q = none → J t.toNat L r h) ∧ (q = none → mm_wp K Z nA nE mm_ci J C Q is L r h)
      | _ => False)
    | .if_acmp .eq t => (match st with
      | .inr (.inr (.inl q)) :: .inr (.inr (.inl p)) :: r => (p = q → J t.toNat L r h) ∧ (¬ p = q → mm_wp K Z nA nE mm_ci J C Q is L r h)
      | _ => False)
    | .if_acmp .ne t => (match st with
      | .inr (.inr (.inl q)) :: .inr (.inr (.inl p)) :: r => (¬ p = q → J t.toNat L r h) ∧ (p = q → mm_wp K Z nA nE mm_ci J C Q is L r h)
      | _ => False)
    | .lookupswitch d ps => (match st with
      | .inl x :: r => mm_sw (fun t => J t L r h) d.toNat x ps.toList
      | _ => False)
    | .invokestatic m => nA m ≤ st.length ∧ st.length ≤ 12 ∧ C m (st.take (nA m)).reverse h (mm_Kt Q (mm_wp K Z nA nE mm_ci J C Q is L) (st.drop (nA m)))
    | .putstatic m => nA m ≤ st.length ∧ st.length ≤ 12 ∧ C m (st.take (nA m)).reverse h (mm_Kt Q (mm_wp K Z nA nE mm_ci J C Q is L) (st.drop (nA m)))
    | .invokevirtual m => nA m ≤ st.length ∧ st.length ≤ 12 ∧ mm_rcv h ((st.take (nA m)).reverse) (mm_ci m) ∧ C m (st.take (nA m)).reverse h (mm_Kt Q (mm_wp K Z nA nE mm_ci J C Q is L) (st.drop (nA m)))
    | .invokespecial _ => (match st with
      | .inr (.inr (.inl (some _))) :: r => r.length ≤ 12 ∧ mm_wp K Z nA nE mm_ci J C Q is L r h
      | _ => False)
    | .checkcast e => st.length ≤ 12 ∧ 1 ≤ h.2.1 ∧ nE ≤ h.2.2 ∧ Q (aT e) (h.1, (h.2.1 - 1, h.2.2 - nE))
    | .return_ => st = [] ∧ Q aV h
    | .ireturn => (match st with
      | [.inl x] => Q (aX (vI x)) h
      | _ => False)
    | .freturn => (match st with
      | [.inl x] => (x = 0 ∨ x = 1) ∧ Q (aX (vI x)) h
      | _ => False)
    | .lreturn => False
    | .areturn => (match st with
      | [.inr (.inr (.inl q))] => Q (aX (vQ q)) h
      | _ => False)
    | .fadd => (match st with
      | .inl y :: .inl x :: r => r.length ≤ 12 ∧ mm_wp K Z nA nE mm_ci J C Q is L (vI (if x < y then y else x) :: r) h
      | _ => False)
    | .fsub => (match st with
      | .inl y :: .inl x :: r => r.length ≤ 12 ∧ mm_wp K Z nA nE mm_ci J C Q is L (vI (if y < x then y else x) :: r) h
      | _ => False)
    | _ => (match mm_s1 K Z i L st h with
      | some o => mm_wp K Z nA nE mm_ci J C Q is o.1 o.2.1 o.2.2
      | none => False)
end
section
/-! THE SMALL MACHINE OVER THE REAL ONE: rho: the places' addresses; zt: the constant arrays' addresses; cT: the array classes -/
def mm_v (rho : List Nat) (zt : Nat → Nat) (v : mm_V) : Value := match v with
  | .inl x => .int x
  | .inr (.inl x) => .long x
  | .inr (.inr (.inl none)) => .null
  | .inr (.inr (.inl (some a))) => .ref (rho.getD a 0)
  | .inr (.inr (.inr j)) => .ref (zt j)
def mm_q (rho : List Nat) (r : Option Nat) : Option Nat := r.map fun a => rho.getD a 0
def mm_e (rho : List Nat) (zt : Nat → Nat) (cT : Nat → ClassId) (o : mm_O) : va_E := match o with
  | .inl q => .inr (q.1, q.2.map (mm_v rho zt))
  | .inr (.inl q) => .inl (cT q.1, q.2.length, .inl fun j => q.2.getD j 0)
  | .inr (.inr (.inl xs)) => .inl (cT 3, xs.length, .inr (.inl fun j => xs.getD j 0))
  | .inr (.inr (.inr q)) => .inl (cT (q.1 + 4), q.2.length, .inr (.inr (.inr (.inr fun j => mm_q rho (q.2.getD j none)))))
def mm_w (rho : List Nat) (zt : Nat → Nat) (cT : Nat → ClassId) (cs : List mm_O) : va_W := List.zipWith (fun a o => (a, mm_e rho zt cT o)) rho cs
/-- no place beyond the row -/
def mm_ok (n : Nat) (v : mm_V) : Prop := match v with
  | .inr (.inr (.inl (some a))) => a < n
  | _ => True
def mm_okO (n : Nat) (o : mm_O) : Prop := match o with
  | .inl q => ∀ v ∈ q.2, mm_ok n v
  | .inr (.inr (.inr q)) => ∀ a, some a ∈ q.2 → a < n
  | _ => True
theorem mm_ok_mono {n n' : Nat} (h : n ≤ n') {v : mm_V} (hv : mm_ok n v) : mm_ok n' v := by
  obtain x | x | (_ | a) | j := v <;> simp only [mm_ok] at hv ⊢
  omega
theorem mm_okO_mono {n n' : Nat} (h : n ≤ n') {o : mm_O} (ho : mm_okO n o) : mm_okO n' o := by
  obtain q | xs | xs | q := o <;> simp only [mm_okO] at ho ⊢
  · exact fun v hv => mm_ok_mono h (ho v hv)
  · exact fun a ha => Nat.lt_of_lt_of_le (ho a ha) h
theorem mm_getD_app {rho t : List Nat} {a : Nat} (h : a < rho.length) : (rho ++ t).getD a 0 = rho.getD a 0 := by
  simp [List.getD_eq_getElem?_getD, List.getElem?_append_left h]
theorem mm_v_app {rho t : List Nat} {zt : Nat → Nat} {v : mm_V} (h : mm_ok rho.length v) : mm_v (rho ++ t) zt v = mm_v rho zt v := by
  obtain x | x | (_ | a) | j := v <;> simp only [mm_v]
  simp only [mm_ok] at h
  rw [mm_getD_app h]
theorem mm_q_app {rho t : List Nat} {r : Option Nat} (h : ∀ a, r = some a → a < rho.length) : mm_q (rho ++ t) r = mm_q rho r := by
  cases r with
  | none => rfl
  | some a => simp only [mm_q, Option.map_some, mm_getD_app (h a rfl)]
theorem mm_e_app {rho t : List Nat} {zt : Nat → Nat} {cT : Nat → ClassId} {o : mm_O} (h : mm_okO rho.length o) : mm_e (rho ++ t) zt cT o = mm_e rho zt cT o := by
  obtain q | xs | xs | q := o
  · simp only [mm_e, mm_okO] at h ⊢
    congr 2
    exact List.map_congr_left fun v hv => mm_v_app (h v hv)
  · rfl
  · rfl
  · simp only [mm_e, mm_okO] at h ⊢
    have : (fun j => mm_q (rho ++ t) (q.2.getD j none)) = fun j => mm_q rho (q.2.getD j none) := by
      funext j
      refine mm_q_app fun a ha => h a ?_
      rw [List.getD_eq_getElem?_getD] at ha
      cases hj : q.2[j]? with
      | none => rw [hj] at ha; simp at ha
      | some y => rw [hj] at ha; simp at ha; rw [← ha]; exact List.mem_of_getElem? hj
    rw [this]
theorem mm_w_at {rho : List Nat} {zt : Nat → Nat} {cT : Nat → ClassId} {cs : List mm_O} (hl : rho.length = cs.length) {a : Nat} {o : mm_O} (h : cs[a]? = some o) : (mm_w rho zt cT cs)[a]? = some (rho.getD a 0, mm_e rho zt cT o) := by
  have ha : a < cs.length := (List.getElem?_eq_some_iff.mp h).1
  have hr : rho[a]? = some (rho.getD a 0) := by
    rw [List.getD_eq_getElem?_getD, List.getElem?_eq_getElem (by omega)]; rfl
  simp only [mm_w, List.getElem?_zipWith, hr, h]
theorem mm_w_set {rho : List Nat} {zt : Nat → Nat} {cT : Nat → ClassId} {cs : List mm_O} (hl : rho.length = cs.length) {a : Nat} (ha : a < cs.length) (o : mm_O) : mm_w rho zt cT (cs.set a o) = (mm_w rho zt cT cs).set a (rho.getD a 0, mm_e rho zt cT o) := by
  have hr : rho[a]? = some (rho.getD a 0) := by
    rw [List.getD_eq_getElem?_getD, List.getElem?_eq_getElem (by omega)]; rfl
  have hw : (mm_w rho zt cT cs).length = cs.length := by simp [mm_w, hl]
  refine List.ext_getElem? fun k => ?_
  by_cases hk : k = a
  · subst hk
    rw [mm_w_at (by rw [List.length_set]; exact hl) (List.getElem?_set_self ha), List.getElem?_set_self (by omega)]
  · simp only [mm_w, List.getElem?_zipWith, List.getElem?_set_ne (Ne.symm hk)]
theorem mm_w_app {rho : List Nat} {zt : Nat → Nat} {cT : Nat → ClassId} {cs : List mm_O} (hl : rho.length = cs.length) (hok : ∀ o ∈ cs, mm_okO cs.length o) (q : Nat) (o : mm_O) : mm_w (rho ++ [q]) zt cT (cs ++ [o]) = mm_w rho zt cT cs ++ [(q, mm_e (rho ++ [q]) zt cT o)] := by
  unfold mm_w
  rw [List.zipWith_append hl]
  congr 1
  refine List.ext_getElem? fun k => ?_
  simp only [List.getElem?_zipWith]
  cases h1 : rho[k]? with
  | none => rfl
  | some a =>
    cases h2 : cs[k]? with
    | none => rfl
    | some o2 =>
      simp only []
      rw [mm_e_app (by rw [hl]; exact hok o2 (List.mem_of_getElem? h2))]
/-- the locals -/
def mm_ls (ls : Array Slot) (nL : Nat) (rho : List Nat) (zt : Nat → Nat) (L : mm_L) : Prop := L.length = nL ∧ ls.size = nL ∧ lv_wf ls ∧ ∀ (i : Nat) (v : mm_V), L[i]? = some (some v) → ls[i]? = some (.val (mm_v rho zt v))
def mm_as (rho : List Nat) (zt : Nat → Nat) (L : mm_L) : List (Nat × Value) := (List.range L.length).filterMap fun i => match L[i]? with
  | some (some v) => some (i, mm_v rho zt v)
  | _ => none
theorem mm_as_mem {rho : List Nat} {zt : Nat → Nat} {L : mm_L} {i : Nat} {v : mm_V} (h : L[i]? = some (some v)) : (i, mm_v rho zt v) ∈ mm_as rho zt L := by
  have hi : i < L.length := (List.getElem?_eq_some_iff.mp h).1
  exact List.mem_filterMap.mpr ⟨i, List.mem_range.mpr hi, by rw [h]⟩
theorem mm_as_of {rho : List Nat} {zt : Nat → Nat} {L : mm_L} {q : Nat × Value} (h : q ∈ mm_as rho zt L) : ∃ v, L[q.1]? = some (some v) ∧ q.2 = mm_v rho zt v := by
  obtain ⟨i, -, hi⟩ := List.mem_filterMap.mp h
  cases hL : L[i]? with
  | none => rw [hL] at hi; cases hi
  | some o =>
    cases o with
    | none => rw [hL] at hi; cases hi
    | some v => rw [hL] at hi; cases hi; exact ⟨v, hL, rfl⟩
theorem mm_ls.has {ls : Array Slot} {nL : Nat} {rho : List Nat} {zt : Nat → Nat} {L : mm_L} (h : mm_ls ls nL rho zt L) : lv_has ls nL (mm_as rho zt L) := by
  refine ⟨h.2.1, h.2.2.1, fun q hq => ?_⟩
  obtain ⟨v, h1, h2⟩ := mm_as_of hq
  rw [h2]
  exact h.2.2.2 _ _ h1
theorem mm_cat2 {rho : List Nat} {zt : Nat → Nat} {v : mm_V} (h : (mm_v rho zt v).category = 2) : ∃ x, v = vJ x := by
  obtain x | x | (_ | a) | j := v <;> simp [mm_v, Value.category] at h
  exact ⟨x, rfl⟩
theorem mm_ls.store {ls ls' : Array Slot} {nL : Nat} {rho : List Nat} {zt : Nat → Nat} {L L' : mm_L} {k : Nat} {v : mm_V} (h : mm_ls ls nL rho zt L) (hs : mm_set L k v = some L') (h' : lv_has ls' nL ((k, mm_v rho zt v) :: (mm_as rho zt L).filter (fun q => !(q.1 == k) && !(q.1 + 1 == k && q.2.category == 2)))) : mm_ls ls' nL rho zt L' ∧ k < nL := by
  unfold mm_set at hs
  split at hs
  · rename_i hk
    split at hs
    · cases hs
    · rename_i hj
      cases hs
      refine ⟨⟨by rw [List.length_set]; exact h.1, h'.1, h'.2.1, fun i w hi => ?_⟩, by rw [← h.1]; exact hk⟩
      by_cases hik : i = k
      · subst hik
        rw [List.getElem?_set_self hk] at hi
        cases hi
        exact h'.2.2 (i, _) List.mem_cons_self
      · rw [List.getElem?_set_ne (Ne.symm hik)] at hi
        refine h'.2.2 (i, _) (List.mem_cons_of_mem _ (List.mem_filter.mpr ⟨mm_as_mem hi, ?_⟩))
        simp only [Bool.and_eq_true, Bool.not_eq_true', beq_eq_false_iff_ne, ne_eq, Bool.and_eq_false_iff]
        refine ⟨hik, ?_⟩
        by_cases h1 : i + 1 = k
        · right
          intro h2
          obtain ⟨x, rfl⟩ := mm_cat2 h2
          apply hj
          have : k - 1 = i := by omega
          exact ⟨by omega, by rw [this, hi]; rfl⟩
        · exact Or.inl h1
  · cases hs
theorem mm_ls.grow {ls : Array Slot} {nL : Nat} {rho t : List Nat} {zt : Nat → Nat} {L : mm_L} (h : mm_ls ls nL rho zt L) (hok : ∀ v, some v ∈ L → mm_ok rho.length v) : mm_ls ls nL (rho ++ t) zt L :=
  ⟨h.1, h.2.1, h.2.2.1, fun i v hi => by rw [mm_v_app (hok v (List.mem_of_getElem? hi))]; exact h.2.2.2 i v hi⟩
theorem mm_map_app {rho t : List Nat} {zt : Nat → Nat} {st : List mm_V} (h : ∀ v ∈ st, mm_ok rho.length v) : st.map (mm_v (rho ++ t) zt) = st.map (mm_v rho zt) := List.map_congr_left fun v hv => mm_v_app (h v hv)
end
section
theorem mm_okc {n : Nat} {v : mm_V} {r : List mm_V} (h : mm_ok n v) (hr : ∀ w ∈ r, mm_ok n w) : ∀ w ∈ v :: r, mm_ok n w := fun w hw => by
  rcases List.mem_cons.mp hw with rfl | hw
  · exact h
  · exact hr w hw
theorem mm_okt {n : Nat} {v : mm_V} {r : List mm_V} (h : ∀ w ∈ v :: r, mm_ok n w) : ∀ w ∈ r, mm_ok n w := fun w hw => h w (List.mem_cons_of_mem _ hw)
theorem mm_okh {n : Nat} {v : mm_V} {r : List mm_V} (h : ∀ w ∈ v :: r, mm_ok n w) : mm_ok n v := h v List.mem_cons_self
/-- what holds between the small machine and the real one, the operand stack left out -/
def mm_I (R : Room) (s : State) (D : va_G) (cT : Nat → ClassId) (zt : Nat → Nat) (A : Nat → Prop) (nL : Nat) (rho : List Nat) (L : mm_L) (h : mm_H) (H : Heap) (locs : List Loc) (cells slots : Nat) (ls : Array Slot) : Prop :=
  rho.length = h.1.length ∧ (∀ o ∈ h.1, mm_okO h.1.length o) ∧ (∀ v, some v ∈ L → mm_ok h.1.length v) ∧ va_P D vwCl (mm_w rho zt cT h.1) H ∧ va_D A (mm_w rho zt cT h.1) ∧ va_S A s.heap H locs ∧ mm_ls ls nL rho zt L ∧ cells + h.2.1 ≤ R.cells ∧ slots + h.2.2 ≤ R.slots
/-- from the place pc, with these locals, this stack, this heap, the machine comes to Q -/
def mm_W (p : Program) (l : Launch) (e : Env) (R : Room) (s : State) (m : MethodId) (args : Array Value) (below : List Frame) (meth : Method) (c : Code) (Q : State → Prop) (D : va_G) (cT : Nat → ClassId) (zt : Nat → Nat) (A : Nat → Prop) (nL : Nat) (rho0 : List Nat) (pc : Nat) (L : mm_L) (st : List mm_V) (h : mm_H) : Prop :=
  ∀ (rho : List Nat) (H : Heap) (locs : List Loc) (cells slots : Nat) (ls : Array Slot), rho0 <+: rho → (∀ v ∈ st, mm_ok h.1.length v) → mm_I R s D cT zt A nL rho L h H locs cells slots ls → W p l e R s m args below meth c H locs cells slots Q (F0 m pc ls (st.map (mm_v rho zt)))
section MR
variable {p : Program} {l : Launch} {e : Env} {R : Room} {s : State} {m : MethodId} {args : Array Value} {below : List Frame} {meth : Method} {c : Code} {Q : State → Prop} {D : va_G} {cT : Nat → ClassId} {zt : Nat → Nat} {A : Nat → Prop} {nL : Nat} {rho0 : List Nat} {cc : ByteArray} {pc : Nat} {L : mm_L} {r : List mm_V} {h : mm_H}
theorem mr_iadd (hx : p.tables.exec = Jvm.exec) (hb : c.code = cc) {x y : Int32} (hd : decode cc pc = .ok (.iadd, 1)) (k : mm_W p l e R s m args below meth c Q D cT zt A nL rho0 (pc + 1) L (vI (x + y) :: r) h) : mm_W p l e R s m args below meth c Q D cT zt A nL rho0 (pc) L (vI y :: vI x :: r) h :=
  fun rho H locs cells slots ls hp hst hI => lv_iadd hx hb hd (k rho H locs cells slots ls hp (mm_okc trivial (mm_okt (mm_okt hst))) hI)
theorem mr_isub (hx : p.tables.exec = Jvm.exec) (hb : c.code = cc) {x y : Int32} (hd : decode cc pc = .ok (.isub, 1)) (k : mm_W p l e R s m args below meth c Q D cT zt A nL rho0 (pc + 1) L (vI (x - y) :: r) h) : mm_W p l e R s m args below meth c Q D cT zt A nL rho0 (pc) L (vI y :: vI x :: r) h :=
  fun rho H locs cells slots ls hp hst hI => lv_isub hx hb hd (k rho H locs cells slots ls hp (mm_okc trivial (mm_okt (mm_okt hst))) hI)
theorem mr_imul (hx : p.tables.exec = Jvm.exec) (hb : c.code = cc) {x y : Int32} (hd : decode cc pc = .ok (.imul, 1)) (k : mm_W p l e R s m args below meth c Q D cT zt A nL rho0 (pc + 1) L (vI (x * y) :: r) h) : mm_W p l e R s m args below meth c Q D cT zt A nL rho0 (pc) L (vI y :: vI x :: r) h :=
  fun rho H locs cells slots ls hp hst hI => lv_imul hx hb hd (k rho H locs cells slots ls hp (mm_okc trivial (mm_okt (mm_okt hst))) hI)
theorem mr_iand (hx : p.tables.exec = Jvm.exec) (hb : c.code = cc) {x y : Int32} (hd : decode cc pc = .ok (.iand, 1)) (k : mm_W p l e R s m args below meth c Q D cT zt A nL rho0 (pc + 1) L (vI (x &&& y) :: r) h) : mm_W p l e R s m args below meth c Q D cT zt A nL rho0 (pc) L (vI y :: vI x :: r) h :=
  fun rho H locs cells slots ls hp hst hI => lv_iand hx hb hd (k rho H locs cells slots ls hp (mm_okc trivial (mm_okt (mm_okt hst))) hI)
theorem mr_ior (hx : p.tables.exec = Jvm.exec) (hb : c.code = cc) {x y : Int32} (hd : decode cc pc = .ok (.ior, 1)) (k : mm_W p l e R s m args below meth c Q D cT zt A nL rho0 (pc + 1) L (vI (x ||| y) :: r) h) : mm_W p l e R s m args below meth c Q D cT zt A nL rho0 (pc) L (vI y :: vI x :: r) h :=
  fun rho H locs cells slots ls hp hst hI => lv_ior hx hb hd (k rho H locs cells slots ls hp (mm_okc trivial (mm_okt (mm_okt hst))) hI)
theorem mr_ixor (hx : p.tables.exec = Jvm.exec) (hb : c.code = cc) {x y : Int32} (hd : decode cc pc = .ok (.ixor, 1)) (k : mm_W p l e R s m args below meth c Q D cT zt A nL rho0 (pc + 1) L (vI (x ^^^ y) :: r) h) : mm_W p l e R s m args below meth c Q D cT zt A nL rho0 (pc) L (vI y :: vI x :: r) h :=
  fun rho H locs cells slots ls hp hst hI => lv_ixor hx hb hd (k rho H locs cells slots ls hp (mm_okc trivial (mm_okt (mm_okt hst))) hI)
theorem mr_ishl (hx : p.tables.exec = Jvm.exec) (hb : c.code = cc) {x y : Int32} (hd : decode cc pc = .ok (.ishl, 1)) (k : mm_W p l e R s m args below meth c Q D cT zt A nL rho0 (pc + 1) L (vI (x <<< (y &&& 31)) :: r) h) : mm_W p l e R s m args below meth c Q D cT zt A nL rho0 (pc) L (vI y :: vI x :: r) h :=
  fun rho H locs cells slots ls hp hst hI => lv_ishl hx hb hd (k rho H locs cells slots ls hp (mm_okc trivial (mm_okt (mm_okt hst))) hI)
theorem mr_ishr (hx : p.tables.exec = Jvm.exec) (hb : c.code = cc) {x y : Int32} (hd : decode cc pc = .ok (.ishr, 1)) (k : mm_W p l e R s m args below meth c Q D cT zt A nL rho0 (pc + 1) L (vI (x >>> (y &&& 31)) :: r) h) : mm_W p l e R s m args below meth c Q D cT zt A nL rho0 (pc) L (vI y :: vI x :: r) h :=
  fun rho H locs cells slots ls hp hst hI => lv_ishr hx hb hd (k rho H locs cells slots ls hp (mm_okc trivial (mm_okt (mm_okt hst))) hI)
theorem mr_iushr (hx : p.tables.exec = Jvm.exec) (hb : c.code = cc) {x y : Int32} (hd : decode cc pc = .ok (.iushr, 1)) (k : mm_W p l e R s m args below meth c Q D cT zt A nL rho0 (pc + 1) L (vI ((x.toUInt32 >>> (y.toUInt32 &&& Int32.toUInt32 31)).toInt32) :: r) h) : mm_W p l e R s m args below meth c Q D cT zt A nL rho0 (pc) L (vI y :: vI x :: r) h :=
  fun rho H locs cells slots ls hp hst hI => lv_iushr hx hb hd rfl (k rho H locs cells slots ls hp (mm_okc trivial (mm_okt (mm_okt hst))) hI)
theorem mr_ineg (hx : p.tables.exec = Jvm.exec) (hb : c.code = cc) {x : Int32} (hd : decode cc pc = .ok (.ineg, 1)) (k : mm_W p l e R s m args below meth c Q D cT zt A nL rho0 (pc + 1) L (vI (-x) :: r) h) : mm_W p l e R s m args below meth c Q D cT zt A nL rho0 (pc) L (vI x :: r) h :=
  fun rho H locs cells slots ls hp hst hI => lv_ineg hx hb hd (k rho H locs cells slots ls hp (mm_okc trivial (mm_okt hst)) hI)
theorem mr_i2s (hx : p.tables.exec = Jvm.exec) (hb : c.code = cc) {x : Int32} (hd : decode cc pc = .ok (.i2s, 1)) (k : mm_W p l e R s m args below meth c Q D cT zt A nL rho0 (pc + 1) L (vI (x.toInt16.toInt32) :: r) h) : mm_W p l e R s m args below meth c Q D cT zt A nL rho0 (pc) L (vI x :: r) h :=
  fun rho H locs cells slots ls hp hst hI => lv_i2s hx hb hd rfl (k rho H locs cells slots ls hp (mm_okc trivial (mm_okt hst)) hI)
theorem mr_i2b (hx : p.tables.exec = Jvm.exec) (hb : c.code = cc) {x : Int32} (hd : decode cc pc = .ok (.i2b, 1)) (k : mm_W p l e R s m args below meth c Q D cT zt A nL rho0 (pc + 1) L (vI (x.toInt8.toInt32) :: r) h) : mm_W p l e R s m args below meth c Q D cT zt A nL rho0 (pc) L (vI x :: r) h :=
  fun rho H locs cells slots ls hp hst hI => lv_i2b hx hb hd rfl (k rho H locs cells slots ls hp (mm_okc trivial (mm_okt hst)) hI)
theorem mr_i2c (hx : p.tables.exec = Jvm.exec) (hb : c.code = cc) {x : Int32} (hd : decode cc pc = .ok (.i2c, 1)) (k : mm_W p l e R s m args below meth c Q D cT zt A nL rho0 (pc + 1) L (vI ((x.toUInt32 % 65536).toInt32) :: r) h) : mm_W p l e R s m args below meth c Q D cT zt A nL rho0 (pc) L (vI x :: r) h :=
  fun rho H locs cells slots ls hp hst hI => lv_i2c hx hb hd rfl (k rho H locs cells slots ls hp (mm_okc trivial (mm_okt hst)) hI)
theorem mr_i2l (hx : p.tables.exec = Jvm.exec) (hb : c.code = cc) {x : Int32} (hd : decode cc pc = .ok (.i2l, 1)) (k : mm_W p l e R s m args below meth c Q D cT zt A nL rho0 (pc + 1) L (vJ (x.toInt64) :: r) h) : mm_W p l e R s m args below meth c Q D cT zt A nL rho0 (pc) L (vI x :: r) h :=
  fun rho H locs cells slots ls hp hst hI => lv_i2l hx hb hd rfl (k rho H locs cells slots ls hp (mm_okc trivial (mm_okt hst)) hI)
theorem mr_l2i (hx : p.tables.exec = Jvm.exec) (hb : c.code = cc) {x : Int64} (hd : decode cc pc = .ok (.l2i, 1)) (k : mm_W p l e R s m args below meth c Q D cT zt A nL rho0 (pc + 1) L (vI (x.toInt32) :: r) h) : mm_W p l e R s m args below meth c Q D cT zt A nL rho0 (pc) L (vJ x :: r) h :=
  fun rho H locs cells slots ls hp hst hI => lv_l2i hx hb hd rfl (k rho H locs cells slots ls hp (mm_okc trivial (mm_okt hst)) hI)
theorem mr_lushr (hx : p.tables.exec = Jvm.exec) (hb : c.code = cc) {x : Int64} {y : Int32} (hd : decode cc pc = .ok (.lushr, 1)) (k : mm_W p l e R s m args below meth c Q D cT zt A nL rho0 (pc + 1) L (vJ ((x.toUInt64 >>> (y.toInt64.toUInt64 &&& Int64.toUInt64 63)).toInt64) :: r) h) : mm_W p l e R s m args below meth c Q D cT zt A nL rho0 (pc) L (vI y :: vJ x :: r) h :=
  fun rho H locs cells slots ls hp hst hI => lv_lushr hx hb hd rfl (k rho H locs cells slots ls hp (mm_okc trivial (mm_okt (mm_okt hst))) hI)
theorem mr_iconst (hx : p.tables.exec = Jvm.exec) (hb : c.code = cc) {n : Int} {v : Int32} (hd : decode cc pc = .ok (.iconst n, 1)) (hv : Int32.ofInt n = v) (k : mm_W p l e R s m args below meth c Q D cT zt A nL rho0 (pc + 1) L (vI v :: r) h) : mm_W p l e R s m args below meth c Q D cT zt A nL rho0 (pc) L (r) h :=
  fun rho H locs cells slots ls hp hst hI => lv_iconst hx hb hd hv (k rho H locs cells slots ls hp (mm_okc trivial hst) hI)
theorem mr_bipush (hx : p.tables.exec = Jvm.exec) (hb : c.code = cc) {n : Int} {v : Int32} (hd : decode cc pc = .ok (.bipush n, 2)) (hv : (Int8.ofInt n).toInt32 = v) (k : mm_W p l e R s m args below meth c Q D cT zt A nL rho0 (pc + 2) L (vI v :: r) h) : mm_W p l e R s m args below meth c Q D cT zt A nL rho0 (pc) L (r) h :=
  fun rho H locs cells slots ls hp hst hI => lv_bipush hx hb hd hv (k rho H locs cells slots ls hp (mm_okc trivial hst) hI)
theorem mr_sipush (hx : p.tables.exec = Jvm.exec) (hb : c.code = cc) {n : Int} {v : Int32} (hd : decode cc pc = .ok (.sipush n, 3)) (hv : (Int16.ofInt n).toInt32 = v) (k : mm_W p l e R s m args below meth c Q D cT zt A nL rho0 (pc + 3) L (vI v :: r) h) : mm_W p l e R s m args below meth c Q D cT zt A nL rho0 (pc) L (r) h :=
  fun rho H locs cells slots ls hp hst hI => lv_sipush hx hb hd hv (k rho H locs cells slots ls hp (mm_okc trivial hst) hI)
theorem mr_ldc (hx : p.tables.exec = Jvm.exec) (hb : c.code = cc) {own : String} {index : Nat} {v : Int32} (hown : s.vm.findClass own = some m.cls) (hc : (Jvm.Cond.constant own index v).before args s = true) (hd : decode cc pc = .ok (.ldc index, 2)) (k : mm_W p l e R s m args below meth c Q D cT zt A nL rho0 (pc + 2) L (vI v :: r) h) : mm_W p l e R s m args below meth c Q D cT zt A nL rho0 (pc) L (r) h :=
  fun rho H locs cells slots ls hp hst hI => lv_ldc hx hb hown hc hd (k rho H locs cells slots ls hp (mm_okc trivial hst) hI)
theorem mr_ldcw (hx : p.tables.exec = Jvm.exec) (hb : c.code = cc) {own : String} {index : Nat} {v : Int32} (hown : s.vm.findClass own = some m.cls) (hc : (Jvm.Cond.constant own index v).before args s = true) (hd : decode cc pc = .ok (.ldc_w index, 3)) (k : mm_W p l e R s m args below meth c Q D cT zt A nL rho0 (pc + 3) L (vI v :: r) h) : mm_W p l e R s m args below meth c Q D cT zt A nL rho0 (pc) L (r) h :=
  fun rho H locs cells slots ls hp hst hI => lv_ldcw hx hb hown hc hd (k rho H locs cells slots ls hp (mm_okc trivial hst) hI)
theorem mr_lconst (hx : p.tables.exec = Jvm.exec) (hb : c.code = cc) {n : Fin 2} (hd : decode cc pc = .ok (.lconst n, 1)) (k : mm_W p l e R s m args below meth c Q D cT zt A nL rho0 (pc + 1) L (vJ (Int64.ofNat n.val) :: r) h) : mm_W p l e R s m args below meth c Q D cT zt A nL rho0 (pc) L (r) h :=
  fun rho H locs cells slots ls hp hst hI => lv_lconst hx hb hd rfl (k rho H locs cells slots ls hp (mm_okc trivial hst) hI)
theorem mr_null (hx : p.tables.exec = Jvm.exec) (hb : c.code = cc) (hd : decode cc pc = .ok (.aconst_null, 1)) (k : mm_W p l e R s m args below meth c Q D cT zt A nL rho0 (pc + 1) L (vN :: r) h) : mm_W p l e R s m args below meth c Q D cT zt A nL rho0 (pc) L (r) h :=
  fun rho H locs cells slots ls hp hst hI => lv_null hx hb hd (k rho H locs cells slots ls hp (mm_okc trivial hst) hI)
theorem mr_iload (hx : p.tables.exec = Jvm.exec) (hb : c.code = cc) {i : Nat} {x : Int32} (hL : L[i]? = some (some (vI x))) (hd : decode cc pc = .ok (.iload i, 2)) (k : mm_W p l e R s m args below meth c Q D cT zt A nL rho0 (pc + 2) L (vI x :: r) h) : mm_W p l e R s m args below meth c Q D cT zt A nL rho0 (pc) L (r) h :=
  fun rho H locs cells slots ls hp hst hI => lv_iload hx hb hd (hI.2.2.2.2.2.2.1.2.2.2 _ _ hL) (k rho H locs cells slots ls hp (mm_okc trivial hst) hI)
theorem mr_iload_n (hx : p.tables.exec = Jvm.exec) (hb : c.code = cc) {n : Fin 4} {x : Int32} (hL : L[n.val]? = some (some (vI x))) (hd : decode cc pc = .ok (.iload_n n, 1)) (k : mm_W p l e R s m args below meth c Q D cT zt A nL rho0 (pc + 1) L (vI x :: r) h) : mm_W p l e R s m args below meth c Q D cT zt A nL rho0 (pc) L (r) h :=
  fun rho H locs cells slots ls hp hst hI => lv_iload_n hx hb hd rfl (hI.2.2.2.2.2.2.1.2.2.2 _ _ hL) (k rho H locs cells slots ls hp (mm_okc trivial hst) hI)
theorem mr_lload (hx : p.tables.exec = Jvm.exec) (hb : c.code = cc) {i : Nat} {x : Int64} (hL : L[i]? = some (some (vJ x))) (hd : decode cc pc = .ok (.lload i, 2)) (k : mm_W p l e R s m args below meth c Q D cT zt A nL rho0 (pc + 2) L (vJ x :: r) h) : mm_W p l e R s m args below meth c Q D cT zt A nL rho0 (pc) L (r) h :=
  fun rho H locs cells slots ls hp hst hI => lv_lload hx hb hd (hI.2.2.2.2.2.2.1.2.2.2 _ _ hL) (k rho H locs cells slots ls hp (mm_okc trivial hst) hI)
theorem mr_lload_n (hx : p.tables.exec = Jvm.exec) (hb : c.code = cc) {n : Fin 4} {x : Int64} (hL : L[n.val]? = some (some (vJ x))) (hd : decode cc pc = .ok (.lload_n n, 1)) (k : mm_W p l e R s m args below meth c Q D cT zt A nL rho0 (pc + 1) L (vJ x :: r) h) : mm_W p l e R s m args below meth c Q D cT zt A nL rho0 (pc) L (r) h :=
  fun rho H locs cells slots ls hp hst hI => lv_lload_n hx hb hd rfl (hI.2.2.2.2.2.2.1.2.2.2 _ _ hL) (k rho H locs cells slots ls hp (mm_okc trivial hst) hI)
theorem mr_aload (hx : p.tables.exec = Jvm.exec) (hb : c.code = cc) {i : Nat} {q : Option Nat} (hL : L[i]? = some (some (vQ q))) (hd : decode cc pc = .ok (.aload i, 2)) (k : mm_W p l e R s m args below meth c Q D cT zt A nL rho0 (pc + 2) L (vQ q :: r) h) : mm_W p l e R s m args below meth c Q D cT zt A nL rho0 (pc) L (r) h := by
  intro rho H locs cells slots ls hp hst hI
  have h1 := hI.2.2.2.2.2.2.1.2.2.2 _ _ hL
  have h2 := k rho H locs cells slots ls hp (mm_okc (hI.2.2.1 _ (List.mem_of_getElem? hL)) hst) hI
  cases q with
  | none => exact lv_aloadN hx hb hd h1 h2
  | some a => exact lv_aload hx hb hd h1 h2
theorem mr_aload_n (hx : p.tables.exec = Jvm.exec) (hb : c.code = cc) {n : Fin 4} {q : Option Nat} (hL : L[n.val]? = some (some (vQ q))) (hd : decode cc pc = .ok (.aload_n n, 1)) (k : mm_W p l e R s m args below meth c Q D cT zt A nL rho0 (pc + 1) L (vQ q :: r) h) : mm_W p l e R s m args below meth c Q D cT zt A nL rho0 (pc) L (r) h := by
  intro rho H locs cells slots ls hp hst hI
  have h1 := hI.2.2.2.2.2.2.1.2.2.2 _ _ hL
  have h2 := k rho H locs cells slots ls hp (mm_okc (hI.2.2.1 _ (List.mem_of_getElem? hL)) hst) hI
  cases q with
  | none => exact lv_aload_nN hx hb hd rfl h1 h2
  | some a => exact lv_aload_n hx hb hd rfl h1 h2
theorem mr_aloadZ (hx : p.tables.exec = Jvm.exec) (hb : c.code = cc) {i j : Nat} (hL : L[i]? = some (some (vZ j))) (hd : decode cc pc = .ok (.aload i, 2)) (k : mm_W p l e R s m args below meth c Q D cT zt A nL rho0 (pc + 2) L (vZ j :: r) h) : mm_W p l e R s m args below meth c Q D cT zt A nL rho0 (pc) L (r) h :=
  fun rho H locs cells slots ls hp hst hI => lv_aload hx hb hd (hI.2.2.2.2.2.2.1.2.2.2 _ _ hL) (k rho H locs cells slots ls hp (mm_okc trivial hst) hI)
theorem mr_aloadZ_n (hx : p.tables.exec = Jvm.exec) (hb : c.code = cc) {n : Fin 4} {j : Nat} (hL : L[n.val]? = some (some (vZ j))) (hd : decode cc pc = .ok (.aload_n n, 1)) (k : mm_W p l e R s m args below meth c Q D cT zt A nL rho0 (pc + 1) L (vZ j :: r) h) : mm_W p l e R s m args below meth c Q D cT zt A nL rho0 (pc) L (r) h :=
  fun rho H locs cells slots ls hp hst hI => lv_aload_n hx hb hd rfl (hI.2.2.2.2.2.2.1.2.2.2 _ _ hL) (k rho H locs cells slots ls hp (mm_okc trivial hst) hI)
theorem mr_ldc2 (hx : p.tables.exec = Jvm.exec) (hb : c.code = cc) {own : String} {index : Nat} {v : Int64} (hown : s.vm.findClass own = some m.cls) (hc : (Jvm.Cond.constantLong own index v).before args s = true) (hd : decode cc pc = .ok (.ldc2_w index, 3)) (k : mm_W p l e R s m args below meth c Q D cT zt A nL rho0 (pc + 3) L (vJ v :: r) h) : mm_W p l e R s m args below meth c Q D cT zt A nL rho0 (pc) L (r) h :=
  fun rho H locs cells slots ls hp hst hI => lv_ldc2 hx hb hown hc hd (k rho H locs cells slots ls hp (mm_okc trivial hst) hI)
theorem mr_lshl (hx : p.tables.exec = Jvm.exec) (hb : c.code = cc) {x : Int64} {y : Int32} (hd : decode cc pc = .ok (.lshl, 1)) (k : mm_W p l e R s m args below meth c Q D cT zt A nL rho0 (pc + 1) L (vJ (x <<< (y.toInt64 &&& 63)) :: r) h) : mm_W p l e R s m args below meth c Q D cT zt A nL rho0 (pc) L (vI y :: vJ x :: r) h :=
  fun rho H locs cells slots ls hp hst hI => lv_lshl hx hb hd rfl (k rho H locs cells slots ls hp (mm_okc trivial (mm_okt (mm_okt hst))) hI)
theorem mr_land (hx : p.tables.exec = Jvm.exec) (hb : c.code = cc) {x y : Int64} (hd : decode cc pc = .ok (.land, 1)) (k : mm_W p l e R s m args below meth c Q D cT zt A nL rho0 (pc + 1) L (vJ (x &&& y) :: r) h) : mm_W p l e R s m args below meth c Q D cT zt A nL rho0 (pc) L (vJ y :: vJ x :: r) h :=
  fun rho H locs cells slots ls hp hst hI => lv_land hx hb hd (k rho H locs cells slots ls hp (mm_okc trivial (mm_okt (mm_okt hst))) hI)
theorem mr_lor (hx : p.tables.exec = Jvm.exec) (hb : c.code = cc) {x y : Int64} (hd : decode cc pc = .ok (.lor, 1)) (k : mm_W p l e R s m args below meth c Q D cT zt A nL rho0 (pc + 1) L (vJ (x ||| y) :: r) h) : mm_W p l e R s m args below meth c Q D cT zt A nL rho0 (pc) L (vJ y :: vJ x :: r) h :=
  fun rho H locs cells slots ls hp hst hI => lv_lor hx hb hd (k rho H locs cells slots ls hp (mm_okc trivial (mm_okt (mm_okt hst))) hI)
theorem mr_lcmp (hx : p.tables.exec = Jvm.exec) (hb : c.code = cc) {x y : Int64} (hd : decode cc pc = .ok (.lcmp, 1)) (k : mm_W p l e R s m args below meth c Q D cT zt A nL rho0 (pc + 1) L (vI (lg_cmp x y) :: r) h) : mm_W p l e R s m args below meth c Q D cT zt A nL rho0 (pc) L (vJ y :: vJ x :: r) h :=
  fun rho H locs cells slots ls hp hst hI => W.lcmp hx hb hd (k rho H locs cells slots ls hp (mm_okc trivial (mm_okt (mm_okt hst))) hI)
theorem mm_setOk {n k : Nat} {v : mm_V} {L L' : mm_L} (hs : mm_set L k v = some L') (hv : mm_ok n v) (hL : ∀ w, some w ∈ L → mm_ok n w) : (∀ w, some w ∈ L' → mm_ok n w) ∧ k < L.length := by
  unfold mm_set at hs
  split at hs
  · rename_i hk
    split at hs
    · cases hs
    · cases hs
      refine ⟨fun w hw => ?_, hk⟩
      rcases List.mem_or_eq_of_mem_set hw with h1 | h1
      · exact hL w h1
      · cases h1; exact hv
  · cases hs
theorem mm_I.store {rho : List Nat} {H : Heap} {locs : List Loc} {cells slots k : Nat} {ls ls' : Array Slot} {v : mm_V} {L' : mm_L} (hI : mm_I R s D cT zt A nL rho L h H locs cells slots ls) (hv : mm_ok h.1.length v) (hs : mm_set L k v = some L') (h' : lv_has ls' nL ((k, mm_v rho zt v) :: (mm_as rho zt L).filter (fun q => !(q.1 == k) && !(q.1 + 1 == k && q.2.category == 2)))) : mm_I R s D cT zt A nL rho L' h H locs cells slots ls' :=
  ⟨hI.1, hI.2.1, (mm_setOk hs hv hI.2.2.1).1, hI.2.2.2.1, hI.2.2.2.2.1, hI.2.2.2.2.2.1, (hI.2.2.2.2.2.2.1.store hs h').1, hI.2.2.2.2.2.2.2⟩
theorem mm_I.lt {rho : List Nat} {H : Heap} {locs : List Loc} {cells slots k : Nat} {ls : Array Slot} {v : mm_V} {L' : mm_L} (hI : mm_I R s D cT zt A nL rho L h H locs cells slots ls) (hs : mm_set L k v = some L') : k < nL := by
  rw [← hI.2.2.2.2.2.2.1.1]
  unfold mm_set at hs
  split at hs
  · assumption
  · cases hs
theorem mr_istore (hx : p.tables.exec = Jvm.exec) (hb : c.code = cc) {i : Nat} {x : Int32} {L' : mm_L} (hs : mm_set L i (vI x) = some L') (hd : decode cc pc = .ok (.istore i, 2)) (k : mm_W p l e R s m args below meth c Q D cT zt A nL rho0 (pc + 2) L' (r) h) : mm_W p l e R s m args below meth c Q D cT zt A nL rho0 (pc) L (vI x :: r) h :=
  fun rho H locs cells slots ls hp hst hI => lv_istore hx hb hd hI.2.2.2.2.2.2.1.has (hI.lt hs) rfl fun ls' hl' => k rho H locs cells slots ls' hp (mm_okt hst) (hI.store (v := vI x) trivial hs hl')
theorem mr_istore_n (hx : p.tables.exec = Jvm.exec) (hb : c.code = cc) {n : Fin 4} {x : Int32} {L' : mm_L} (hs : mm_set L n.val (vI x) = some L') (hd : decode cc pc = .ok (.istore_n n, 1)) (k : mm_W p l e R s m args below meth c Q D cT zt A nL rho0 (pc + 1) L' (r) h) : mm_W p l e R s m args below meth c Q D cT zt A nL rho0 (pc) L (vI x :: r) h :=
  fun rho H locs cells slots ls hp hst hI => lv_istore_n hx hb hd rfl hI.2.2.2.2.2.2.1.has (hI.lt hs) rfl fun ls' hl' => k rho H locs cells slots ls' hp (mm_okt hst) (hI.store (v := vI x) trivial hs hl')
theorem mr_astore (hx : p.tables.exec = Jvm.exec) (hb : c.code = cc) {i : Nat} {q : Option Nat} {L' : mm_L} (hs : mm_set L i (vQ q) = some L') (hd : decode cc pc = .ok (.astore i, 2)) (k : mm_W p l e R s m args below meth c Q D cT zt A nL rho0 (pc + 2) L' (r) h) : mm_W p l e R s m args below meth c Q D cT zt A nL rho0 (pc) L (vQ q :: r) h := by
  intro rho H locs cells slots ls hp hst hI
  cases q with
  | none => exact lv_astoreN hx hb hd hI.2.2.2.2.2.2.1.has (hI.lt hs) rfl fun ls' hl' => k rho H locs cells slots ls' hp (mm_okt hst) (hI.store (mm_okh hst) hs hl')
  | some a => exact lv_astore hx hb hd hI.2.2.2.2.2.2.1.has (hI.lt hs) rfl fun ls' hl' => k rho H locs cells slots ls' hp (mm_okt hst) (hI.store (mm_okh hst) hs hl')
theorem mr_astore_n (hx : p.tables.exec = Jvm.exec) (hb : c.code = cc) {n : Fin 4} {q : Option Nat} {L' : mm_L} (hs : mm_set L n.val (vQ q) = some L') (hd : decode cc pc = .ok (.astore_n n, 1)) (k : mm_W p l e R s m args below meth c Q D cT zt A nL rho0 (pc + 1) L' (r) h) : mm_W p l e R s m args below meth c Q D cT zt A nL rho0 (pc) L (vQ q :: r) h := by
  intro rho H locs cells slots ls hp hst hI
  cases q with
  | none => exact lv_astore_nN hx hb hd rfl hI.2.2.2.2.2.2.1.has (hI.lt hs) rfl fun ls' hl' => k rho H locs cells slots ls' hp (mm_okt hst) (hI.store (mm_okh hst) hs hl')
  | some a => exact lv_astore_n hx hb hd rfl hI.2.2.2.2.2.2.1.has (hI.lt hs) rfl fun ls' hl' => k rho H locs cells slots ls' hp (mm_okt hst) (hI.store (mm_okh hst) hs hl')
theorem mr_iinc (hx : p.tables.exec = Jvm.exec) (hb : c.code = cc) {i : Nat} {n : Int} {x : Int32} {L' : mm_L} (hL : L[i]? = some (some (vI x))) (hs : mm_set L i (vI (x + Int32.ofInt n)) = some L') (hd : decode cc pc = .ok (.iinc i n, 3)) (k : mm_W p l e R s m args below meth c Q D cT zt A nL rho0 (pc + 3) L' (r) h) : mm_W p l e R s m args below meth c Q D cT zt A nL rho0 (pc) L (r) h := by
  intro rho H locs cells slots ls hp hst hI
  obtain ⟨j, hj⟩ := List.getElem?_of_mem (mm_as_mem (rho := rho) (zt := zt) hL)
  exact lv_iinc hx hb hd hI.2.2.2.2.2.2.1.has hj rfl (hI.lt hs) rfl fun ls' hl' => k rho H locs cells slots ls' hp hst (hI.store (v := vI (x + Int32.ofInt n)) trivial hs hl')
theorem mm_cat1 {rho : List Nat} {v : mm_V} (h : ∀ x, v ≠ vJ x) : (mm_v rho zt v).category = 1 := by
  obtain x | x | (_ | a) | j := v
  · rfl
  · exact absurd rfl (h x)
  · rfl
  · rfl
  · rfl
theorem mr_pop (hx : p.tables.exec = Jvm.exec) (hb : c.code = cc) {v : mm_V} (hv : ∀ x, v ≠ vJ x) (hd : decode cc pc = .ok (.pop, 1)) (k : mm_W p l e R s m args below meth c Q D cT zt A nL rho0 (pc + 1) L (r) h) : mm_W p l e R s m args below meth c Q D cT zt A nL rho0 (pc) L (v :: r) h :=
  fun rho H locs cells slots ls hp hst hI => lv_pop hx hb hd (mm_cat1 hv) (k rho H locs cells slots ls hp (mm_okt hst) hI)
theorem mr_dup (hx : p.tables.exec = Jvm.exec) (hb : c.code = cc) {v : mm_V} (hv : ∀ x, v ≠ vJ x) (hd : decode cc pc = .ok (.dup, 1)) (k : mm_W p l e R s m args below meth c Q D cT zt A nL rho0 (pc + 1) L (v :: v :: r) h) : mm_W p l e R s m args below meth c Q D cT zt A nL rho0 (pc) L (v :: r) h :=
  fun rho H locs cells slots ls hp hst hI => lv_dup hx hb hd (mm_cat1 hv) (k rho H locs cells slots ls hp (mm_okc (mm_okh hst) hst) hI)
theorem mr_goto (hx : p.tables.exec = Jvm.exec) (hb : c.code = cc) {off : Int} {tgt : Nat} (hd : decode cc pc = .ok (.goto off, 3)) (ht : (pc : Int) + off = (tgt : Int)) (k : mm_W p l e R s m args below meth c Q D cT zt A nL rho0 (tgt) L (r) h) : mm_W p l e R s m args below meth c Q D cT zt A nL rho0 (pc) L (r) h :=
  fun rho H locs cells slots ls hp hst hI => lv_goto hx hb hd ht (k rho H locs cells slots ls hp hst hI)
theorem mr_icmp_eq (hx : p.tables.exec = Jvm.exec) (hb : c.code = cc) {x y : Int32} {off : Int} {tgt : Nat} (hd : decode cc pc = .ok (.if_icmp .eq off, 3)) (ht : (pc : Int) + off = (tgt : Int)) (k1 : mm_cmp .eq x y → mm_W p l e R s m args below meth c Q D cT zt A nL rho0 (tgt) L (r) h) (k2 : ¬ mm_cmp .eq x y → mm_W p l e R s m args below meth c Q D cT zt A nL rho0 (pc + 3) L (r) h) : mm_W p l e R s m args below meth c Q D cT zt A nL rho0 (pc) L (vI y :: vI x :: r) h :=
  fun rho H locs cells slots ls hp hst hI => lv_icmp_eq hx hb hd ht (fun q => k1 q rho H locs cells slots ls hp (mm_okt (mm_okt hst)) hI) (fun q => k2 q rho H locs cells slots ls hp (mm_okt (mm_okt hst)) hI)
theorem mr_if_eq (hx : p.tables.exec = Jvm.exec) (hb : c.code = cc) {x : Int32} {off : Int} {tgt : Nat} (hd : decode cc pc = .ok (.ifCond .eq off, 3)) (ht : (pc : Int) + off = (tgt : Int)) (k1 : mm_cmp .eq x 0 → mm_W p l e R s m args below meth c Q D cT zt A nL rho0 (tgt) L (r) h) (k2 : ¬ mm_cmp .eq x 0 → mm_W p l e R s m args below meth c Q D cT zt A nL rho0 (pc + 3) L (r) h) : mm_W p l e R s m args below meth c Q D cT zt A nL rho0 (pc) L (vI x :: r) h :=
  fun rho H locs cells slots ls hp hst hI => lv_if_eq hx hb hd ht (fun q => k1 q rho H locs cells slots ls hp (mm_okt hst) hI) (fun q => k2 q rho H locs cells slots ls hp (mm_okt hst) hI)
theorem mr_icmp_ne (hx : p.tables.exec = Jvm.exec) (hb : c.code = cc) {x y : Int32} {off : Int} {tgt : Nat} (hd : decode cc pc = .ok (.if_icmp .ne off, 3)) (ht : (pc : Int) + off = (tgt : Int)) (k1 : mm_cmp .ne x y → mm_W p l e R s m args below meth c Q D cT zt A nL rho0 (tgt) L (r) h) (k2 : ¬ mm_cmp .ne x y → mm_W p l e R s m args below meth c Q D cT zt A nL rho0 (pc + 3) L (r) h) : mm_W p l e R s m args below meth c Q D cT zt A nL rho0 (pc) L (vI y :: vI x :: r) h :=
  fun rho H locs cells slots ls hp hst hI => lv_icmp_ne hx hb hd ht (fun q => k1 q rho H locs cells slots ls hp (mm_okt (mm_okt hst)) hI) (fun q => k2 (fun z => z q) rho H locs cells slots ls hp (mm_okt (mm_okt hst)) hI)
theorem mr_if_ne (hx : p.tables.exec = Jvm.exec) (hb : c.code = cc) {x : Int32} {off : Int} {tgt : Nat} (hd : decode cc pc = .ok (.ifCond .ne off, 3)) (ht : (pc : Int) + off = (tgt : Int)) (k1 : mm_cmp .ne x 0 → mm_W p l e R s m args below meth c Q D cT zt A nL rho0 (tgt) L (r) h) (k2 : ¬ mm_cmp .ne x 0 → mm_W p l e R s m args below meth c Q D cT zt A nL rho0 (pc + 3) L (r) h) : mm_W p l e R s m args below meth c Q D cT zt A nL rho0 (pc) L (vI x :: r) h :=
  fun rho H locs cells slots ls hp hst hI => lv_if_ne hx hb hd ht (fun q => k1 q rho H locs cells slots ls hp (mm_okt hst) hI) (fun q => k2 (fun z => z q) rho H locs cells slots ls hp (mm_okt hst) hI)
theorem mr_icmp_lt (hx : p.tables.exec = Jvm.exec) (hb : c.code = cc) {x y : Int32} {off : Int} {tgt : Nat} (hd : decode cc pc = .ok (.if_icmp .lt off, 3)) (ht : (pc : Int) + off = (tgt : Int)) (k1 : mm_cmp .lt x y → mm_W p l e R s m args below meth c Q D cT zt A nL rho0 (tgt) L (r) h) (k2 : ¬ mm_cmp .lt x y → mm_W p l e R s m args below meth c Q D cT zt A nL rho0 (pc + 3) L (r) h) : mm_W p l e R s m args below meth c Q D cT zt A nL rho0 (pc) L (vI y :: vI x :: r) h :=
  fun rho H locs cells slots ls hp hst hI => lv_icmp_lt hx hb hd ht (fun q => k1 q rho H locs cells slots ls hp (mm_okt (mm_okt hst)) hI) (fun q => k2 q rho H locs cells slots ls hp (mm_okt (mm_okt hst)) hI)
theorem mr_if_lt (hx : p.tables.exec = Jvm.exec) (hb : c.code = cc) {x : Int32} {off : Int} {tgt : Nat} (hd : decode cc pc = .ok (.ifCond .lt off, 3)) (ht : (pc : Int) + off = (tgt : Int)) (k1 : mm_cmp .lt x 0 → mm_W p l e R s m args below meth c Q D cT zt A nL rho0 (tgt) L (r) h) (k2 : ¬ mm_cmp .lt x 0 → mm_W p l e R s m args below meth c Q D cT zt A nL rho0 (pc + 3) L (r) h) : mm_W p l e R s m args below meth c Q D cT zt A nL rho0 (pc) L (vI x :: r) h :=
  fun rho H locs cells slots ls hp hst hI => lv_if_lt hx hb hd ht (fun q => k1 q rho H locs cells slots ls hp (mm_okt hst) hI) (fun q => k2 q rho H locs cells slots ls hp (mm_okt hst) hI)
theorem mr_icmp_ge (hx : p.tables.exec = Jvm.exec) (hb : c.code = cc) {x y : Int32} {off : Int} {tgt : Nat} (hd : decode cc pc = .ok (.if_icmp .ge off, 3)) (ht : (pc : Int) + off = (tgt : Int)) (k1 : mm_cmp .ge x y → mm_W p l e R s m args below meth c Q D cT zt A nL rho0 (tgt) L (r) h) (k2 : ¬ mm_cmp .ge x y → mm_W p l e R s m args below meth c Q D cT zt A nL rho0 (pc + 3) L (r) h) : mm_W p l e R s m args below meth c Q D cT zt A nL rho0 (pc) L (vI y :: vI x :: r) h :=
  fun rho H locs cells slots ls hp hst hI => lv_icmp_ge hx hb hd ht (fun q => k1 q rho H locs cells slots ls hp (mm_okt (mm_okt hst)) hI) (fun q => k2 q rho H locs cells slots ls hp (mm_okt (mm_okt hst)) hI)
theorem mr_if_ge (hx : p.tables.exec = Jvm.exec) (hb : c.code = cc) {x : Int32} {off : Int} {tgt : Nat} (hd : decode cc pc = .ok (.ifCond .ge off, 3)) (ht : (pc : Int) + off = (tgt : Int)) (k1 : mm_cmp .ge x 0 → mm_W p l e R s m args below meth c Q D cT zt A nL rho0 (tgt) L (r) h) (k2 : ¬ mm_cmp .ge x 0 → mm_W p l e R s m args below meth c Q D cT zt A nL rho0 (pc + 3) L (r) h) : mm_W p l e R s m args below meth c Q D cT zt A nL rho0 (pc) L (vI x :: r) h :=
  fun rho H locs cells slots ls hp hst hI => lv_if_ge hx hb hd ht (fun q => k1 q rho H locs cells slots ls hp (mm_okt hst) hI) (fun q => k2 q rho H locs cells slots ls hp (mm_okt hst) hI)
theorem mr_icmp_gt (hx : p.tables.exec = Jvm.exec) (hb : c.code = cc) {x y : Int32} {off : Int} {tgt : Nat} (hd : decode cc pc = .ok (.if_icmp .gt off, 3)) (ht : (pc : Int) + off = (tgt : Int)) (k1 : mm_cmp .gt x y → mm_W p l e R s m args below meth c Q D cT zt A nL rho0 (tgt) L (r) h) (k2 : ¬ mm_cmp .gt x y → mm_W p l e R s m args below meth c Q D cT zt A nL rho0 (pc + 3) L (r) h) : mm_W p l e R s m args below meth c Q D cT zt A nL rho0 (pc) L (vI y :: vI x :: r) h :=
  fun rho H locs cells slots ls hp hst hI => lv_icmp_gt hx hb hd ht (fun q => k1 q rho H locs cells slots ls hp (mm_okt (mm_okt hst)) hI) (fun q => k2 q rho H locs cells slots ls hp (mm_okt (mm_okt hst)) hI)
theorem mr_if_gt (hx : p.tables.exec = Jvm.exec) (hb : c.code = cc) {x : Int32} {off : Int} {tgt : Nat} (hd : decode cc pc = .ok (.ifCond .gt off, 3)) (ht : (pc : Int) + off = (tgt : Int)) (k1 : mm_cmp .gt x 0 → mm_W p l e R s m args below meth c Q D cT zt A nL rho0 (tgt) L (r) h) (k2 : ¬ mm_cmp .gt x 0 → mm_W p l e R s m args below meth c Q D cT zt A nL rho0 (pc + 3) L (r) h) : mm_W p l e R s m args below meth c Q D cT zt A nL rho0 (pc) L (vI x :: r) h :=
  fun rho H locs cells slots ls hp hst hI => lv_if_gt hx hb hd ht (fun q => k1 q rho H locs cells slots ls hp (mm_okt hst) hI) (fun q => k2 q rho H locs cells slots ls hp (mm_okt hst) hI)
theorem mr_icmp_le (hx : p.tables.exec = Jvm.exec) (hb : c.code = cc) {x y : Int32} {off : Int} {tgt : Nat} (hd : decode cc pc = .ok (.if_icmp .le off, 3)) (ht : (pc : Int) + off = (tgt : Int)) (k1 : mm_cmp .le x y → mm_W p l e R s m args below meth c Q D cT zt A nL rho0 (tgt) L (r) h) (k2 : ¬ mm_cmp .le x y → mm_W p l e R s m args below meth c Q D cT zt A nL rho0 (pc + 3) L (r) h) : mm_W p l e R s m args below meth c Q D cT zt A nL rho0 (pc) L (vI y :: vI x :: r) h :=
  fun rho H locs cells slots ls hp hst hI => lv_icmp_le hx hb hd ht (fun q => k1 q rho H locs cells slots ls hp (mm_okt (mm_okt hst)) hI) (fun q => k2 q rho H locs cells slots ls hp (mm_okt (mm_okt hst)) hI)
theorem mr_if_le (hx : p.tables.exec = Jvm.exec) (hb : c.code = cc) {x : Int32} {off : Int} {tgt : Nat} (hd : decode cc pc = .ok (.ifCond .le off, 3)) (ht : (pc : Int) + off = (tgt : Int)) (k1 : mm_cmp .le x 0 → mm_W p l e R s m args below meth c Q D cT zt A nL rho0 (tgt) L (r) h) (k2 : ¬ mm_cmp .le x 0 → mm_W p l e R s m args below meth c Q D cT zt A nL rho0 (pc + 3) L (r) h) : mm_W p l e R s m args below meth c Q D cT zt A nL rho0 (pc) L (vI x :: r) h :=
  fun rho H locs cells slots ls hp hst hI => lv_if_le hx hb hd ht (fun q => k1 q rho H locs cells slots ls hp (mm_okt hst) hI) (fun q => k2 q rho H locs cells slots ls hp (mm_okt hst) hI)
theorem mr_ifnull (hx : p.tables.exec = Jvm.exec) (hb : c.code = cc) {q : Option Nat} {off : Int} {tgt : Nat} (hd : decode cc pc = .ok (.ifnull off, 3)) (ht : (pc : Int) + off = (tgt : Int)) (k1 : q = none → mm_W p l e R s m args below meth c Q D cT zt A nL rho0 (tgt) L (r) h) (k2 : ¬ q = none → mm_W p l e R s m args below meth c Q D cT zt A nL rho0 (pc + 3) L (r) h) : mm_W p l e R s m args below meth c Q D cT zt A nL rho0 (pc) L (vQ q :: r) h := by
  intro rho H locs cells slots ls hp hst hI
  cases q with
  | none => exact lv_ifnullN hx hb hd ht (k1 rfl rho H locs cells slots ls hp (mm_okt hst) hI)
  | some a => exact lv_ifnull hx hb hd (k2 (by simp) rho H locs cells slots ls hp (mm_okt hst) hI)
theorem mr_ifnonnull (hx : p.tables.exec = Jvm.exec) (hb : c.code = cc) {q : Option Nat} {off : Int} {tgt : Nat} (hd : decode cc pc = .ok (.ifnonnull off, 3)) (ht : (pc : Int) + off = (tgt : Int)) (k1 : ¬ q = none → mm_W p l e R s m args below meth c Q D cT zt A nL rho0 (tgt) L (r) h) (k2 : q = none → mm_W p l e R s m args below meth c Q D cT zt A nL rho0 (pc + 3) L (r) h) : mm_W p l e R s m args below meth c Q D cT zt A nL rho0 (pc) L (vQ q :: r) h := by
  intro rho H locs cells slots ls hp hst hI
  cases q with
  | none => exact lv_ifnonnullN hx hb hd (k2 rfl rho H locs cells slots ls hp (mm_okt hst) hI)
  | some a => exact lv_ifnonnull hx hb hd ht (k1 (by simp) rho H locs cells slots ls hp (mm_okt hst) hI)
theorem mm_vQ (rho : List Nat) (q : Option Nat) : mm_v rho zt (vQ q) = va_rf (mm_q rho q) := by cases q <;> rfl
theorem mm_rho_inj {rho : List Nat} {cs : List mm_O} (hl : rho.length = cs.length) (hD : va_D A (mm_w rho zt cT cs)) {a b : Nat} (ha : a < cs.length) (hb : b < cs.length) (hab : rho.getD a 0 = rho.getD b 0) : a = b := by
  obtain ⟨x, hx⟩ : ∃ x, cs[a]? = some x := ⟨cs[a], List.getElem?_eq_getElem ha⟩
  obtain ⟨y, hy⟩ : ∃ y, cs[b]? = some y := ⟨cs[b], List.getElem?_eq_getElem hb⟩
  exact hD.1 a b _ _ (mm_w_at hl hx) (mm_w_at hl hy) hab
theorem mm_q_inj {rho : List Nat} {cs : List mm_O} (hl : rho.length = cs.length) (hD : va_D A (mm_w rho zt cT cs)) {a b : Option Nat} (ha : mm_ok cs.length (vQ a)) (hb : mm_ok cs.length (vQ b)) : mm_q rho a = mm_q rho b ↔ a = b := by
  refine ⟨fun hq => ?_, fun hq => by rw [hq]⟩
  cases a with
  | none => cases b with
    | none => rfl
    | some y => simp [mm_q] at hq
  | some x => cases b with
    | none => simp [mm_q] at hq
    | some y =>
      simp only [mm_q, Option.map_some, Option.some.injEq] at hq
      rw [mm_rho_inj hl hD ha hb hq]
theorem mr_acmp_eq (hx : p.tables.exec = Jvm.exec) (hb : c.code = cc) {a b : Option Nat} {off : Int} {tgt : Nat} (hd : decode cc pc = .ok (.if_acmp .eq off, 3)) (ht : (pc : Int) + off = (tgt : Int)) (k1 : a = b → mm_W p l e R s m args below meth c Q D cT zt A nL rho0 (tgt) L (r) h) (k2 : ¬ a = b → mm_W p l e R s m args below meth c Q D cT zt A nL rho0 (pc + 3) L (r) h) : mm_W p l e R s m args below meth c Q D cT zt A nL rho0 (pc) L (vQ b :: vQ a :: r) h := by
  intro rho H locs cells slots ls hp hst hI
  have hq := mm_q_inj (zt := zt) (cT := cT) (A := A) hI.1 hI.2.2.2.2.1 (a := a) (b := b) (mm_okh (mm_okt hst)) (mm_okh hst)
  rw [List.map_cons, List.map_cons, mm_vQ, mm_vQ]
  exact lv_acmp_eq hx hb hd ht (fun z => k1 (hq.mp z) rho H locs cells slots ls hp (mm_okt (mm_okt hst)) hI) (fun z => k2 (fun y => z (hq.mpr y)) rho H locs cells slots ls hp (mm_okt (mm_okt hst)) hI)
theorem mr_acmp_ne (hx : p.tables.exec = Jvm.exec) (hb : c.code = cc) {a b : Option Nat} {off : Int} {tgt : Nat} (hd : decode cc pc = .ok (.if_acmp .ne off, 3)) (ht : (pc : Int) + off = (tgt : Int)) (k1 : ¬ a = b → mm_W p l e R s m args below meth c Q D cT zt A nL rho0 (tgt) L (r) h) (k2 : a = b → mm_W p l e R s m args below meth c Q D cT zt A nL rho0 (pc + 3) L (r) h) : mm_W p l e R s m args below meth c Q D cT zt A nL rho0 (pc) L (vQ b :: vQ a :: r) h := by
  intro rho H locs cells slots ls hp hst hI
  have hq := mm_q_inj (zt := zt) (cT := cT) (A := A) hI.1 hI.2.2.2.2.1 (a := a) (b := b) (mm_okh (mm_okt hst)) (mm_okh hst)
  rw [List.map_cons, List.map_cons, mm_vQ, mm_vQ]
  exact lv_acmp_ne hx hb hd ht (fun z => k1 (fun y => z (hq.mpr y)) rho H locs cells slots ls hp (mm_okt (mm_okt hst)) hI) (fun z => k2 (hq.mp z) rho H locs cells slots ls hp (mm_okt (mm_okt hst)) hI)
end MR
end
section
theorem mm_fld_of {h : mm_H} {a ci k : Nat} {v : mm_V} (hv : mm_fld h a ci k = some v) : ∃ fs, h.1[a]? = some (.inl (ci, fs)) ∧ fs[k]? = some v := by
  unfold mm_fld at hv
  split at hv
  · rename_i cq fs hq
    split at hv
    · rename_i hc
      subst hc
      exact ⟨fs, hq, hv⟩
    · cases hv
  · cases hv
theorem mm_put_of {h h' : mm_H} {a ci k : Nat} {v : mm_V} (hv : mm_put h a ci k v = some h') : ∃ fs, h.1[a]? = some (.inl (ci, fs)) ∧ k < fs.length ∧ h' = (h.1.set a (.inl (ci, fs.set k v)), h.2) := by
  unfold mm_put at hv
  split at hv
  · rename_i cq fs hq
    split at hv
    · rename_i hc
      obtain ⟨rfl, hk⟩ := hc
      cases hv
      exact ⟨fs, hq, hk, rfl⟩
    · cases hv
  · cases hv
theorem mm_int_of {h : mm_H} {a kd : Nat} {xs : List Int32} (hv : mm_int h a kd = some xs) : h.1[a]? = some (.inr (.inl (kd, xs))) := by
  unfold mm_int at hv
  split at hv
  · rename_i q hq
    split at hv
    · rename_i hk
      subst hk
      cases hv
      exact hq
    · cases hv
  · cases hv
theorem mm_lng_of {h : mm_H} {a : Nat} {xs : List Int64} (hv : mm_lng h a = some xs) : h.1[a]? = some (.inr (.inr (.inl xs))) := by
  unfold mm_lng at hv
  split at hv
  · rename_i hq; cases hv; exact hq
  · cases hv
theorem mm_refs_of {h : mm_H} {a : Nat} {q : Nat × List (Option Nat)} (hv : mm_refs h a = some q) : h.1[a]? = some (.inr (.inr (.inr q))) ∧ q.1 < 2 := by
  unfold mm_refs at hv
  split at hv
  · rename_i q' hq
    split at hv
    · rename_i hk
      cases hv
      exact ⟨hq, hk⟩
    · cases hv
  · cases hv
theorem mm_tys_q {cT : Nat → ClassId} {j : Nat} (hj : j < 2) : ∃ C T N, (mm_tys cT)[j + 4]? = some (cT (j + 4), .object C) ∧ vwCl[mm_el j]? = some (C, T, N) := by
  match j, hj with
  | 0, _ => exact ⟨_, _, _, rfl, rfl⟩
  | 1, _ => exact ⟨_, _, _, rfl, rfl⟩
theorem mm_ix_of {i : Int32} {n k : Nat} (h : mm_ix i n = some k) : vp_in i n ∧ i.toNatClampNeg = k ∧ k < n := by
  unfold mm_ix at h
  split at h
  · cases h
  · rename_i h0
    split at h
    · rename_i h1
      cases h
      exact ⟨fun q => q.elim h0 (fun z => absurd h1 (Nat.not_lt.mpr z)), rfl, h1⟩
    · cases h
theorem mm_okO_set {cs : List mm_O} {a : Nat} {x : mm_O} (hok : ∀ o ∈ cs, mm_okO cs.length o) (hx : mm_okO cs.length x) : ∀ o ∈ cs.set a x, mm_okO (cs.set a x).length o := by
  intro o ho
  rw [List.length_set]
  rcases List.mem_or_eq_of_mem_set ho with h1 | h1
  · exact hok o h1
  · rw [h1]; exact hx
theorem mm_rep_getD {α : Type} (n j : Nat) (d : α) : (List.replicate n d).getD j d = d := by
  simp only [List.getD_eq_getElem?_getD, List.getElem?_replicate]
  split <;> rfl
theorem mm_mem_set {α : Type} {l : List α} {k : Nat} {v w : α} (h : w ∈ l.set k v) : w ∈ l ∨ w = v := List.mem_or_eq_of_mem_set h
section MR
variable {p : Program} {l : Launch} {e : Env} {R : Room} {s : State} {m : MethodId} {args : Array Value} {below : List Frame} {meth : Method} {c : Code} {Q : State → Prop} {D : va_G} {cT : Nat → ClassId} {zt : Nat → Nat} {A : Nat → Prop} {nL : Nat} {rho0 : List Nat} {cc : ByteArray} {pc : Nat} {L : mm_L} {r : List mm_V} {h : mm_H} {Ts : List Jvm.Cond}
theorem mm_at {rho : List Nat} {H : Heap} {locs : List Loc} {cells slots : Nat} {ls : Array Slot} (hI : mm_I R s D cT zt A nL rho L h H locs cells slots ls) {a : Nat} {o : mm_O} (ho : h.1[a]? = some o) : (mm_w rho zt cT h.1)[a]? = some (rho.getD a 0, mm_e rho zt cT o) := mm_w_at hI.1 ho
/-- behind a write into the cell a -/
theorem mm_I.wrote {rho : List Nat} {H H1 : Heap} {locs locs1 : List Loc} {cells slots : Nat} {ls : Array Slot} (hI : mm_I R s D cT zt A nL rho L h H locs cells slots ls) {a : Nat} {o0 x : mm_O} (ho : h.1[a]? = some o0) (hx : mm_okO h.1.length x) (hP : va_P D vwCl ((mm_w rho zt cT h.1).set a (rho.getD a 0, mm_e rho zt cT x)) H1) (hD : va_D A ((mm_w rho zt cT h.1).set a (rho.getD a 0, mm_e rho zt cT x))) (hS : va_S A s.heap H1 locs1) : mm_I R s D cT zt A nL rho L (h.1.set a x, h.2) H1 locs1 cells slots ls := by
  have ha : a < h.1.length := (List.getElem?_eq_some_iff.mp ho).1
  rw [← mm_w_set hI.1 ha] at hP hD
  refine ⟨by rw [List.length_set]; exact hI.1, mm_okO_set hI.2.1 hx, fun v hv => by rw [List.length_set]; exact hI.2.2.1 v hv, hP, hD, hS, hI.2.2.2.2.2.2⟩
/-- behind a new cell -/
theorem mm_I.made {rho : List Nat} {H H1 : Heap} {locs : List Loc} {cells slots n : Nat} {ls : Array Slot} (hI : mm_I R s D cT zt A nL rho L h H locs cells slots ls) {x : mm_O} {q : Nat} {E : va_E} {h' : mm_H} (hn : mm_new h x n = some h') (hx : mm_okO 0 x) (hE : E = mm_e rho zt cT x) (hP : va_P D vwCl (mm_w rho zt cT h.1 ++ [(q, E)]) H1) (hD : va_D A (mm_w rho zt cT h.1 ++ [(q, E)])) (hS : va_S A s.heap H1 locs) : mm_I R s D cT zt A nL (rho ++ [q]) L h' H1 locs (cells + 1) (slots + n) ls := by
  unfold mm_new at hn
  split at hn
  · rename_i hb
    cases hn
    have hx0 : mm_okO rho.length x := mm_okO_mono (Nat.zero_le _) hx
    rw [hE, ← mm_e_app (t := [q]) hx0, ← mm_w_app hI.1 hI.2.1] at hP hD
    have hlen : (h.1 ++ [x]).length = h.1.length + 1 := by simp
    refine ⟨by simp [hI.1], fun o ho => ?_, fun v hv => mm_ok_mono (by simp) (hI.2.2.1 v hv), hP, hD, hS, hI.2.2.2.2.2.2.1.grow (fun v hv => by rw [hI.1]; exact hI.2.2.1 v hv), ?_, ?_⟩
    · rcases List.mem_append.mp ho with h1 | h1
      · exact mm_okO_mono (by simp) (hI.2.1 o h1)
      · rw [List.mem_singleton.mp h1]; exact mm_okO_mono (Nat.zero_le _) hx
    · have := hI.2.2.2.2.2.2.2.1
      show cells + 1 + (h.2.1 - 1) ≤ R.cells
      omega
    · have := hI.2.2.2.2.2.2.2.2
      show slots + n + (h.2.2 - n) ≤ R.slots
      omega
  · cases hn
theorem mm_new_of {x : mm_O} {n : Nat} {h' : mm_H} (hn : mm_new h x n = some h') : 1 ≤ h.2.1 ∧ n ≤ h.2.2 ∧ h'.1.length = h.1.length + 1 := by
  unfold mm_new at hn
  split at hn
  · rename_i hb
    cases hn
    exact ⟨hb.1, hb.2, by simp⟩
  · cases hn
theorem mr_get (hx : p.tables.exec = Jvm.exec) (hb : c.code = cc) {own C : String} {T : u_T} {N ci index k : Nat} (hts : ∀ w ∈ Ts, w.before args s = true) (hin : ∀ w ∈ u_ws C T N, w ∈ Ts) (hown : s.vm.findClass own = some m.cls) (hK : va_K D vwCl (mm_tys cT) s) (hc : vwCl[ci]? = some (C, T, N)) (hk : k < N) (hl : (Jvm.Cond.fieldLink own index (T k).1 (T k).2.1 (T k).2.2.1).before args s = true) {a : Nat} {v : mm_V} (hv : mm_fld h a ci k = some v) (hd : decode cc pc = .ok (.getfield index, 3)) (kk : mm_W p l e R s m args below meth c Q D cT zt A nL rho0 (pc + 3) L (v :: r) h) : mm_W p l e R s m args below meth c Q D cT zt A nL rho0 (pc) L (vR a :: r) h := by
  intro rho H locs cells slots ls hp hst hI
  obtain ⟨fs, h1, h2⟩ := mm_fld_of hv
  have hok : mm_ok h.1.length v := hI.2.1 _ (List.mem_of_getElem? h1) v (List.mem_of_getElem? h2)
  exact va_get hx hb hts hin hown hK hI.2.2.2.1 a (mm_at hI h1) hc k hk hl (fun _ z => z) (v := mm_v rho zt v) (by rw [List.getElem?_map, h2]; rfl) hd (kk rho H locs cells slots ls hp (mm_okc hok (mm_okt hst)) hI)
theorem mr_getN (hx : p.tables.exec = Jvm.exec) (hb : c.code = cc) {own C : String} {host : String} {T : u_T} {N ci index k : Nat} (hts : ∀ w ∈ Ts, w.before args s = true) (hin : ∀ w ∈ u_ws C T N, w ∈ Ts) (hown : s.vm.findClass own = some m.cls) (hK : va_K D vwCl (mm_tys cT) s) (hc : vwCl[ci]? = some (C, T, N)) (hk : k < N) (hl : (Jvm.Cond.fieldLinkNest own index (T k).1 (T k).2.1 (T k).2.2.1 host).before args s = true) {a : Nat} {v : mm_V} (hv : mm_fld h a ci k = some v) (hd : decode cc pc = .ok (.getfield index, 3)) (kk : mm_W p l e R s m args below meth c Q D cT zt A nL rho0 (pc + 3) L (v :: r) h) : mm_W p l e R s m args below meth c Q D cT zt A nL rho0 (pc) L (vR a :: r) h := by
  intro rho H locs cells slots ls hp hst hI
  obtain ⟨fs, h1, h2⟩ := mm_fld_of hv
  have hok : mm_ok h.1.length v := hI.2.1 _ (List.mem_of_getElem? h1) v (List.mem_of_getElem? h2)
  exact va_getN hx hb hts hin hown hK hI.2.2.2.1 a (mm_at hI h1) hc k hk hl (fun _ z => z) (v := mm_v rho zt v) (by rw [List.getElem?_map, h2]; rfl) hd (kk rho H locs cells slots ls hp (mm_okc hok (mm_okt hst)) hI)
theorem mr_put (hx : p.tables.exec = Jvm.exec) (hb : c.code = cc) {own C : String} {T : u_T} {N ci index k : Nat} (hts : ∀ w ∈ Ts, w.before args s = true) (hin : ∀ w ∈ u_ws C T N, w ∈ Ts) (ty0 : Nat → FieldType) (hty : ∀ k, k < N → parseFieldDescriptor (T k).2.2.1 = some (ty0 k)) (hnm : ∀ a, a < N → ∀ b, b < N → a ≠ b → (T a).2.1 ≠ (T b).2.1) (hown : s.vm.findClass own = some m.cls) (hK : va_K D vwCl (mm_tys cT) s) (hc : vwCl[ci]? = some (C, T, N)) (hk : k < N) (hl : (Jvm.Cond.fieldLink own index (T k).1 (T k).2.1 (T k).2.2.1).before args s = true) (hfin : (T k).2.2.2 = false) {a : Nat} {v : mm_V} {h' : mm_H} (hn : ∀ rho : List Nat, narrow (ty0 k) (mm_v rho zt v) = mm_v rho zt v ∧ fits (ty0 k) (mm_v rho zt v) = true) (hv : mm_put h a ci k v = some h') (hd : decode cc pc = .ok (.putfield index, 3)) (kk : mm_W p l e R s m args below meth c Q D cT zt A nL rho0 (pc + 3) L (r) h') : mm_W p l e R s m args below meth c Q D cT zt A nL rho0 (pc) L (v :: vR a :: r) h := by
  intro rho H locs cells slots ls hp hst hI
  obtain ⟨fs, h1, h2, rfl⟩ := mm_put_of hv
  refine va_put hx hb hts hin ty0 hty hnm hown hK hI.2.2.2.1 hI.2.2.2.2.1 hI.2.2.2.2.2.1 a (mm_at hI h1) hc k hk hl (fun _ z => z) hfin (hty k hk) (hn rho).1 (hn rho).2 (by rw [List.length_map]; exact h2) hd fun H1 locs1 hP hD hS => ?_
  rw [← List.map_set] at hP hD
  have hx2 : mm_okO h.1.length (.inl (ci, fs.set k v)) := fun w hw => by
    rcases mm_mem_set hw with z | z
    · exact hI.2.1 _ (List.mem_of_getElem? h1) w z
    · rw [z]; exact mm_okh hst
  exact kk rho H1 locs1 cells slots ls hp (by rw [List.length_set]; exact mm_okt (mm_okt hst)) (hI.wrote h1 hx2 hP hD hS)
theorem mr_putF (hx : p.tables.exec = Jvm.exec) (hb : c.code = cc) {own C : String} {T : u_T} {N ci index k : Nat} (hts : ∀ w ∈ Ts, w.before args s = true) (hin : ∀ w ∈ u_ws C T N, w ∈ Ts) (ty0 : Nat → FieldType) (hty : ∀ k, k < N → parseFieldDescriptor (T k).2.2.1 = some (ty0 k)) (hnm : ∀ a, a < N → ∀ b, b < N → a ≠ b → (T a).2.1 ≠ (T b).2.1) (hown : s.vm.findClass own = some m.cls) (hK : va_K D vwCl (mm_tys cT) s) (hc : vwCl[ci]? = some (C, T, N)) (hk : k < N) (hl : (Jvm.Cond.fieldLink own index (T k).1 (T k).2.1 (T k).2.2.1).before args s = true) (hfin : (T k).2.2.2 = true) (hin2 : meth.name = "<init>") (hdecl : (T k).1 = own) {a : Nat} {v : mm_V} {h' : mm_H} (hn : ∀ rho : List Nat, narrow (ty0 k) (mm_v rho zt v) = mm_v rho zt v ∧ fits (ty0 k) (mm_v rho zt v) = true) (hv : mm_put h a ci k v = some h') (hd : decode cc pc = .ok (.putfield index, 3)) (kk : mm_W p l e R s m args below meth c Q D cT zt A nL rho0 (pc + 3) L (r) h') : mm_W p l e R s m args below meth c Q D cT zt A nL rho0 (pc) L (v :: vR a :: r) h := by
  intro rho H locs cells slots ls hp hst hI
  obtain ⟨fs, h1, h2, rfl⟩ := mm_put_of hv
  refine va_putF hx hb hts hin ty0 hty hnm hown hK hI.2.2.2.1 hI.2.2.2.2.1 hI.2.2.2.2.2.1 a (mm_at hI h1) hc k hk hl (fun _ z => z) hfin hin2 hdecl (hty k hk) (hn rho).1 (hn rho).2 (by rw [List.length_map]; exact h2) hd fun H1 locs1 hP hD hS => ?_
  rw [← List.map_set] at hP hD
  have hx2 : mm_okO h.1.length (.inl (ci, fs.set k v)) := fun w hw => by
    rcases mm_mem_set hw with z | z
    · exact hI.2.1 _ (List.mem_of_getElem? h1) w z
    · rw [z]; exact mm_okh hst
  exact kk rho H1 locs1 cells slots ls hp (by rw [List.length_set]; exact mm_okt (mm_okt hst)) (hI.wrote h1 hx2 hP hD hS)
theorem mr_putN (hx : p.tables.exec = Jvm.exec) (hb : c.code = cc) {own C : String} {host : String} {T : u_T} {N ci index k : Nat} (hts : ∀ w ∈ Ts, w.before args s = true) (hin : ∀ w ∈ u_ws C T N, w ∈ Ts) (ty0 : Nat → FieldType) (hty : ∀ k, k < N → parseFieldDescriptor (T k).2.2.1 = some (ty0 k)) (hnm : ∀ a, a < N → ∀ b, b < N → a ≠ b → (T a).2.1 ≠ (T b).2.1) (hown : s.vm.findClass own = some m.cls) (hK : va_K D vwCl (mm_tys cT) s) (hc : vwCl[ci]? = some (C, T, N)) (hk : k < N) (hl : (Jvm.Cond.fieldLinkNest own index (T k).1 (T k).2.1 (T k).2.2.1 host).before args s = true) (hfin : (T k).2.2.2 = false) {a : Nat} {v : mm_V} {h' : mm_H} (hn : ∀ rho : List Nat, narrow (ty0 k) (mm_v rho zt v) = mm_v rho zt v ∧ fits (ty0 k) (mm_v rho zt v) = true) (hv : mm_put h a ci k v = some h') (hd : decode cc pc = .ok (.putfield index, 3)) (kk : mm_W p l e R s m args below meth c Q D cT zt A nL rho0 (pc + 3) L (r) h') : mm_W p l e R s m args below meth c Q D cT zt A nL rho0 (pc) L (v :: vR a :: r) h := by
  intro rho H locs cells slots ls hp hst hI
  obtain ⟨fs, h1, h2, rfl⟩ := mm_put_of hv
  refine va_putN hx hb hts hin ty0 hty hnm hown hK hI.2.2.2.1 hI.2.2.2.2.1 hI.2.2.2.2.2.1 a (mm_at hI h1) hc k hk hl (fun _ z => z) hfin (hty k hk) (hn rho).1 (hn rho).2 (by rw [List.length_map]; exact h2) hd fun H1 locs1 hP hD hS => ?_
  rw [← List.map_set] at hP hD
  have hx2 : mm_okO h.1.length (.inl (ci, fs.set k v)) := fun w hw => by
    rcases mm_mem_set hw with z | z
    · exact hI.2.1 _ (List.mem_of_getElem? h1) w z
    · rw [z]; exact mm_okh hst
  exact kk rho H1 locs1 cells slots ls hp (by rw [List.length_set]; exact mm_okt (mm_okt hst)) (hI.wrote h1 hx2 hP hD hS)
theorem mr_new (hx : p.tables.exec = Jvm.exec) (hb : c.code = cc) {own C : String} {T : u_T} {N ci index : Nat} (hts : ∀ w ∈ Ts, w.before args s = true) (hin : ∀ w ∈ u_ws C T N, w ∈ Ts) (ty0 : Nat → FieldType) (hty : ∀ k, k < N → parseFieldDescriptor (T k).2.2.1 = some (ty0 k)) (hown : s.vm.findClass own = some m.cls) (hcl : (Jvm.Cond.classLink own index C).before args s = true) (hinst : (Jvm.Cond.instantiable C N).before args s = true) (hini : (Jvm.Cond.initialized C).before args s = true) (hK : va_K D vwCl (mm_tys cT) s) (hA : ∀ q, s.heap.size ≤ q → A q) (hc : vwCl[ci]? = some (C, T, N)) {fs : List mm_V} {h' : mm_H} (hfs : ∀ (rho : List Nat) (j : Nat), j < N → defaultValue (ty0 j) = vp_V (fs.map (mm_v rho zt)) j) (hf0 : ∀ v ∈ fs, mm_ok 0 v) (hn : mm_new h (.inl (ci, fs)) N = some h') (hd : decode cc pc = .ok (.new index, 3)) (kk : mm_W p l e R s m args below meth c Q D cT zt A nL rho0 (pc + 3) L (vR h.1.length :: r) h') : mm_W p l e R s m args below meth c Q D cT zt A nL rho0 (pc) L (r) h := by
  intro rho H locs cells slots ls hp hst hI
  obtain ⟨b1, b2, b3⟩ := mm_new_of hn
  have q1 := hI.2.2.2.2.2.2.2.1
  have q2 := hI.2.2.2.2.2.2.2.2
  refine va_new hx hb hts hin ty0 hty hown hcl hinst hini hK hI.2.2.2.1 hI.2.2.2.2.1 hI.2.2.2.2.2.1 hA hc (fs := fs.map (mm_v rho zt)) (hfs rho) (by omega) (by omega) hd fun q H1 hP hD hS => ?_
  have hI' := hI.made hn hf0 rfl hP hD hS
  have hz : (rho ++ [q]).getD h.1.length 0 = q := by rw [← hI.1]; simp [List.getD_eq_getElem?_getD]
  have := kk (rho ++ [q]) H1 locs (cells + 1) (slots + N) ls (hp.trans (List.prefix_append _ _)) (mm_okc (by show h.1.length < _; omega) (fun w hw => mm_ok_mono (by omega) (hst w hw))) hI'
  rw [List.map_cons, mm_map_app (fun w hw => by rw [hI.1]; exact hst w hw)] at this
  simp only [mm_v, hz] at this
  exact this
theorem mr_newa_int (hx : p.tables.exec = Jvm.exec) (hb : c.code = cc) (harr : (Jvm.Cond.arrayClass .int).before args s = true) (hK : va_K D vwCl (mm_tys cT) s) (hA : ∀ q, s.heap.size ≤ q → A q) {n : Int32} {N : Nat} {h' : mm_H} (h0 : ¬ n < 0) (hN : n.toNatClampNeg = N) (hbig : N * 4 ≤ 536870912) (hn : mm_new h (.inr (.inl (0, List.replicate N (0 : Int32)))) N = some h') (hd : decode cc pc = .ok (.newarray .int, 2)) (kk : mm_W p l e R s m args below meth c Q D cT zt A nL rho0 (pc + 2) L (vR h.1.length :: r) h') : mm_W p l e R s m args below meth c Q D cT zt A nL rho0 (pc) L (vI n :: r) h := by
  intro rho H locs cells slots ls hp hst hI
  obtain ⟨b1, b2, b3⟩ := mm_new_of hn
  have q1 := hI.2.2.2.2.2.2.2.1
  have q2 := hI.2.2.2.2.2.2.2.2
  refine va_newa hx hb (atype := .int) harr (ty := .int) rfl hK hI.2.2.2.1 hI.2.2.2.2.1 hI.2.2.2.2.2.1 hA (N' := N) (a0 := (N, .inl fun _ => (0 : Int32))) (fun _ => rfl) h0 hN hbig (by omega) (by omega) hd fun q cA H1 hK1 hP hD hS => ?_
  have hcA : cA = cT 0 := by
    have e1 : va_RA s cA .int := (hK1.2 6 (cA, .int) rfl).2
    have e2 : va_RA s (cT 0) .int := (hK.2 0 _ rfl).2
    exact Option.some.inj (e1.symm.trans e2)
  subst hcA
  have hI' := hI.made (x := .inr (.inl (0, List.replicate N (0 : Int32)))) hn trivial (by simp only [mm_e, List.length_replicate, mm_rep_getD]) hP hD hS
  have hz : (rho ++ [q]).getD h.1.length 0 = q := by rw [← hI.1]; simp [List.getD_eq_getElem?_getD]
  have := kk (rho ++ [q]) H1 locs (cells + 1) (slots + N) ls (hp.trans (List.prefix_append _ _)) (mm_okc (by show h.1.length < _; omega) (fun w hw => mm_ok_mono (by omega) (mm_okt hst w hw))) hI'
  rw [List.map_cons, mm_map_app (fun w hw => by rw [hI.1]; exact mm_okt hst w hw)] at this
  simp only [mm_v, hz] at this
  exact this
theorem mr_newa_byte (hx : p.tables.exec = Jvm.exec) (hb : c.code = cc) (harr : (Jvm.Cond.arrayClass .byte).before args s = true) (hK : va_K D vwCl (mm_tys cT) s) (hA : ∀ q, s.heap.size ≤ q → A q) {n : Int32} {N : Nat} {h' : mm_H} (h0 : ¬ n < 0) (hN : n.toNatClampNeg = N) (hbig : N * 1 ≤ 536870912) (hn : mm_new h (.inr (.inl (1, List.replicate N (0 : Int32)))) N = some h') (hd : decode cc pc = .ok (.newarray .byte, 2)) (kk : mm_W p l e R s m args below meth c Q D cT zt A nL rho0 (pc + 2) L (vR h.1.length :: r) h') : mm_W p l e R s m args below meth c Q D cT zt A nL rho0 (pc) L (vI n :: r) h := by
  intro rho H locs cells slots ls hp hst hI
  obtain ⟨b1, b2, b3⟩ := mm_new_of hn
  have q1 := hI.2.2.2.2.2.2.2.1
  have q2 := hI.2.2.2.2.2.2.2.2
  refine va_newa hx hb (atype := .byte) harr (ty := .byte) rfl hK hI.2.2.2.1 hI.2.2.2.2.1 hI.2.2.2.2.2.1 hA (N' := N) (a0 := (N, .inl fun _ => (0 : Int32))) (fun _ => rfl) h0 hN hbig (by omega) (by omega) hd fun q cA H1 hK1 hP hD hS => ?_
  have hcA : cA = cT 1 := by
    have e1 : va_RA s cA .byte := (hK1.2 6 (cA, .byte) rfl).2
    have e2 : va_RA s (cT 1) .byte := (hK.2 1 _ rfl).2
    exact Option.some.inj (e1.symm.trans e2)
  subst hcA
  have hI' := hI.made (x := .inr (.inl (1, List.replicate N (0 : Int32)))) hn trivial (by simp only [mm_e, List.length_replicate, mm_rep_getD]) hP hD hS
  have hz : (rho ++ [q]).getD h.1.length 0 = q := by rw [← hI.1]; simp [List.getD_eq_getElem?_getD]
  have := kk (rho ++ [q]) H1 locs (cells + 1) (slots + N) ls (hp.trans (List.prefix_append _ _)) (mm_okc (by show h.1.length < _; omega) (fun w hw => mm_ok_mono (by omega) (mm_okt hst w hw))) hI'
  rw [List.map_cons, mm_map_app (fun w hw => by rw [hI.1]; exact mm_okt hst w hw)] at this
  simp only [mm_v, hz] at this
  exact this
theorem mr_newa_char (hx : p.tables.exec = Jvm.exec) (hb : c.code = cc) (harr : (Jvm.Cond.arrayClass .char).before args s = true) (hK : va_K D vwCl (mm_tys cT) s) (hA : ∀ q, s.heap.size ≤ q → A q) {n : Int32} {N : Nat} {h' : mm_H} (h0 : ¬ n < 0) (hN : n.toNatClampNeg = N) (hbig : N * 2 ≤ 536870912) (hn : mm_new h (.inr (.inl (2, List.replicate N (0 : Int32)))) N = some h') (hd : decode cc pc = .ok (.newarray .char, 2)) (kk : mm_W p l e R s m args below meth c Q D cT zt A nL rho0 (pc + 2) L (vR h.1.length :: r) h') : mm_W p l e R s m args below meth c Q D cT zt A nL rho0 (pc) L (vI n :: r) h := by
  intro rho H locs cells slots ls hp hst hI
  obtain ⟨b1, b2, b3⟩ := mm_new_of hn
  have q1 := hI.2.2.2.2.2.2.2.1
  have q2 := hI.2.2.2.2.2.2.2.2
  refine va_newa hx hb (atype := .char) harr (ty := .char) rfl hK hI.2.2.2.1 hI.2.2.2.2.1 hI.2.2.2.2.2.1 hA (N' := N) (a0 := (N, .inl fun _ => (0 : Int32))) (fun _ => rfl) h0 hN hbig (by omega) (by omega) hd fun q cA H1 hK1 hP hD hS => ?_
  have hcA : cA = cT 2 := by
    have e1 : va_RA s cA .char := (hK1.2 6 (cA, .char) rfl).2
    have e2 : va_RA s (cT 2) .char := (hK.2 2 _ rfl).2
    exact Option.some.inj (e1.symm.trans e2)
  subst hcA
  have hI' := hI.made (x := .inr (.inl (2, List.replicate N (0 : Int32)))) hn trivial (by simp only [mm_e, List.length_replicate, mm_rep_getD]) hP hD hS
  have hz : (rho ++ [q]).getD h.1.length 0 = q := by rw [← hI.1]; simp [List.getD_eq_getElem?_getD]
  have := kk (rho ++ [q]) H1 locs (cells + 1) (slots + N) ls (hp.trans (List.prefix_append _ _)) (mm_okc (by show h.1.length < _; omega) (fun w hw => mm_ok_mono (by omega) (mm_okt hst w hw))) hI'
  rw [List.map_cons, mm_map_app (fun w hw => by rw [hI.1]; exact mm_okt hst w hw)] at this
  simp only [mm_v, hz] at this
  exact this
theorem mr_newa_long (hx : p.tables.exec = Jvm.exec) (hb : c.code = cc) (harr : (Jvm.Cond.arrayClass .long).before args s = true) (hK : va_K D vwCl (mm_tys cT) s) (hA : ∀ q, s.heap.size ≤ q → A q) {n : Int32} {N : Nat} {h' : mm_H} (h0 : ¬ n < 0) (hN : n.toNatClampNeg = N) (hbig : N * 8 ≤ 536870912) (hn : mm_new h (.inr (.inr (.inl (List.replicate N (0 : Int64))))) N = some h') (hd : decode cc pc = .ok (.newarray .long, 2)) (kk : mm_W p l e R s m args below meth c Q D cT zt A nL rho0 (pc + 2) L (vR h.1.length :: r) h') : mm_W p l e R s m args below meth c Q D cT zt A nL rho0 (pc) L (vI n :: r) h := by
  intro rho H locs cells slots ls hp hst hI
  obtain ⟨b1, b2, b3⟩ := mm_new_of hn
  have q1 := hI.2.2.2.2.2.2.2.1
  have q2 := hI.2.2.2.2.2.2.2.2
  refine va_newa hx hb (atype := .long) harr (ty := .long) rfl hK hI.2.2.2.1 hI.2.2.2.2.1 hI.2.2.2.2.2.1 hA (N' := N) (a0 := (N, .inr (.inl fun _ => (0 : Int64)))) (fun _ => rfl) h0 hN hbig (by omega) (by omega) hd fun q cA H1 hK1 hP hD hS => ?_
  have hcA : cA = cT 3 := by
    have e1 : va_RA s cA .long := (hK1.2 6 (cA, .long) rfl).2
    have e2 : va_RA s (cT 3) .long := (hK.2 3 _ rfl).2
    exact Option.some.inj (e1.symm.trans e2)
  subst hcA
  have hI' := hI.made (x := .inr (.inr (.inl (List.replicate N (0 : Int64))))) hn trivial (by simp only [mm_e, List.length_replicate, mm_rep_getD]) hP hD hS
  have hz : (rho ++ [q]).getD h.1.length 0 = q := by rw [← hI.1]; simp [List.getD_eq_getElem?_getD]
  have := kk (rho ++ [q]) H1 locs (cells + 1) (slots + N) ls (hp.trans (List.prefix_append _ _)) (mm_okc (by show h.1.length < _; omega) (fun w hw => mm_ok_mono (by omega) (mm_okt hst w hw))) hI'
  rw [List.map_cons, mm_map_app (fun w hw => by rw [hI.1]; exact mm_okt hst w hw)] at this
  simp only [mm_v, hz] at this
  exact this
theorem mr_newq (hx : p.tables.exec = Jvm.exec) (hb : c.code = cc) {own C : String} {index j : Nat} (hown : s.vm.findClass own = some m.cls) (hclink : (Jvm.Cond.classLink own index C).before args s = true) (hover : va_AO C s) (hK : va_K D vwCl (mm_tys cT) s) (ht : (mm_tys cT)[j + 4]? = some (cT (j + 4), .object C)) (hA : ∀ q, s.heap.size ≤ q → A q) {n : Int32} {N : Nat} {h' : mm_H} (h0 : ¬ n < 0) (hN : n.toNatClampNeg = N) (hbig : N * 4 ≤ 536870912) (hn : mm_new h (.inr (.inr (.inr (j, List.replicate N none)))) N = some h') (hd : decode cc pc = .ok (.anewarray index, 3)) (kk : mm_W p l e R s m args below meth c Q D cT zt A nL rho0 (pc + 3) L (vR h.1.length :: r) h') : mm_W p l e R s m args below meth c Q D cT zt A nL rho0 (pc) L (vI n :: r) h := by
  intro rho H locs cells slots ls hp hst hI
  obtain ⟨b1, b2, b3⟩ := mm_new_of hn
  have q1 := hI.2.2.2.2.2.2.2.1
  have q2 := hI.2.2.2.2.2.2.2.2
  refine va_newq hx hb hown hclink hover hK hI.2.2.2.1 hI.2.2.2.2.1 hI.2.2.2.2.2.1 hA (N' := N) h0 hN hbig (by omega) (by omega) hd fun q cA H1 hK1 hP hD hS => ?_
  have hcA : cA = cT (j + 4) := by
    obtain ⟨_, _, _, _, _, e1⟩ := (hK1.2 6 (cA, .object C) rfl).2
    obtain ⟨_, _, _, _, _, e2⟩ := (hK.2 _ _ ht).2
    exact Option.some.inj (e1.symm.trans e2)
  subst hcA
  have hI' := hI.made (x := .inr (.inr (.inr (j, List.replicate N none)))) hn (fun a ha => by simp at ha) (by simp only [mm_e, List.length_replicate, mm_rep_getD, mm_q, Option.map_none]) hP hD hS
  have hz : (rho ++ [q]).getD h.1.length 0 = q := by rw [← hI.1]; simp [List.getD_eq_getElem?_getD]
  have := kk (rho ++ [q]) H1 locs (cells + 1) (slots + N) ls (hp.trans (List.prefix_append _ _)) (mm_okc (by show h.1.length < _; omega) (fun w hw => mm_ok_mono (by omega) (mm_okt hst w hw))) hI'
  rw [List.map_cons, mm_map_app (fun w hw => by rw [hI.1]; exact mm_okt hst w hw)] at this
  simp only [mm_v, hz] at this
  exact this
theorem mr_alen (hx : p.tables.exec = Jvm.exec) (hb : c.code = cc) (hK : va_K D vwCl (mm_tys cT) s) {a : Nat} {n : Int32} (hv : mm_len h a = some n) (hd : decode cc pc = .ok (.arraylength, 1)) (kk : mm_W p l e R s m args below meth c Q D cT zt A nL rho0 (pc + 1) L (vI n :: r) h) : mm_W p l e R s m args below meth c Q D cT zt A nL rho0 (pc) L (vR a :: r) h := by
  intro rho H locs cells slots ls hp hst hI
  have k2 := kk rho H locs cells slots ls hp (mm_okc trivial (mm_okt hst)) hI
  unfold mm_len at hv
  split at hv
  · rename_i q hq
    split at hv
    · rename_i hk
      cases hv
      obtain ⟨kd, xs⟩ := q
      match kd, hk with
      | 0, _ => exact va_alen hx hb hK hI.2.2.2.1 a 0 (mm_at hI hq) rfl rfl hd k2
      | 1, _ => exact va_alen hx hb hK hI.2.2.2.1 a 1 (mm_at hI hq) rfl rfl hd k2
      | 2, _ => exact va_alen hx hb hK hI.2.2.2.1 a 2 (mm_at hI hq) rfl rfl hd k2
    · cases hv
  · rename_i xs hq
    cases hv
    exact va_alen hx hb hK hI.2.2.2.1 a 3 (mm_at hI hq) rfl rfl hd k2
  · rename_i q hq
    split at hv
    · rename_i hk
      cases hv
      obtain ⟨C, T, N, hC, -⟩ := mm_tys_q (cT := cT) hk
      exact va_alen hx hb hK hI.2.2.2.1 a (q.1 + 4) (mm_at hI hq) hC rfl hd k2
    · cases hv
  · cases hv
theorem mm_getD_of {α : Type} {xs : List α} {k : Nat} {x d : α} (h : xs[k]? = some x) : xs.getD k d = x := by simp [List.getD_eq_getElem?_getD, h]
theorem mm_set_getD {α : Type} {xs : List α} {k : Nat} (x d : α) (hk : k < xs.length) (j : Nat) : (xs.set k x).getD j d = if j = k then x else xs.getD j d := by
  by_cases hj : j = k
  · subst hj; simp [List.getD_eq_getElem?_getD, hk]
  · simp [List.getD_eq_getElem?_getD, List.getElem?_set_ne (Ne.symm hj), hj]
theorem mr_iald (hx : p.tables.exec = Jvm.exec) (hb : c.code = cc) (hK : va_K D vwCl (mm_tys cT) s) {a : Nat} {i x : Int32} (hv : mm_iald h a 0 i = some x) (hd : decode cc pc = .ok (.iaload, 1)) (kk : mm_W p l e R s m args below meth c Q D cT zt A nL rho0 (pc + 1) L (vI x :: r) h) : mm_W p l e R s m args below meth c Q D cT zt A nL rho0 (pc) L (vI i :: vR a :: r) h := by
  intro rho H locs cells slots ls hp hst hI
  simp only [mm_iald, Option.bind_eq_some_iff] at hv
  obtain ⟨xs, h1, k, h2, h3⟩ := hv
  obtain ⟨g1, g2, g3⟩ := mm_ix_of h2
  refine va_iald hx hb hK hI.2.2.2.1 a 0 (mm_at hI (mm_int_of h1)) rfl g1 hd ?_
  rw [g2, mm_getD_of h3]
  exact kk rho H locs cells slots ls hp (mm_okc trivial (mm_okt (mm_okt hst))) hI
theorem mr_iast (hx : p.tables.exec = Jvm.exec) (hb : c.code = cc) (hK : va_K D vwCl (mm_tys cT) s) {a : Nat} {i x : Int32} {h' : mm_H} (hv : mm_iast h a 0 i (x) = some h') (hd : decode cc pc = .ok (.iastore, 1)) (kk : mm_W p l e R s m args below meth c Q D cT zt A nL rho0 (pc + 1) L (r) h') : mm_W p l e R s m args below meth c Q D cT zt A nL rho0 (pc) L (vI x :: vI i :: vR a :: r) h := by
  intro rho H locs cells slots ls hp hst hI
  simp only [mm_iast, Option.bind_eq_some_iff, Option.map_eq_some_iff] at hv
  obtain ⟨xs, h1, k, h2, rfl⟩ := hv
  obtain ⟨g1, g2, g3⟩ := mm_ix_of h2
  refine va_iast hx hb hK hI.2.2.2.1 hI.2.2.2.2.1 hI.2.2.2.2.2.1 a 0 (mm_at hI (mm_int_of h1)) rfl g1 hd fun H1 locs1 hP hD hS => ?_
  have hE : (Sum.inl (cT 0, xs.length, .inl (upd (fun j => xs.getD j 0) i.toNatClampNeg (x))) : va_E) = mm_e rho zt cT (.inr (.inl (0, xs.set k (x)))) := by
    simp only [mm_e, List.length_set]
    have hf : upd (fun j => xs.getD j 0) i.toNatClampNeg (x) = fun j => (xs.set k (x)).getD j 0 := by
      funext j
      rw [mm_set_getD (x) 0 g3 j, g2]
      rfl
    rw [hf]
  exact kk rho H1 locs1 cells slots ls hp (by rw [List.length_set]; exact mm_okt (mm_okt (mm_okt hst))) (hI.wrote (mm_int_of h1) trivial (by rw [← hE]; exact hP) (by rw [← hE]; exact hD) hS)
theorem mr_bald (hx : p.tables.exec = Jvm.exec) (hb : c.code = cc) (hK : va_K D vwCl (mm_tys cT) s) {a : Nat} {i x : Int32} (hv : mm_iald h a 1 i = some x) (hd : decode cc pc = .ok (.baload, 1)) (kk : mm_W p l e R s m args below meth c Q D cT zt A nL rho0 (pc + 1) L (vI x :: r) h) : mm_W p l e R s m args below meth c Q D cT zt A nL rho0 (pc) L (vI i :: vR a :: r) h := by
  intro rho H locs cells slots ls hp hst hI
  simp only [mm_iald, Option.bind_eq_some_iff] at hv
  obtain ⟨xs, h1, k, h2, h3⟩ := hv
  obtain ⟨g1, g2, g3⟩ := mm_ix_of h2
  refine va_bald hx hb hK hI.2.2.2.1 a 1 (mm_at hI (mm_int_of h1)) rfl g1 hd ?_
  rw [g2, mm_getD_of h3]
  exact kk rho H locs cells slots ls hp (mm_okc trivial (mm_okt (mm_okt hst))) hI
theorem mr_bast (hx : p.tables.exec = Jvm.exec) (hb : c.code = cc) (hK : va_K D vwCl (mm_tys cT) s) {a : Nat} {i x : Int32} {h' : mm_H} (hv : mm_iast h a 1 i (vp_nar .byte x) = some h') (hd : decode cc pc = .ok (.bastore, 1)) (kk : mm_W p l e R s m args below meth c Q D cT zt A nL rho0 (pc + 1) L (r) h') : mm_W p l e R s m args below meth c Q D cT zt A nL rho0 (pc) L (vI x :: vI i :: vR a :: r) h := by
  intro rho H locs cells slots ls hp hst hI
  simp only [mm_iast, Option.bind_eq_some_iff, Option.map_eq_some_iff] at hv
  obtain ⟨xs, h1, k, h2, rfl⟩ := hv
  obtain ⟨g1, g2, g3⟩ := mm_ix_of h2
  refine va_bast hx hb hK hI.2.2.2.1 hI.2.2.2.2.1 hI.2.2.2.2.2.1 a 1 (mm_at hI (mm_int_of h1)) rfl g1 hd fun H1 locs1 hP hD hS => ?_
  have hE : (Sum.inl (cT 1, xs.length, .inl (upd (fun j => xs.getD j 0) i.toNatClampNeg (vp_nar .byte x))) : va_E) = mm_e rho zt cT (.inr (.inl (1, xs.set k (vp_nar .byte x)))) := by
    simp only [mm_e, List.length_set]
    have hf : upd (fun j => xs.getD j 0) i.toNatClampNeg (vp_nar .byte x) = fun j => (xs.set k (vp_nar .byte x)).getD j 0 := by
      funext j
      rw [mm_set_getD (vp_nar .byte x) 0 g3 j, g2]
      rfl
    rw [hf]
  exact kk rho H1 locs1 cells slots ls hp (by rw [List.length_set]; exact mm_okt (mm_okt (mm_okt hst))) (hI.wrote (mm_int_of h1) trivial (by rw [← hE]; exact hP) (by rw [← hE]; exact hD) hS)
theorem mr_cald (hx : p.tables.exec = Jvm.exec) (hb : c.code = cc) (hK : va_K D vwCl (mm_tys cT) s) {a : Nat} {i x : Int32} (hv : mm_iald h a 2 i = some x) (hd : decode cc pc = .ok (.caload, 1)) (kk : mm_W p l e R s m args below meth c Q D cT zt A nL rho0 (pc + 1) L (vI x :: r) h) : mm_W p l e R s m args below meth c Q D cT zt A nL rho0 (pc) L (vI i :: vR a :: r) h := by
  intro rho H locs cells slots ls hp hst hI
  simp only [mm_iald, Option.bind_eq_some_iff] at hv
  obtain ⟨xs, h1, k, h2, h3⟩ := hv
  obtain ⟨g1, g2, g3⟩ := mm_ix_of h2
  refine va_cald hx hb hK hI.2.2.2.1 a 2 (mm_at hI (mm_int_of h1)) rfl g1 hd ?_
  rw [g2, mm_getD_of h3]
  exact kk rho H locs cells slots ls hp (mm_okc trivial (mm_okt (mm_okt hst))) hI
theorem mr_cast (hx : p.tables.exec = Jvm.exec) (hb : c.code = cc) (hK : va_K D vwCl (mm_tys cT) s) {a : Nat} {i x : Int32} {h' : mm_H} (hv : mm_iast h a 2 i (vp_nar .char x) = some h') (hd : decode cc pc = .ok (.castore, 1)) (kk : mm_W p l e R s m args below meth c Q D cT zt A nL rho0 (pc + 1) L (r) h') : mm_W p l e R s m args below meth c Q D cT zt A nL rho0 (pc) L (vI x :: vI i :: vR a :: r) h := by
  intro rho H locs cells slots ls hp hst hI
  simp only [mm_iast, Option.bind_eq_some_iff, Option.map_eq_some_iff] at hv
  obtain ⟨xs, h1, k, h2, rfl⟩ := hv
  obtain ⟨g1, g2, g3⟩ := mm_ix_of h2
  refine va_cast hx hb hK hI.2.2.2.1 hI.2.2.2.2.1 hI.2.2.2.2.2.1 a 2 (mm_at hI (mm_int_of h1)) rfl g1 hd fun H1 locs1 hP hD hS => ?_
  have hE : (Sum.inl (cT 2, xs.length, .inl (upd (fun j => xs.getD j 0) i.toNatClampNeg (vp_nar .char x))) : va_E) = mm_e rho zt cT (.inr (.inl (2, xs.set k (vp_nar .char x)))) := by
    simp only [mm_e, List.length_set]
    have hf : upd (fun j => xs.getD j 0) i.toNatClampNeg (vp_nar .char x) = fun j => (xs.set k (vp_nar .char x)).getD j 0 := by
      funext j
      rw [mm_set_getD (vp_nar .char x) 0 g3 j, g2]
      rfl
    rw [hf]
  exact kk rho H1 locs1 cells slots ls hp (by rw [List.length_set]; exact mm_okt (mm_okt (mm_okt hst))) (hI.wrote (mm_int_of h1) trivial (by rw [← hE]; exact hP) (by rw [← hE]; exact hD) hS)
theorem mr_lald (hx : p.tables.exec = Jvm.exec) (hb : c.code = cc) (hK : va_K D vwCl (mm_tys cT) s) {a : Nat} {i : Int32} {x : Int64} (hv : mm_lald h a i = some x) (hd : decode cc pc = .ok (.laload, 1)) (kk : mm_W p l e R s m args below meth c Q D cT zt A nL rho0 (pc + 1) L (vJ x :: r) h) : mm_W p l e R s m args below meth c Q D cT zt A nL rho0 (pc) L (vI i :: vR a :: r) h := by
  intro rho H locs cells slots ls hp hst hI
  simp only [mm_lald, Option.bind_eq_some_iff] at hv
  obtain ⟨xs, h1, k, h2, h3⟩ := hv
  obtain ⟨g1, g2, g3⟩ := mm_ix_of h2
  refine va_lald hx hb hK hI.2.2.2.1 a 3 (mm_at hI (mm_lng_of h1)) rfl g1 hd ?_
  rw [g2, mm_getD_of h3]
  exact kk rho H locs cells slots ls hp (mm_okc trivial (mm_okt (mm_okt hst))) hI
theorem mr_last (hx : p.tables.exec = Jvm.exec) (hb : c.code = cc) (hK : va_K D vwCl (mm_tys cT) s) {a : Nat} {i : Int32} {x : Int64} {h' : mm_H} (hv : mm_last h a i x = some h') (hd : decode cc pc = .ok (.lastore, 1)) (kk : mm_W p l e R s m args below meth c Q D cT zt A nL rho0 (pc + 1) L (r) h') : mm_W p l e R s m args below meth c Q D cT zt A nL rho0 (pc) L (vJ x :: vI i :: vR a :: r) h := by
  intro rho H locs cells slots ls hp hst hI
  simp only [mm_last, Option.bind_eq_some_iff, Option.map_eq_some_iff] at hv
  obtain ⟨xs, h1, k, h2, rfl⟩ := hv
  obtain ⟨g1, g2, g3⟩ := mm_ix_of h2
  refine va_last hx hb hK hI.2.2.2.1 hI.2.2.2.2.1 hI.2.2.2.2.2.1 a 3 (mm_at hI (mm_lng_of h1)) rfl g1 hd fun H1 locs1 hP hD hS => ?_
  have hE : (Sum.inl (cT 3, xs.length, .inr (.inl (vp_updL (fun j => xs.getD j 0) i.toNatClampNeg x))) : va_E) = mm_e rho zt cT (.inr (.inr (.inl (xs.set k x)))) := by
    simp only [mm_e, List.length_set]
    have hf : vp_updL (fun j => xs.getD j 0) i.toNatClampNeg x = fun j => (xs.set k x).getD j 0 := by
      funext j
      rw [mm_set_getD x 0 g3 j, g2]
      rfl
    rw [hf]
  exact kk rho H1 locs1 cells slots ls hp (by rw [List.length_set]; exact mm_okt (mm_okt (mm_okt hst))) (hI.wrote (mm_lng_of h1) trivial (by rw [← hE]; exact hP) (by rw [← hE]; exact hD) hS)
theorem mr_aald (hx : p.tables.exec = Jvm.exec) (hb : c.code = cc) (hK : va_K D vwCl (mm_tys cT) s) {a : Nat} {i : Int32} {y : Option Nat} (hv : mm_aald h a i = some y) (hd : decode cc pc = .ok (.aaload, 1)) (kk : mm_W p l e R s m args below meth c Q D cT zt A nL rho0 (pc + 1) L (vQ y :: r) h) : mm_W p l e R s m args below meth c Q D cT zt A nL rho0 (pc) L (vI i :: vR a :: r) h := by
  intro rho H locs cells slots ls hp hst hI
  simp only [mm_aald, Option.bind_eq_some_iff] at hv
  obtain ⟨q, h1, k, h2, h3⟩ := hv
  obtain ⟨g1, g2, g3⟩ := mm_ix_of h2
  obtain ⟨h1, hq2⟩ := mm_refs_of h1
  obtain ⟨C, T, N, hC, -⟩ := mm_tys_q (cT := cT) hq2
  refine va_aldq hx hb hK hI.2.2.2.1 a (q.1 + 4) (mm_at hI h1) hC g1 hd ?_
  rw [g2, mm_getD_of h3, ← mm_vQ (zt := zt)]
  refine kk rho H locs cells slots ls hp (mm_okc ?_ (mm_okt (mm_okt hst))) hI
  cases y with
  | none => trivial
  | some b => exact hI.2.1 _ (List.mem_of_getElem? h1) b (List.mem_of_getElem? h3)
theorem mr_aast (hx : p.tables.exec = Jvm.exec) (hb : c.code = cc) (hK : va_K D vwCl (mm_tys cT) s) {a : Nat} {i : Int32} {y : Option Nat} {h' : mm_H} (hv : mm_aast h a i y = some h') (hd : decode cc pc = .ok (.aastore, 1)) (kk : mm_W p l e R s m args below meth c Q D cT zt A nL rho0 (pc + 1) L (r) h') : mm_W p l e R s m args below meth c Q D cT zt A nL rho0 (pc) L (vQ y :: vI i :: vR a :: r) h := by
  intro rho H locs cells slots ls hp hst hI
  simp only [mm_aast, Option.bind_eq_some_iff] at hv
  obtain ⟨q, h1, hv⟩ := hv
  split at hv
  · rename_i hof
    simp only [Option.map_eq_some_iff] at hv
    obtain ⟨k, h2, rfl⟩ := hv
    obtain ⟨g1, g2, g3⟩ := mm_ix_of h2
    obtain ⟨h1, hq2⟩ := mm_refs_of h1
    obtain ⟨C, T, N, hC, hcl⟩ := mm_tys_q (cT := cT) hq2
    have hE : ∀ y0 : Option Nat, mm_q rho y = y0 → (Sum.inl (cT (q.1 + 4), q.2.length, .inr (.inr (.inr (.inr (va_up (fun j => mm_q rho (q.2.getD j none)) i.toNatClampNeg y0))))) : va_E) = mm_e rho zt cT (.inr (.inr (.inr (q.1, q.2.set k y)))) := by
      intro y0 hy
      have hf : va_up (fun j => mm_q rho (q.2.getD j none)) i.toNatClampNeg y0 = fun j => mm_q rho ((q.2.set k y).getD j none) := by
        funext j
        rw [mm_set_getD y none g3 j, g2]
        simp only [va_up]
        split
        · rw [hy]
        · rfl
      simp only [mm_e, List.length_set]
      rw [hf]
    have hok : mm_okO h.1.length (.inr (.inr (.inr (q.1, q.2.set k y)))) := by
      intro b hb2
      rcases mm_mem_set hb2 with z | z
      · exact hI.2.1 _ (List.mem_of_getElem? h1) b z
      · have := mm_okh hst
        rw [← z] at this
        exact this
    cases y with
    | none =>
      refine va_astqN hx hb hK hI.2.2.2.1 hI.2.2.2.2.1 hI.2.2.2.2.2.1 a (q.1 + 4) (mm_at hI h1) hC g1 hd fun H1 locs1 hP hD hS => ?_
      exact kk rho H1 locs1 cells slots ls hp (by rw [List.length_set]; exact mm_okt (mm_okt (mm_okt hst))) (hI.wrote h1 hok (by rw [← hE none rfl]; exact hP) (by rw [← hE none rfl]; exact hD) hS)
    | some b =>
      simp only [mm_of] at hof
      split at hof
      · rename_i cq fs hcell
        have hcq : cq = mm_el q.1 := by simpa using hof
        subst hcq
        refine va_astq hx hb hK hI.2.2.2.1 hI.2.2.2.2.1 hI.2.2.2.2.2.1 a (q.1 + 4) b (mm_el q.1) (mm_at hI h1) hC (mm_at hI hcell) hcl g1 hd fun H1 locs1 hP hD hS => ?_
        exact kk rho H1 locs1 cells slots ls hp (by rw [List.length_set]; exact mm_okt (mm_okt (mm_okt hst))) (hI.wrote h1 hok (by rw [← hE (some (rho.getD b 0)) rfl]; exact hP) (by rw [← hE (some (rho.getD b 0)) rfl]; exact hD) hS)
      · cases hof
  · cases hv
theorem mr_zlen (hx : p.tables.exec = Jvm.exec) (hb : c.code = cc) {j n : Nat} {f : Nat → Value} (hT : va_T .int (zt j) n f A s s.heap) (hd : decode cc pc = .ok (.arraylength, 1)) (kk : mm_W p l e R s m args below meth c Q D cT zt A nL rho0 (pc + 1) L (vI (Int32.ofNat n) :: r) h) : mm_W p l e R s m args below meth c Q D cT zt A nL rho0 (pc) L (vZ j :: r) h :=
  fun rho H locs cells slots ls hp hst hI => va_tlen hx hb hT hI.2.2.2.2.2.1 rfl hd (kk rho H locs cells slots ls hp (mm_okc trivial (mm_okt hst)) hI)
theorem mr_zald (hx : p.tables.exec = Jvm.exec) (hb : c.code = cc) {Z : Nat → List Int32} {j : Nat} (hT : va_T .int (zt j) (Z j).length (fun k => .int ((Z j).getD k 0)) A s s.heap) {i x : Int32} (hv : mm_zald Z j i = some x) (hd : decode cc pc = .ok (.iaload, 1)) (kk : mm_W p l e R s m args below meth c Q D cT zt A nL rho0 (pc + 1) L (vI x :: r) h) : mm_W p l e R s m args below meth c Q D cT zt A nL rho0 (pc) L (vI i :: vZ j :: r) h := by
  intro rho H locs cells slots ls hp hst hI
  simp only [mm_zald, Option.bind_eq_some_iff] at hv
  obtain ⟨k, h2, h3⟩ := hv
  obtain ⟨g1, g2, g3⟩ := mm_ix_of h2
  exact va_ti hx hb hT hI.2.2.2.2.2.1 g1 (v := .int x) (by rw [g2, mm_getD_of h3]) hd (kk rho H locs cells slots ls hp (mm_okc trivial (mm_okt (mm_okt hst))) hI)
theorem mr_getsN (hx : p.tables.exec = Jvm.exec) (hb : c.code = cc) {C n d own host : String} {index j : Nat} (hZ : va_Z C n d (.ref (zt j)) A s s.heap) (hown : s.vm.findClass own = some m.cls) (hl : (Jvm.Cond.fieldLinkNest own index C n d host).before args s = true) (hd : decode cc pc = .ok (.getstatic index, 3)) (kk : mm_W p l e R s m args below meth c Q D cT zt A nL rho0 (pc + 3) L (vZ j :: r) h) : mm_W p l e R s m args below meth c Q D cT zt A nL rho0 (pc) L (r) h :=
  fun rho H locs cells slots ls hp hst hI => va_getsN hx hb hZ hI.2.2.2.2.2.1 hown hl (fun _ z => z) hd (kk rho H locs cells slots ls hp (mm_okc trivial hst) hI)
theorem mr_objInit (hx : p.tables.exec = Jvm.exec) (hb : c.code = cc) {own : String} {idx : Nat} (hml : c.maxLocals = nL) (hown : s.vm.findClass own = some m.cls) (hlink : (Jvm.Cond.methodLink own idx Lib.objectInit).before args s = true) (hinst : (Jvm.Cond.instanceMethod Lib.objectInit).before args s = true) (hcode : (Jvm.Cond.code Lib.objectInit ⟨#[0xb1]⟩ 1 none).before args s = true) (hfr : 1 ≤ R.frames) (hlo : 44 ≤ R.locals) (hlen : r.length ≤ 16) {a : Nat} (hd : decode cc pc = .ok (.invokespecial idx, 3)) (kk : mm_W p l e R s m args below meth c Q D cT zt A nL rho0 (pc + 3) L (r) h) : mm_W p l e R s m args below meth c Q D cT zt A nL rho0 (pc) L (vR a :: r) h := by
  intro rho H locs cells slots ls hp hst hI
  refine W.objInit hx hb hown hlink hinst hcode rfl (by rw [hml]; exact hI.2.2.2.2.2.2.1.2.1) rfl hd hfr ?_ (kk rho H locs cells slots ls hp (mm_okt hst) hI)
  have hcat : ∀ (l : List Value), (l.map fun v => v.category).sum ≤ 2 * l.length := by
    intro l
    induction l with
    | nil => simp
    | cons v l ih =>
      have := lv_cat v
      simp only [List.map_cons, List.sum_cons, List.length_cons]
      omega
  have := hcat (r.map (mm_v rho zt))
  rw [List.length_map] at this
  show 2 * 0 + _ + 12 ≤ _
  omega
end MR
end
section
/-! FRAMES, ENDS, CALLS of the small machine over the real one -/
def mm_thr (x : Addr) (C : String) (t : State) : Prop := ∃ cell : Cell, t.heap[x]? = some cell ∧ cell.vm.isStatics = false ∧ t.vm.findClass C = some cell.cls
def mm_out (h' : mm_H) (rho : List Nat) (zt : Nat → Nat) (r : mm_A) (o : Outcome) (t : State) : Prop := match r with
  | .inl v => o = .returned (v.map (mm_v rho zt)) ∧ ∀ w, v = some w → mm_ok h'.1.length w
  | .inr ex => ∃ x, o = .threw x ∧ mm_thr x (mm_ex ex) t
/-- a method's end: what its answer and its heap are; what has changed -/
def mm_End (R : Room) (s : State) (below : List Frame) (D : va_G) (cT : Nat → ClassId) (zt : Nat → Nat) (A : Nat → Prop) (rho0 : List Nat) (Post : mm_A → mm_H → Prop) : State → Prop := fun t => ∃ (r : mm_A) (h' : mm_H) (rho : List Nat) (o : Outcome) (Lc : List Loc) (k n : Nat), Post r h' ∧ t.status = .running ∧ Ended t below o ∧ mm_out h' rho zt r o t ∧ s.WarmedH t.vm ∧ s.sameButNew ({ t with vm := s.vm } : State) Lc k n ∧ rho0 <+: rho ∧ rho.length = h'.1.length ∧ (∀ x ∈ h'.1, mm_okO h'.1.length x) ∧ va_P D vwCl (mm_w rho zt cT h'.1) t.heap ∧ va_D A (mm_w rho zt cT h'.1) ∧ va_S A s.heap t.heap Lc ∧ k + h'.2.1 ≤ R.cells ∧ n + h'.2.2 ≤ R.slots
/-- a static of Throwable: it is laid, and holds a reference or null -/
def mm_Zl (C n d : String) (A : Nat → Prop) (s : State) : Prop := va_Zq C n d A s s.heap ∧ ∀ args : Array Value, (Jvm.Cond.laysStatic C n d).before args s = true
theorem mm_Zl_of {C n d : String} {A : Nat → Prop} {s : State} {args : Array Value} (h : va_Zq C n d A s s.heap) (hl : (Jvm.Cond.laysStatic C n d).before args s = true) : mm_Zl C n d A s := by
  refine ⟨h, fun a' => ?_⟩
  obtain ⟨c, k, i, f, a, cell, hc, hi, hst, ha, hcell, hs, hcls, hlt, hty⟩ := Cond.laysStatic_spec hl
  exact Cond.laysStatic_of hc hi hst ha hcell hs hcls hlt hty
theorem mm_Zl.moved {C n d : String} {s U : State} {A B : Nat → Prop} (hvm : s.vm.Alike U.vm) (hk : ∀ q : Nat, q < s.heap.size → ¬ A q → U.heap[q]? = s.heap[q]?) (hAB : ∀ q, B q → A q) (h : mm_Zl C n d A s) : mm_Zl C n d B U := by
  obtain ⟨hz, hl⟩ := h
  refine ⟨?_, fun a' => ?_⟩
  · have h1 := (hz.kept hk).moved hvm
    rcases h1 with h1 | ⟨t, h1⟩
    · exact Or.inl (h1.narrow hAB)
    · exact Or.inr ⟨t, h1.narrow hAB⟩
  · obtain ⟨c, k, i, f, a, cell, hc, hi, hst, ha, hcell, hs, hcls, hlt, hty⟩ := Cond.laysStatic_spec (hl #[])
    have hna : ¬ A a := by
      rcases hz with ⟨cf, kf, fi, f2, a2, cell2, h1, h2, h3, h4, h5, h6, h7, h8⟩ | ⟨t, cf, kf, fi, f2, a2, cell2, h1, h2, h3, h4, h5, h6, h7, h8⟩
      · cases hi.symm.trans h1
        cases ha.symm.trans h4
        exact h8
      · cases hi.symm.trans h1
        cases ha.symm.trans h4
        exact h8
    obtain ⟨k', hi', hek⟩ := State.fieldFound?_setVm hvm hi
    have hi2 : U.fieldFound? C n d = some (c, k', i, f) := by simpa only [State.fieldFound?, State.vm_setVm] using hi'
    exact Cond.laysStatic_of (by rw [hvm.findClass]; exact hc) hi2 hst (by rw [hek]; exact ha) (by rw [hk a (Array.getElem?_eq_some_iff.mp hcell).1 hna]; exact hcell) hs hcls hlt (by rw [hek]; exact hty)
/-- the constant array of the class; the two statics of Throwable that hold a reference or null -/
def mm_Zs (Z : Nat → List Int32) (s : State) (zt : Nat → Nat) (A : Nat → Prop) : Prop :=
  va_Z "LispForge" "STEP_LENGTHS" "[I" (.ref (zt 0)) A s s.heap ∧ (∀ j, j < 2 → va_T .int (zt j) (Z j).length (fun k => .int ((Z j).getD k 0)) A s s.heap) ∧ mm_Zl "java/lang/Throwable" "UNASSIGNED_STACK" "[Ljava/lang/StackTraceElement;" A s ∧ mm_Zl "java/lang/Throwable" "SUPPRESSED_SENTINEL" "Ljava/util/List;" A s
/-- what the tables say at a frame's start -/
def mm_T (Z : Nat → List Int32) (s : State) (D : va_G) (cT : Nat → ClassId) (zt : Nat → Nat) (A : Nat → Prop) : Prop :=
  (∀ w ∈ lw_tbl, mm_gd w = true → w.before #[] s = true) ∧ va_K D vwCl (mm_tys cT) s ∧ (∀ C ∈ mm_over, va_AO C s) ∧ mm_Zs Z s zt A
/-- a frame of the method mi, d frames of room under it -/
def mm_F (Z : Nat → List Int32) (mi d : Nat) (p : Program) (e : Env) (R : Room) (s : State) (m : MethodId) (meth : Method) (c : Code) (D : va_G) (cT : Nat → ClassId) (zt : Nat → Nat) (A : Nat → Prop) : Prop :=
  p.tables.exec = Jvm.exec ∧ e.platform.stackTraces = false ∧ c.code = mm_cd mi ∧ meth.sig.returnType = mm_rt mi ∧ c.maxLocals = mm_ml mi ∧ s.vm.findClass (mm_nm mi).cls = some m.cls ∧ meth.name = (mm_nm mi).name ∧ meth.locks = false ∧ c.exceptionTable.toList.map mm_et = mm_hd mi ∧ d ≤ R.frames ∧ 64 * d ≤ R.locals ∧ (∀ q, s.heap.size ≤ q → A q) ∧ mm_T Z s D cT zt A
/-- THE CONTRACT: the method mi, called with the values vs over the heap h, ends, and Post holds of answer and heap -/
def mm_G (Z : Nat → List Int32) (d mi : Nat) (vs : List mm_V) (h : mm_H) (Post : mm_A → mm_H → Prop) : Prop :=
  ∀ (p : Program) (l : Launch) (e : Env) (R : Room) (s : State) (m : MethodId) (below : List Frame) (meth : Method) (c : Code) (D : va_G) (cT : Nat → ClassId) (zt : Nat → Nat) (A : Nat → Prop) (rho : List Nat), mm_F Z mi d p e R s m meth c D cT zt A → (∀ v ∈ vs, mm_ok h.1.length v) → rho.length = h.1.length → (∀ x ∈ h.1, mm_okO h.1.length x) → va_P D vwCl (mm_w rho zt cT h.1) s.heap → va_D A (mm_w rho zt cT h.1) → h.2.1 ≤ R.cells → h.2.2 ≤ R.slots →
    W p l e R s m (vs.map (mm_v rho zt)).toArray below meth c s.heap [] 0 0 (mm_End R s below D cT zt A rho Post) (entryFrame m (vs.map (mm_v rho zt)).toArray (mm_ml mi))
/-- at the place pc of the method mi -/
def mm_P (Z : Nat → List Int32) (d mi pc : Nat) (L : mm_L) (st : List mm_V) (h : mm_H) (Post : mm_A → mm_H → Prop) : Prop :=
  ∀ (p : Program) (l : Launch) (e : Env) (R : Room) (s : State) (m : MethodId) (args : Array Value) (below : List Frame) (meth : Method) (c : Code) (D : va_G) (cT : Nat → ClassId) (zt : Nat → Nat) (A : Nat → Prop) (rho0 : List Nat), mm_F Z mi d p e R s m meth c D cT zt A → mm_W p l e R s m args below meth c (mm_End R s below D cT zt A rho0 Post) D cT zt A (mm_ml mi) rho0 pc L st h
/-! the entry -/
def mm_argsL : List mm_V → mm_L
  | [] => []
  | v :: vs => match v with
    | .inr (.inl x) => some (vJ x) :: none :: mm_argsL vs
    | v => some v :: mm_argsL vs
def mm_ent (n : Nat) (vs : List mm_V) : mm_L := mm_argsL vs ++ List.replicate (n - (mm_argsL vs).length) none
theorem mm_sl_len (rho : List Nat) (zt : Nat → Nat) : ∀ vs : List mm_V, (lg_sl (vs.map (mm_v rho zt))).length = (mm_argsL vs).length
  | [] => rfl
  | v :: vs => by
    have ih := mm_sl_len rho zt vs
    unfold lg_sl at ih ⊢
    rw [List.map_cons, List.flatMap_cons, List.length_append, ih]
    obtain x | x | (_ | a) | j := v <;> simp [mm_v, Value.category, mm_argsL] <;> omega
theorem mm_args_mem (rho : List Nat) (zt : Nat → Nat) : ∀ (vs : List mm_V) (b i : Nat) (v : mm_V), (mm_argsL vs)[i]? = some (some v) → (b + i, mm_v rho zt v) ∈ lv_args b (vs.map (mm_v rho zt))
  | [], b, i, v, h => by simp [mm_argsL] at h
  | w :: vs, b, i, v, h => by
    rw [List.map_cons]
    unfold lv_args
    have ih := mm_args_mem rho zt vs
    obtain x | x | (_ | a) | j := w
    · cases i with
      | zero => simp [mm_argsL] at h; subst h; exact List.mem_cons_self
      | succ i => simp [mm_argsL] at h; refine List.mem_cons_of_mem _ ?_; have := ih (b + 1) i v h; rw [if_neg (by simp [mm_v, Value.category])]; rw [show b + (i + 1) = b + 1 + i by omega]; exact this
    · cases i with
      | zero => simp [mm_argsL] at h; subst h; exact List.mem_cons_self
      | succ i => cases i with
        | zero => simp [mm_argsL] at h
        | succ i => simp [mm_argsL] at h; refine List.mem_cons_of_mem _ ?_; have := ih (b + 2) i v h; rw [if_pos (by simp [mm_v, Value.category])]; rw [show b + (i + 1 + 1) = b + 2 + i by omega]; exact this
    · cases i with
      | zero => simp [mm_argsL] at h; subst h; exact List.mem_cons_self
      | succ i => simp [mm_argsL] at h; refine List.mem_cons_of_mem _ ?_; have := ih (b + 1) i v h; rw [if_neg (by simp [mm_v, Value.category])]; rw [show b + (i + 1) = b + 1 + i by omega]; exact this
    · cases i with
      | zero => simp [mm_argsL] at h; subst h; exact List.mem_cons_self
      | succ i => simp [mm_argsL] at h; refine List.mem_cons_of_mem _ ?_; have := ih (b + 1) i v h; rw [if_neg (by simp [mm_v, Value.category])]; rw [show b + (i + 1) = b + 1 + i by omega]; exact this
    · cases i with
      | zero => simp [mm_argsL] at h; subst h; exact List.mem_cons_self
      | succ i => simp [mm_argsL] at h; refine List.mem_cons_of_mem _ ?_; have := ih (b + 1) i v h; rw [if_neg (by simp [mm_v, Value.category])]; rw [show b + (i + 1) = b + 1 + i by omega]; exact this
theorem mm_args_in : ∀ (vs : List mm_V) (v : mm_V), some v ∈ mm_argsL vs → v ∈ vs
  | [], v, h => by simp [mm_argsL] at h
  | w :: vs, v, h => by
    have ih := mm_args_in vs v
    obtain x | x | (_ | a) | j := w <;> simp [mm_argsL] at h <;> rcases h with h | h <;> simp_all
theorem mm_rep_in {n : Nat} {v : mm_V} {l : mm_L} (h : some v ∈ l ++ List.replicate n none) : some v ∈ l := by
  rcases List.mem_append.mp h with h | h
  · exact h
  · simp at h
/-- a method's contract from its first place -/
theorem mm_G_of {Z : Nat → List Int32} {d mi : Nat} {vs : List mm_V} {h : mm_H} {Post : mm_A → mm_H → Prop} (hn : (mm_argsL vs).length ≤ mm_ml mi) (k : mm_P Z d mi 0 (mm_ent (mm_ml mi) vs) [] h Post) : mm_G Z d mi vs h Post := by
  intro p l e R s m below meth c D cT zt A rho hF hvs hl hok hP hD h1 h2
  have hle : (lg_sl (vs.map (mm_v rho zt))).length ≤ mm_ml mi := by rw [mm_sl_len]; exact hn
  have hls := lv_entry (vs.map (mm_v rho zt)) hle
  rw [lg_entry_eq]
  generalize (lg_sl (vs.map (mm_v rho zt)) ++ List.replicate (mm_ml mi - (lg_sl (vs.map (mm_v rho zt))).length) Slot.unset).toArray = ls at hls ⊢
  refine k p l e R s m _ below meth c D cT zt A rho hF rho s.heap [] 0 0 ls (List.prefix_refl _) (fun v hv => by cases hv) ⟨hl, hok, fun v hv => hvs v (mm_args_in vs v (mm_rep_in hv)), hP, hD, va_S.rf, ⟨?_, hls.1, hls.2.1, fun i v hi => ?_⟩, by omega, by omega⟩
  · simp only [mm_ent, List.length_append, List.length_replicate]; omega
  · have hi2 : (mm_argsL vs)[i]? = some (some v) := by
      unfold mm_ent at hi
      by_cases hil : i < (mm_argsL vs).length
      · rwa [List.getElem?_append_left hil] at hi
      · rw [List.getElem?_append_right (by omega), List.getElem?_replicate] at hi
        split at hi <;> cases hi
    have := mm_args_mem rho zt vs 0 i v hi2
    rw [Nat.zero_add] at this
    exact hls.2.2 _ this
section ME
variable {Z : Nat → List Int32} {p : Program} {l : Launch} {e : Env} {R : Room} {s : State} {m : MethodId} {args : Array Value} {below : List Frame} {meth : Method} {c : Code} {Post : mm_A → mm_H → Prop} {D : va_G} {cT : Nat → ClassId} {zt : Nat → Nat} {A : Nat → Prop} {nL : Nat} {rho0 : List Nat} {cc : ByteArray} {pc : Nat} {L : mm_L} {h : mm_H}
theorem mr_vret (hx : p.tables.exec = Jvm.exec) (hb : c.code = cc) (hr : meth.sig.returnType = none) (hlk : meth.locks = false) (hd : decode cc pc = .ok (.return_, 1)) (hq : Post aV h) : mm_W p l e R s m args below meth c (mm_End R s below D cT zt A rho0 Post) D cT zt A nL rho0 pc L [] h := by
  intro rho H locs cells slots ls hp hst hI T hT X
  obtain ⟨fs, hret, hrun, hended, hW, hframe⟩ := X.leave (v := none) (fun _ => rfl) hlk
  have hmeth' : T.vm.method? m = some meth := X.method'
  have hh : (T.setFrames fs).heap = H := hT
  refine ⟨T.setFrames fs, ?_, aV, h, rho, .returned none, locs, cells, slots, hq, hrun, hended, ⟨rfl, fun w hw => by cases hw⟩, hW, hframe, hp, hI.1, hI.2.1, by rw [hh]; exact hI.2.2.2.1, hI.2.2.2.2.1, by rw [hh]; exact hI.2.2.2.2.2.1, hI.2.2.2.2.2.2.2.1, hI.2.2.2.2.2.2.2.2⟩
  jvm_step X.here [X.here.top, hx, hb, hd, hmeth', hr]
  (try refine ⟨rfl, ?_⟩); (try refine ⟨rfl, ?_⟩)
  first | (intro acts; rw [hret _ acts rfl rfl rfl]) | rw [hret _ _ rfl rfl rfl]
  exact Steps.refl _
theorem mr_iret (hx : p.tables.exec = Jvm.exec) (hb : c.code = cc) {ty : FieldType} {x : Int32} (hr : meth.sig.returnType = some ty) (hn : narrow ty (.int x) = .int x) (hlk : meth.locks = false) (hd : decode cc pc = .ok (.ireturn, 1)) (hq : Post (aX (vI x)) h) : mm_W p l e R s m args below meth c (mm_End R s below D cT zt A rho0 Post) D cT zt A nL rho0 pc L [vI x] h := by
  intro rho H locs cells slots ls hp hst hI T hT X
  obtain ⟨fs, hret, hrun, hended, hW, hframe⟩ := X.leave (v := some (.int x)) (fun z => by rw [hr] at z; cases z) hlk
  have hmeth' : T.vm.method? m = some meth := X.method'
  have hh : (T.setFrames fs).heap = H := hT
  refine ⟨T.setFrames fs, ?_, aX (vI x), h, rho, .returned (some (.int x)), locs, cells, slots, hq, hrun, hended, ⟨rfl, fun w hw => by cases hw; trivial⟩, hW, hframe, hp, hI.1, hI.2.1, by rw [hh]; exact hI.2.2.2.1, hI.2.2.2.2.1, by rw [hh]; exact hI.2.2.2.2.2.1, hI.2.2.2.2.2.2.2.1, hI.2.2.2.2.2.2.2.2⟩
  show Steps p.tables e below (T.setTop (F0 m pc ls [.int x])) _
  jvm_step X.here [X.here.top, hx, hb, hd, hmeth', hr, hn]
  (try refine ⟨rfl, ?_⟩); (try refine ⟨rfl, ?_⟩)
  first | (intro acts; rw [hret _ acts rfl rfl rfl]) | rw [hret _ _ rfl rfl rfl]
  exact Steps.refl _
theorem mr_aret (hx : p.tables.exec = Jvm.exec) (hb : c.code = cc) {rt : FieldType} {q : Option Nat} (hr : meth.sig.returnType = some rt) (hrt : (∃ n, rt = .object n) ∨ ∃ t, rt = .array t) (hlk : meth.locks = false) (hd : decode cc pc = .ok (.areturn, 1)) (hq : Post (aX (vQ q)) h) : mm_W p l e R s m args below meth c (mm_End R s below D cT zt A rho0 Post) D cT zt A nL rho0 pc L [vQ q] h := by
  intro rho H locs cells slots ls hp hst hI T hT X
  obtain ⟨fs, hret, hrun, hended, hW, hframe⟩ := X.leave (v := some (mm_v rho zt (vQ q))) (fun z => by rw [hr] at z; cases z) hlk
  have hmeth' : T.vm.method? m = some meth := X.method'
  have hh : (T.setFrames fs).heap = H := hT
  refine ⟨T.setFrames fs, ?_, aX (vQ q), h, rho, .returned (some (mm_v rho zt (vQ q))), locs, cells, slots, hq, hrun, hended, ⟨rfl, fun w hw => by cases hw; exact mm_okh hst⟩, hW, hframe, hp, hI.1, hI.2.1, by rw [hh]; exact hI.2.2.2.1, hI.2.2.2.2.1, by rw [hh]; exact hI.2.2.2.2.2.1, hI.2.2.2.2.2.2.2.1, hI.2.2.2.2.2.2.2.2⟩
  have hvv : mm_v rho zt (vQ q) = .null ∨ ∃ a, mm_v rho zt (vQ q) = .ref a := by
    cases q with
    | none => exact Or.inl rfl
    | some a => exact Or.inr ⟨_, rfl⟩
  show Steps p.tables e below (T.setTop (F0 m pc ls [mm_v rho zt (vQ q)])) _
  generalize mm_v rho zt (vQ q) = v at hret hvv ⊢
  rcases hrt with ⟨n, rfl⟩ | ⟨t, rfl⟩ <;> rcases hvv with rfl | ⟨a, rfl⟩ <;>
    (jvm_step X.here [X.here.top, hx, hb, hd, hmeth', hr]
     (try refine ⟨rfl, ?_⟩); (try refine ⟨rfl, ?_⟩)
     first | (intro acts; rw [hret _ acts rfl rfl rfl]) | rw [hret _ _ rfl rfl rfl]
     exact Steps.refl _)
end ME
end
section
/-! CALLS -/
theorem mm_catSum : ∀ l : List Value, (l.map fun v => v.category).sum ≤ 2 * l.length
  | [] => by simp
  | v :: l => by
    have h1 := mm_catSum l
    have h2 := lv_cat v
    simp only [List.map_cons, List.sum_cons, List.length_cons]
    omega
theorem mm_steps_weaken {tb : Tables} {e : Env} {mid below : List Frame} {a b : State} (h : Steps tb e (mid ++ below) a b) : Steps tb e below a b := by
  obtain ⟨n, hn, w⟩ := h
  exact ⟨n, hn, fun k hk => (w k hk).weaken⟩
theorem mm_Zs.moved {Z : Nat → List Int32} {s U : State} {zt : Nat → Nat} {A B : Nat → Prop} (hvm : s.vm.Alike U.vm) (hk : ∀ q : Nat, q < s.heap.size → ¬ A q → U.heap[q]? = s.heap[q]?) (hAB : ∀ q, B q → A q) (h : mm_Zs Z s zt A) : mm_Zs Z U zt B := by
  obtain ⟨h1, h2, h3, h4⟩ := h
  exact ⟨((h1.kept hk).moved hvm).narrow hAB, fun j hj => (((h2 j hj).kept hk).moved hvm).narrow hAB, h3.moved hvm hk hAB, h4.moved hvm hk hAB⟩
/-- the tables' words go with the tables -/
theorem mm_T.moved {Z : Nat → List Int32} {s U : State} {D : va_G} {cT : Nat → ClassId} {zt : Nat → Nat} {A B : Nat → Prop} (hW : s.WarmedH U.vm) (hk : ∀ q : Nat, q < s.heap.size → ¬ A q → U.heap[q]? = s.heap[q]?) (hAB : ∀ q, B q → A q) (h : mm_T Z s D cT zt A) : mm_T Z U D cT zt B := by
  obtain ⟨h1, h2, h3, h5⟩ := h
  exact ⟨fun w hw hg => mm_gd_warm hW hg (h1 w hw hg), va_K.moved hW.alike h2, fun C hC => va_AO.moved hW.alike (h3 C hC), h5.moved hW.alike hk hAB⟩
section MC
variable {Z : Nat → List Int32} {p : Program} {l : Launch} {e : Env} {R : Room} {s : State} {m : MethodId} {args : Array Value} {below : List Frame} {meth : Method} {c : Code} {Post : mm_A → mm_H → Prop} {D : va_G} {cT : Nat → ClassId} {zt : Nat → Nat} {A : Nat → Prop} {nL : Nat} {rho0 : List Nat} {pc : Nat} {L : mm_L} {h : mm_H}
/-- what the word of a method's code says -/
def mm_spec (s : State) (mi : Nat) (mk : MethodId) : Prop := ∃ methk ck, s.vm.method? mk = some methk ∧ methk.code = some ck ∧ ck.code = mm_cd mi ∧ ck.maxLocals = mm_ml mi ∧ methk.sig.returnType = mm_rt mi ∧ methk.locks = false ∧ ck.exceptionTable.toList.map mm_et = mm_hd mi
theorem mm_spec_of {s : State} {mi : Nat} {mk : MethodId} {args : Array Value} (hhk : mm_hd mi = []) (hnamed : s.methodNamed? (mm_nm mi) = some mk) (h : (Jvm.Cond.code (mm_nm mi) (mm_cd mi) (mm_ml mi) (mm_rt mi)).before args s = true) : mm_spec s mi mk := by
  obtain ⟨methk, ck, k1, k2, k3, k4, k5, k6, k7, k8⟩ := Cond.code_spec hnamed h
  refine ⟨methk, ck, k1, k2, k3, k4, k5, k6, ?_⟩
  have h1 : ck.exceptionTable.toList = [] := by simpa using k7
  rw [h1, hhk]; rfl
theorem mm_spec_with {s : State} {mi : Nat} {mk : MethodId} {args : Array Value} (hnamed : s.methodNamed? (mm_nm mi) = some mk) (h : (Jvm.Cond.codeWith (mm_nm mi) (mm_cd mi) (mm_ml mi) (mm_rt mi) (mm_hd mi)).before args s = true) : mm_spec s mi mk := by
  obtain ⟨m2, methk, ck, k0, k1, k2, k3, k4, k5, k6, k7, k8⟩ := Cond.codeWith_spec h
  cases hnamed.symm.trans k0
  exact ⟨methk, ck, k1, k2, k3, k4, k6, k7, k5⟩
/-- the callee mi, entered from the frame at pc, ends, and the caller goes on behind it, or at what came thrown -/
theorem mm_thru0 {T : State} {locs : List Loc} {cells slots mi0 mi d : Nat} {rho : List Nat} {ls : Array Slot} {rest vs : List mm_V} {G0 : mm_A → mm_H → Prop} {ig : Instr} (X : Stand p l e R s m args below meth c T locs cells slots) (hF : mm_F Z mi0 (d + 1) p e R s m meth c D cT zt A) (hnL : nL = mm_ml mi0)
    (hI : mm_I R s D cT zt A nL rho L h T.heap locs cells slots ls) (hp : rho0 <+: rho) (hrest : ∀ v ∈ rest, mm_ok h.1.length v) (hvs : ∀ v ∈ vs, mm_ok h.1.length v) (hlen : rest.length ≤ 12) (hdg : decode c.code pc = .ok (ig, 3))
    {mk : MethodId} (hspec : mm_spec s mi mk) (hnamed : s.methodNamed? (mm_nm mi) = some mk) (hpl : plainName (mm_nm mi).cls = true) (hmax : mm_ml mi ≤ 20)
    (hG : mm_G Z d mi vs h G0) (kk : ∀ v h', G0 (.inl v) h' → mm_W p l e R s m args below meth c (mm_End R s below D cT zt A rho0 Post) D cT zt A nL rho0 (pc + 3) L (v.toList ++ rest) h')
    (kx : ∀ ex h' T' rho' locs' cells' slots' x, G0 (.inr ex) h' → mm_thr x (mm_ex ex) T' → rho0 <+: rho' → Stand p l e R s m args below meth c T' locs' cells' slots' → mm_I R s D cT zt A nL rho' L h' T'.heap locs' cells' slots' ls → ∃ t, Steps p.tables e below ((T'.setTop (F0 m pc ls (rest.map (mm_v rho zt)))).pushFrame (.throwing x)) t ∧ mm_End R s below D cT zt A rho0 Post t) :
    ∃ t, Steps p.tables e below (doInvoke e (T.setTop (F0 m pc ls (rest.map (mm_v rho zt)))) [] mk (vs.map (mm_v rho zt)).toArray).1 t ∧ mm_End R s below D cT zt A rho0 Post t := by
  obtain ⟨hx, htr, hb, hr, hml, hown, hnm, hlk, hex, hd1, hd2, hA, hTb⟩ := hF
  obtain ⟨methk, ck, k1, k2, k3, k4, k5, k6, k7⟩ := hspec
  have hmk : T.vm.method? mk = some methk := by rw [X.warmed.alike.method?]; exact k1
  have hcls : ∀ k : Class, s.vm.classes[mk.cls]? = some k → plainName k.name = true := fun k hk => by
    obtain ⟨k', hk', hn⟩ := className_of_methodNamed hnamed
    cases hk.symm.trans hk'
    rw [hn]; exact hpl
  have hpk : T.plainMethod mk := X.warmed.plainAt hcls
  have hsize : ls.size = c.maxLocals := by rw [hml, ← hnL]; exact hI.2.2.2.2.2.2.1.2.1
  have hcat := mm_catSum (rest.map (mm_v rho zt))
  rw [List.length_map] at hcat
  have hbc := hI.2.2.2.2.2.2.2.1
  have hbs := hI.2.2.2.2.2.2.2.2
  obtain ⟨Y₀, hin⟩ := X.into (g := F0 m pc ls (rest.map (mm_v rho zt))) rfl hsize hdg (vs.map (mm_v rho zt)).toArray (R' := { frames := d, cells := h.2.1, slots := h.2.2, locals := 64 * d }) hmk k2 k6 hpk hd1 (by
    show 2 * 0 + ((rest.map (mm_v rho zt)).map fun v => v.category).sum + (ck.maxLocals + 11) + 64 * d ≤ R.locals
    rw [k4]
    omega) hbc hbs
  generalize hg : F0 m pc ls (rest.map (mm_v rho zt)) = g at Y₀ hin
  have hsv : (T.calling g mk (vs.map (mm_v rho zt)).toArray).vm = T.vm := rfl
  have hsh : (T.calling g mk (vs.map (mm_v rho zt)).toArray).heap = T.heap := rfl
  have hWs : s.WarmedH (T.calling g mk (vs.map (mm_v rho zt)).toArray).vm := X.warmed
  have hFA : ∀ q, va_A (mm_w rho zt cT h.1) T.heap.size q → A q := by
    intro q hq
    rcases hq with ⟨k, e, hq⟩ | hq
    · exact hI.2.2.2.2.1.2 k _ hq
    · exact hA q (Nat.le_trans hI.2.2.2.2.2.1.1 hq)
  have hTb' : mm_T Z (T.calling g mk (vs.map (mm_v rho zt)).toArray) D cT zt (va_A (mm_w rho zt cT h.1) T.heap.size) := hTb.moved hWs hI.2.2.2.2.2.1.2.1 hFA
  have hF' : mm_F Z mi d p e { frames := d, cells := h.2.1, slots := h.2.2, locals := 64 * d } (T.calling g mk (vs.map (mm_v rho zt)).toArray) mk methk ck D cT zt (va_A (mm_w rho zt cT h.1) T.heap.size) :=
    ⟨hx, htr, k3, k5, k4, by rw [hsv, X.warmed.alike.findClass]; exact findClass_of_methodNamed hnamed, (name_of_methodNamed hnamed k1).1, k6, k7, Nat.le_refl _, Nat.le_refl _, fun q hq => Or.inr hq, hTb'⟩
  have hK := hG p l e { frames := d, cells := h.2.1, slots := h.2.2, locals := 64 * d } _ mk (.java g :: below) methk ck D cT zt _ rho hF' hvs hI.1 hI.2.1 hI.2.2.2.1 hI.2.2.2.2.1.self (Nat.le_refl _) (Nat.le_refl _)
  rw [← k4] at hK
  obtain ⟨t, st1, r, h', rho', o, Lc, k, n, hpost, hrun, hend, hout, hW, hsame, hpre, hlen', hok', hP', hD', hS', hc', hn'⟩ := hK ((T.setTop g).pushFrame (.java (entryFrame mk (vs.map (mm_v rho zt)).toArray ck.maxLocals))) rfl Y₀
  have st1' : Steps p.tables e below _ t := mm_steps_weaken (mid := [.java g]) st1
  obtain ⟨tl, rfl⟩ := hpre
  have hgrow : h.1.length ≤ h'.1.length := by rw [← hlen', ← hI.1, List.length_append]; omega
  rw [hin []]
  have hmI : ∀ T' : State, T'.heap = t.heap → mm_I R s D cT zt A nL (rho ++ tl) L h' T'.heap (locs ++ Lc) (cells + k) (slots + n) ls := by
    intro T' hT'
    rw [hT']
    refine ⟨hlen', hok', fun v hv => mm_ok_mono hgrow (hI.2.2.1 v hv), hP', hD'.weaken (fun _ q _ hq => hFA q.1 hq), ⟨Nat.le_trans hI.2.2.2.2.2.1.1 hS'.1, fun q h1 h2 => ?_, fun q hq => ?_⟩, hI.2.2.2.2.2.2.1.grow (fun v hv => by rw [hI.1]; exact hI.2.2.1 v hv), ?_, ?_⟩
    · rw [hS'.2.1 q (Nat.lt_of_lt_of_le h1 hI.2.2.2.2.2.1.1) (fun z => h2 (hFA q z))]
      exact hI.2.2.2.2.2.1.2.1 q h1 h2
    · rcases List.mem_append.mp hq with z | z
      · exact hI.2.2.2.2.2.1.2.2 q z
      · exact hFA _ (hS'.2.2 q z)
    · have : k + h'.2.1 ≤ h.2.1 := hc'
      omega
    · have : n + h'.2.2 ≤ h.2.2 := hn'
      omega
  cases r with
  | inl v =>
    obtain ⟨rfl, hv⟩ := hout
    obtain ⟨T', X', hW', hB', ht⟩ := X.outOf (g := g) (by rw [← hg]) (by rw [← hg]; exact hdg) hend hW hsame
    have hT' : T'.heap = t.heap := (congrArg State.heap ht).symm
    obtain ⟨t2, st2, q2⟩ := kk _ h' hpost (rho ++ tl) T'.heap (locs ++ Lc) (cells + k) (slots + n) ls (hp.trans (List.prefix_append _ _)) (fun w hw => by
      rcases List.mem_append.mp hw with z | z
      · exact hv w (by cases v with
          | none => simp at z
          | some y => simp at z; rw [z])
      · exact mm_ok_mono hgrow (hrest w z)) (hmI T' hT') T' rfl X'
    refine ⟨t2, st1'.trans ?_, q2⟩
    rw [ht, ← hg]
    have : (F0 m (pc + 3) ls ((v.toList ++ rest).map (mm_v (rho ++ tl) zt)) : JFrame) = { F0 m pc ls (rest.map (mm_v rho zt)) with pc := (F0 m pc ls (rest.map (mm_v rho zt))).pc + 3, stack := (v.map (mm_v (rho ++ tl) zt)).toList ++ (F0 m pc ls (rest.map (mm_v rho zt))).stack } := by
      have hm : rest.map (mm_v (rho ++ tl) zt) = rest.map (mm_v rho zt) := mm_map_app (fun w hw => by rw [hI.1]; exact hrest w hw)
      cases v with
      | none => simp [hm]
      | some w => simp [hm]
    rw [← this]
    exact st2
  | inr ex =>
    obtain ⟨x, rfl, hx2⟩ := hout
    obtain ⟨T', X', hW', hB', ht⟩ := X.outOfThrown (g := g) (by rw [← hg]) hend hW hsame
    have hT' : T'.heap = t.heap := (congrArg State.heap ht).symm
    have hV' : T'.vm = t.vm := (congrArg State.vm ht).symm
    obtain ⟨cell, c1, c2, c3⟩ := hx2
    obtain ⟨t2, st2, q2⟩ := kx ex h' T' (rho ++ tl) (locs ++ Lc) (cells + k) (slots + n) x hpost ⟨cell, by rw [hT']; exact c1, c2, by rw [hV']; exact c3⟩ (hp.trans (List.prefix_append _ _)) X' (hmI T' hT')
    refine ⟨t2, st1'.trans ?_, q2⟩
    rw [ht, ← hg]
    exact st2
/-- the callee mi, entered from the frame at pc, ends, and the caller (without handlers) goes on behind it, or is left too -/
theorem mm_thru {T : State} {locs : List Loc} {cells slots mi0 mi d : Nat} {rho : List Nat} {ls : Array Slot} {rest vs : List mm_V} {F : List mm_V → mm_H → Prop} {ig : Instr} (X : Stand p l e R s m args below meth c T locs cells slots) (hF : mm_F Z mi0 (d + 1) p e R s m meth c D cT zt A) (hnL : nL = mm_ml mi0)
    (hI : mm_I R s D cT zt A nL rho L h T.heap locs cells slots ls) (hp : rho0 <+: rho) (hrest : ∀ v ∈ rest, mm_ok h.1.length v) (hvs : ∀ v ∈ vs, mm_ok h.1.length v) (hlen : rest.length ≤ 12) (hdg : decode c.code pc = .ok (ig, 3))
    (hh0 : mm_hd mi0 = []) {mk : MethodId} (hspec : mm_spec s mi mk) (hpl : plainName (mm_nm mi).cls = true) (hmax : mm_ml mi ≤ 20)
    (hG : mm_G Z d mi vs h (mm_Kt Post F rest)) (kk : ∀ st h', F st h' → mm_W p l e R s m args below meth c (mm_End R s below D cT zt A rho0 Post) D cT zt A nL rho0 (pc + 3) L st h')
    (hnamed : s.methodNamed? (mm_nm mi) = some mk) :
    ∃ t, Steps p.tables e below (doInvoke e (T.setTop (F0 m pc ls (rest.map (mm_v rho zt)))) [] mk (vs.map (mm_v rho zt)).toArray).1 t ∧ mm_End R s below D cT zt A rho0 Post t := by
  have hex : c.exceptionTable.toList = [] := by
    have := hF.2.2.2.2.2.2.2.2.1
    rw [hh0] at this
    exact List.map_eq_nil_iff.mp this
  have hlk : meth.locks = false := hF.2.2.2.2.2.2.2.1
  refine mm_thru0 X hF hnL hI hp hrest hvs hlen hdg hspec hnamed hpl hmax hG (fun v h' hv => kk _ h' (by
    cases v with
    | none => exact hv
    | some w => exact hv)) (fun ex h' T' rho' locs' cells' slots' x hpost hthr hp' X' hJ => ?_)
  obtain ⟨w1, w2, w3, w4, w5⟩ := X'.leaveThrown x (g := F0 m pc ls (rest.map (mm_v rho zt))) rfl rfl rfl (by rw [hex]; intro y hy; cases hy) hlk
  exact ⟨T'.setFrames (.throwing x :: below), w1, .inr ex, h', rho', .threw x, locs', cells', slots', hpost, w2, w3, ⟨x, rfl, hthr⟩, w4, w5, hp', hJ.1, hJ.2.1, hJ.2.2.2.1, hJ.2.2.2.2.1, hJ.2.2.2.2.2.1, hJ.2.2.2.2.2.2.2.1, hJ.2.2.2.2.2.2.2.2⟩
end MC
end
section
section MCR
variable {Z : Nat → List Int32} {p : Program} {l : Launch} {e : Env} {R : Room} {s : State} {m : MethodId} {args : Array Value} {below : List Frame} {meth : Method} {c : Code} {Post : mm_A → mm_H → Prop} {D : va_G} {cT : Nat → ClassId} {zt : Nat → Nat} {A : Nat → Prop} {rho0 : List Nat} {pc : Nat} {L : mm_L} {h : mm_H}
theorem mm_len_of {y : MethodName} {n : Nat} (hn : (parseMethodDescriptor y.desc).map (fun d => d.parameters.length) = some n) : ∀ sig, parseMethodDescriptor y.desc = some sig → n = sig.parameters.length := fun sig h => by
  rw [h] at hn
  exact (Option.some.inj hn).symm
def mm_yok (y : MethodName) : Bool := plainName y.cls && y.cls != "java/lang/invoke/MethodHandle" && y.cls != "java/lang/invoke/VarHandle"
theorem mm_yok_of {y : MethodName} (h : mm_yok y = true) : plainName y.cls = true ∧ (y.cls ≠ "java/lang/invoke/MethodHandle" ∧ y.cls ≠ "java/lang/invoke/VarHandle") := by
  simp only [mm_yok, Bool.and_eq_true, bne_iff_ne] at h
  exact ⟨h.1.1, h.1.2, h.2⟩
theorem mr_callS {mi0 mi d idx : Nat} {vs rest : List mm_V} {F : List mm_V → mm_H → Prop} (hF : mm_F Z mi0 (d + 1) p e R s m meth c D cT zt A) (hl : (Jvm.Cond.methodLink (mm_nm mi0).cls idx (mm_nm mi)).before args s = true) (hstat : (Jvm.Cond.static (mm_nm mi)).before args s = true) (hini : (Jvm.Cond.initialized (mm_nm mi).cls).before args s = true) (hcode : Jvm.Cond.code (mm_nm mi) (mm_cd mi) (mm_ml mi) (mm_rt mi) ∈ lw_tbl) (hgc : mm_gd (Jvm.Cond.code (mm_nm mi) (mm_cd mi) (mm_ml mi) (mm_rt mi)) = true) (hyo : mm_yok (mm_nm mi) = true) (hmax : mm_ml mi ≤ 20) (hh0 : mm_hd mi0 = []) (hhk : mm_hd mi = []) (hn : (parseMethodDescriptor (mm_nm mi).desc).map (fun d => d.parameters.length) = some vs.length) (hlen : rest.length ≤ 12) (hd : decode (mm_cd mi0) pc = .ok (.invokestatic idx, 3)) (hG : mm_G Z d mi vs h (mm_Kt Post F rest)) (kk : ∀ st h', F st h' → mm_W p l e R s m args below meth c (mm_End R s below D cT zt A rho0 Post) D cT zt A (mm_ml mi0) rho0 (pc + 3) L st h') : mm_W p l e R s m args below meth c (mm_End R s below D cT zt A rho0 Post) D cT zt A (mm_ml mi0) rho0 pc L (vs.reverse ++ rest) h := by
  intro rho H locs cells slots ls hp hst hI T hT X
  obtain ⟨hx, htr, hb, hr, hml, hown, hnm, hlk, hex, hd1, hd2, hA, hTb⟩ := id hF
  obtain ⟨hpl, hy⟩ := mm_yok_of hyo
  have hcs : (Jvm.Cond.code (mm_nm mi) (mm_cd mi) (mm_ml mi) (mm_rt mi)).before #[] s = true := hTb.1 _ hcode hgc
  obtain ⟨mk, hnamed⟩ := Cond.code_named hcs
  obtain ⟨methM, cM, hmethM, -, -, -, -, -, -, hsigM⟩ := Cond.code_spec hnamed hcs
  have hstatic : methM.isStatic = true := Cond.static_spec hnamed hmethM hstat
  obtain ⟨kP, hkP, -⟩ := className_of_methodNamed hnamed
  have hinitP : kP.init = .initialized := Cond.initialized_spec (findClass_of_methodNamed hnamed) hkP hini
  obtain ⟨vm₁, X₁, hstep₁⟩ := X.invokestatic hx hown hl hnamed hmethM hstatic hkP hinitP hy (g := F0 m pc ls ((vs.reverse ++ rest).map (mm_v rho zt))) rfl (argsL := vs.map (mm_v rho zt)) (rest := rest.map (mm_v rho zt)) (by rw [List.length_map]; exact mm_len_of hn _ hsigM) (by simp) (by rw [hb]; exact hd)
  subst hT
  obtain ⟨t, st, q⟩ := mm_thru X₁ hF rfl hI hp (fun v hv => hst v (List.mem_append_right _ hv)) (fun v hv => hst v (List.mem_append_left _ (List.mem_reverse.mpr hv))) hlen (by rw [hb]; exact hd) hh0 (mm_spec_of hhk hnamed (hTb.1 _ hcode hgc)) hpl hmax hG kk hnamed
  exact ⟨t, hstep₁ t (fun acts => by rw [doInvoke_state]; exact st), q⟩
theorem mr_callI {mi0 mi d idx : Nat} {a : Nat} {as rest : List mm_V} {F : List mm_V → mm_H → Prop} (hF : mm_F Z mi0 (d + 1) p e R s m meth c D cT zt A) (hl : (Jvm.Cond.methodLink (mm_nm mi0).cls idx (mm_nm mi)).before args s = true) (hinst : (Jvm.Cond.instanceMethod (mm_nm mi)).before args s = true) (hcode : Jvm.Cond.code (mm_nm mi) (mm_cd mi) (mm_ml mi) (mm_rt mi) ∈ lw_tbl) (hgc : mm_gd (Jvm.Cond.code (mm_nm mi) (mm_cd mi) (mm_ml mi) (mm_rt mi)) = true) (hyo : mm_yok (mm_nm mi) = true) (hmax : mm_ml mi ≤ 20) (hh0 : mm_hd mi0 = []) (hhk : mm_hd mi = []) (hin : (mm_nm mi).name = "<init>") (hrt : mm_rt mi = none) (hn : (parseMethodDescriptor (mm_nm mi).desc).map (fun d => d.parameters.length) = some as.length) (hlen : rest.length ≤ 12) (hd : decode (mm_cd mi0) pc = .ok (.invokespecial idx, 3)) (hG : mm_G Z d mi (vR a :: as) h (mm_Kt Post F rest)) (kk : ∀ st h', F st h' → mm_W p l e R s m args below meth c (mm_End R s below D cT zt A rho0 Post) D cT zt A (mm_ml mi0) rho0 (pc + 3) L st h') : mm_W p l e R s m args below meth c (mm_End R s below D cT zt A rho0 Post) D cT zt A (mm_ml mi0) rho0 pc L ((vR a :: as).reverse ++ rest) h := by
  intro rho H locs cells slots ls hp hst hI T hT X
  obtain ⟨hx, htr, hb, hr, hml, hown, hnm, hlk, hex, hd1, hd2, hA, hTb⟩ := id hF
  obtain ⟨hpl, hy⟩ := mm_yok_of hyo
  have hcs : (Jvm.Cond.code (mm_nm mi) (mm_cd mi) (mm_ml mi) none).before args s = true := by
    rw [← hrt]
    exact mm_gd_args hgc (hTb.1 _ hcode hgc)
  have hpm : e.platform.magicAccessors = ({} : Platform).magicAccessors := by rw [X.admits.platform]
  obtain ⟨mk, methM, cM, kP, vm₁, hnamed, hmethM, hcodeM, -, hlocalsM, -, hkP, -, hW₁, hstep₁⟩ := Steps.initColdArgs (e := e) X.here hx X.warmed hpm hown hin hy hl hinst hcs (f := F0 m pc ls (((vR a :: as).reverse ++ rest).map (mm_v rho zt))) rfl (a := rho.getD a 0) (argsL := as.map (mm_v rho zt)) (rest := rest.map (mm_v rho zt)) (by rw [List.length_map]; exact mm_len_of hn) (by simp [mm_v]) (by rw [hb]; exact hd)
  have X₁ := X.noted hW₁
  subst hT
  obtain ⟨t, st, q⟩ := mm_thru X₁ hF rfl hI hp (fun v hv => hst v (List.mem_append_right _ hv)) (vs := vR a :: as) (fun v hv => hst v (List.mem_append_left _ (List.mem_reverse.mpr hv))) hlen (by rw [hb]; exact hd) hh0 (mm_spec_of hhk hnamed (hTb.1 _ hcode hgc)) hpl hmax hG kk hnamed
  exact ⟨t, hstep₁ t (fun acts => by rw [doInvoke_state]; exact st), q⟩
theorem mr_callSN {mi0 mi d idx : Nat} {host : String} {vs rest : List mm_V} {F : List mm_V → mm_H → Prop} (hF : mm_F Z mi0 (d + 1) p e R s m meth c D cT zt A) (hl : (Jvm.Cond.methodLinkNest (mm_nm mi0).cls idx (mm_nm mi) host).before args s = true) (hstat : (Jvm.Cond.static (mm_nm mi)).before args s = true) (hini : (Jvm.Cond.initialized (mm_nm mi).cls).before args s = true) (hcode : Jvm.Cond.code (mm_nm mi) (mm_cd mi) (mm_ml mi) (mm_rt mi) ∈ lw_tbl) (hgc : mm_gd (Jvm.Cond.code (mm_nm mi) (mm_cd mi) (mm_ml mi) (mm_rt mi)) = true) (hyo : mm_yok (mm_nm mi) = true) (hmax : mm_ml mi ≤ 20) (hh0 : mm_hd mi0 = []) (hhk : mm_hd mi = []) (hn : (parseMethodDescriptor (mm_nm mi).desc).map (fun d => d.parameters.length) = some vs.length) (hlen : rest.length ≤ 12) (hd : decode (mm_cd mi0) pc = .ok (.invokestatic idx, 3)) (hG : mm_G Z d mi vs h (mm_Kt Post F rest)) (kk : ∀ st h', F st h' → mm_W p l e R s m args below meth c (mm_End R s below D cT zt A rho0 Post) D cT zt A (mm_ml mi0) rho0 (pc + 3) L st h') : mm_W p l e R s m args below meth c (mm_End R s below D cT zt A rho0 Post) D cT zt A (mm_ml mi0) rho0 pc L (vs.reverse ++ rest) h := by
  intro rho H locs cells slots ls hp hst hI T hT X
  obtain ⟨hx, htr, hb, hr, hml, hown, hnm, hlk, hex, hd1, hd2, hA, hTb⟩ := id hF
  obtain ⟨hpl, hy⟩ := mm_yok_of hyo
  have hcs : (Jvm.Cond.code (mm_nm mi) (mm_cd mi) (mm_ml mi) (mm_rt mi)).before #[] s = true := hTb.1 _ hcode hgc
  obtain ⟨mk, hnamed⟩ := Cond.code_named hcs
  obtain ⟨methM, cM, hmethM, -, -, -, -, -, -, hsigM⟩ := Cond.code_spec hnamed hcs
  have hstatic : methM.isStatic = true := Cond.static_spec hnamed hmethM hstat
  obtain ⟨kP, hkP, -⟩ := className_of_methodNamed hnamed
  have hinitP : kP.init = .initialized := Cond.initialized_spec (findClass_of_methodNamed hnamed) hkP hini
  obtain ⟨vm₁, X₁, hstep₁⟩ := X.invokestaticNest hx hown hl hnamed hmethM hstatic hkP hinitP hy (g := F0 m pc ls ((vs.reverse ++ rest).map (mm_v rho zt))) rfl (argsL := vs.map (mm_v rho zt)) (rest := rest.map (mm_v rho zt)) (by rw [List.length_map]; exact mm_len_of hn _ hsigM) (by simp) (by rw [hb]; exact hd)
  subst hT
  obtain ⟨t, st, q⟩ := mm_thru X₁ hF rfl hI hp (fun v hv => hst v (List.mem_append_right _ hv)) (fun v hv => hst v (List.mem_append_left _ (List.mem_reverse.mpr hv))) hlen (by rw [hb]; exact hd) hh0 (mm_spec_of hhk hnamed (hTb.1 _ hcode hgc)) hpl hmax hG kk hnamed
  exact ⟨t, hstep₁ t (fun acts => by rw [doInvoke_state]; exact st), q⟩
theorem mr_callIN {mi0 mi d idx : Nat} {host : String} {a : Nat} {as rest : List mm_V} {F : List mm_V → mm_H → Prop} (hF : mm_F Z mi0 (d + 1) p e R s m meth c D cT zt A) (hl : (Jvm.Cond.methodLinkNest (mm_nm mi0).cls idx (mm_nm mi) host).before args s = true) (hinst : (Jvm.Cond.instanceMethod (mm_nm mi)).before args s = true) (hcode : Jvm.Cond.code (mm_nm mi) (mm_cd mi) (mm_ml mi) (mm_rt mi) ∈ lw_tbl) (hgc : mm_gd (Jvm.Cond.code (mm_nm mi) (mm_cd mi) (mm_ml mi) (mm_rt mi)) = true) (hyo : mm_yok (mm_nm mi) = true) (hmax : mm_ml mi ≤ 20) (hh0 : mm_hd mi0 = []) (hhk : mm_hd mi = []) (hin : (mm_nm mi).name = "<init>") (hrt : mm_rt mi = none) (hn : (parseMethodDescriptor (mm_nm mi).desc).map (fun d => d.parameters.length) = some as.length) (hlen : rest.length ≤ 12) (hd : decode (mm_cd mi0) pc = .ok (.invokespecial idx, 3)) (hG : mm_G Z d mi (vR a :: as) h (mm_Kt Post F rest)) (kk : ∀ st h', F st h' → mm_W p l e R s m args below meth c (mm_End R s below D cT zt A rho0 Post) D cT zt A (mm_ml mi0) rho0 (pc + 3) L st h') : mm_W p l e R s m args below meth c (mm_End R s below D cT zt A rho0 Post) D cT zt A (mm_ml mi0) rho0 pc L ((vR a :: as).reverse ++ rest) h := by
  intro rho H locs cells slots ls hp hst hI T hT X
  obtain ⟨hx, htr, hb, hr, hml, hown, hnm, hlk, hex, hd1, hd2, hA, hTb⟩ := id hF
  obtain ⟨hpl, hy⟩ := mm_yok_of hyo
  have hcs : (Jvm.Cond.code (mm_nm mi) (mm_cd mi) (mm_ml mi) none).before args s = true := by
    rw [← hrt]
    exact mm_gd_args hgc (hTb.1 _ hcode hgc)
  have hpm : e.platform.magicAccessors = ({} : Platform).magicAccessors := by rw [X.admits.platform]
  obtain ⟨mk, methM, cM, kP, vm₁, hnamed, hmethM, hcodeM, -, hlocalsM, -, hkP, -, hW₁, hstep₁⟩ := Steps.initColdArgsNest (e := e) X.here hx X.warmed hpm hown hin hy hl hinst hcs (f := F0 m pc ls (((vR a :: as).reverse ++ rest).map (mm_v rho zt))) rfl (a := rho.getD a 0) (argsL := as.map (mm_v rho zt)) (rest := rest.map (mm_v rho zt)) (by rw [List.length_map]; exact mm_len_of hn) (by simp [mm_v]) (by rw [hb]; exact hd)
  have X₁ := X.noted hW₁
  subst hT
  obtain ⟨t, st, q⟩ := mm_thru X₁ hF rfl hI hp (fun v hv => hst v (List.mem_append_right _ hv)) (vs := vR a :: as) (fun v hv => hst v (List.mem_append_left _ (List.mem_reverse.mpr hv))) hlen (by rw [hb]; exact hd) hh0 (mm_spec_of hhk hnamed (hTb.1 _ hcode hgc)) hpl hmax hG kk hnamed
  exact ⟨t, hstep₁ t (fun acts => by rw [doInvoke_state]; exact st), q⟩
theorem mr_callV {mi0 mi d idx ci : Nat} {a : Nat} {as rest : List mm_V} {fs : List mm_V} {q : vw_C} {F : List mm_V → mm_H → Prop} (hF : mm_F Z mi0 (d + 1) p e R s m meth c D cT zt A) (hl : (Jvm.Cond.methodLink (mm_nm mi0).cls idx (mm_nm mi)).before args s = true) (hinst : (Jvm.Cond.instanceMethod (mm_nm mi)).before args s = true) (hsel : (Jvm.Cond.selects q.1 (mm_nm mi) (mm_nm mi)).before args s = true) (hcode : Jvm.Cond.code (mm_nm mi) (mm_cd mi) (mm_ml mi) (mm_rt mi) ∈ lw_tbl) (hgc : mm_gd (Jvm.Cond.code (mm_nm mi) (mm_cd mi) (mm_ml mi) (mm_rt mi)) = true) (hyo : mm_yok (mm_nm mi) = true) (hmax : mm_ml mi ≤ 20) (hh0 : mm_hd mi0 = []) (hhk : mm_hd mi = []) (hq : vwCl[ci]? = some q) (ha : h.1[a]? = some (.inl (ci, fs))) (hn : (parseMethodDescriptor (mm_nm mi).desc).map (fun d => d.parameters.length) = some as.length) (hlen : rest.length ≤ 12) (hd : decode (mm_cd mi0) pc = .ok (.invokevirtual idx, 3)) (hG : mm_G Z d mi (vR a :: as) h (mm_Kt Post F rest)) (kk : ∀ st h', F st h' → mm_W p l e R s m args below meth c (mm_End R s below D cT zt A rho0 Post) D cT zt A (mm_ml mi0) rho0 (pc + 3) L st h') : mm_W p l e R s m args below meth c (mm_End R s below D cT zt A rho0 Post) D cT zt A (mm_ml mi0) rho0 pc L ((vR a :: as).reverse ++ rest) h := by
  intro rho H locs cells slots ls hp hst hI T hT X
  obtain ⟨hx, htr, hb, hr, hml, hown, hnm, hlk, hex, hd1, hd2, hA, hTb⟩ := id hF
  obtain ⟨hpl, hy⟩ := mm_yok_of hyo
  have hcs : (Jvm.Cond.code (mm_nm mi) (mm_cd mi) (mm_ml mi) (mm_rt mi)).before #[] s = true := hTb.1 _ hcode hgc
  obtain ⟨cellB, hcB, hoB, hclB⟩ := va_recv hTb.2.1 hI.2.2.2.1 hq (mm_at hI ha)
  obtain ⟨mk, methM, hnamed, hmethM, hstM, habM⟩ := Cond.instanceMethod_spec hinst
  obtain ⟨methM', cM, hmethM', -, -, -, -, -, -, hsigM⟩ := Cond.code_spec hnamed hcs
  cases hmethM.symm.trans hmethM'
  obtain ⟨c2, r2, m2, q1, q2, q3, q4, kP, hkP, hkPi⟩ := Cond.selects_spec hsel
  cases hclB.symm.trans q1
  cases (State.methodFound?_of_named hnamed hy).symm.trans q2
  cases hnamed.symm.trans q3
  have hselP : selectMethod e.platform s.vm cellB.cls mk = .method mk := by rw [Launch.admits_selectMethod X.admits]; exact q4
  subst hT
  obtain ⟨vm₁, X₁, hstep₁⟩ := X.invokevirtual hx hown hl hnamed hmethM hstM hkP hkPi hy (a := rho.getD a 0) (cell := cellB) hcB (fun z h => by rw [h] at hoB; cases hoB) hselP hmethM habM hkP hkPi (g := F0 m pc ls (((vR a :: as).reverse ++ rest).map (mm_v rho zt))) rfl (argsL := as.map (mm_v rho zt)) (rest := rest.map (mm_v rho zt)) (by rw [List.length_map]; exact mm_len_of hn _ hsigM) (by simp [mm_v]) (by rw [hb]; exact hd)
  obtain ⟨t, st, q⟩ := mm_thru X₁ hF rfl hI hp (fun v hv => hst v (List.mem_append_right _ hv)) (vs := vR a :: as) (fun v hv => hst v (List.mem_append_left _ (List.mem_reverse.mpr hv))) hlen (by rw [hb]; exact hd) hh0 (mm_spec_of hhk hnamed (hTb.1 _ hcode hgc)) hpl hmax hG kk hnamed
  exact ⟨t, hstep₁ t (fun acts => by rw [doInvoke_state]; exact st), q⟩
theorem mr_callSW {mi0 mi d idx : Nat} {vs rest : List mm_V} {F : List mm_V → mm_H → Prop} (hF : mm_F Z mi0 (d + 1) p e R s m meth c D cT zt A) (hl : (Jvm.Cond.methodLink (mm_nm mi0).cls idx (mm_nm mi)).before args s = true) (hstat : (Jvm.Cond.static (mm_nm mi)).before args s = true) (hini : (Jvm.Cond.initialized (mm_nm mi).cls).before args s = true) (hcode : Jvm.Cond.codeWith (mm_nm mi) (mm_cd mi) (mm_ml mi) (mm_rt mi) (mm_hd mi) ∈ lw_tbl) (hgc : mm_gd (Jvm.Cond.codeWith (mm_nm mi) (mm_cd mi) (mm_ml mi) (mm_rt mi) (mm_hd mi)) = true) (hyo : mm_yok (mm_nm mi) = true) (hmax : mm_ml mi ≤ 20) (hh0 : mm_hd mi0 = []) (hn : (parseMethodDescriptor (mm_nm mi).desc).map (fun d => d.parameters.length) = some vs.length) (hlen : rest.length ≤ 12) (hd : decode (mm_cd mi0) pc = .ok (.invokestatic idx, 3)) (hG : mm_G Z d mi vs h (mm_Kt Post F rest)) (kk : ∀ st h', F st h' → mm_W p l e R s m args below meth c (mm_End R s below D cT zt A rho0 Post) D cT zt A (mm_ml mi0) rho0 (pc + 3) L st h') : mm_W p l e R s m args below meth c (mm_End R s below D cT zt A rho0 Post) D cT zt A (mm_ml mi0) rho0 pc L (vs.reverse ++ rest) h := by
  intro rho H locs cells slots ls hp hst hI T hT X
  obtain ⟨hx, htr, hb, hr, hml, hown, hnm, hlk, hex, hd1, hd2, hA, hTb⟩ := id hF
  obtain ⟨hpl, hy⟩ := mm_yok_of hyo
  have hcs : (Jvm.Cond.codeWith (mm_nm mi) (mm_cd mi) (mm_ml mi) (mm_rt mi) (mm_hd mi)).before #[] s = true := hTb.1 _ hcode hgc
  obtain ⟨mk, methM, cM, hnamed, hmethM, -, -, -, -, -, -, hsigM⟩ := Cond.codeWith_spec hcs
  have hstatic : methM.isStatic = true := Cond.static_spec hnamed hmethM hstat
  obtain ⟨kP, hkP, -⟩ := className_of_methodNamed hnamed
  have hinitP : kP.init = .initialized := Cond.initialized_spec (findClass_of_methodNamed hnamed) hkP hini
  obtain ⟨vm₁, X₁, hstep₁⟩ := X.invokestatic hx hown hl hnamed hmethM hstatic hkP hinitP hy (g := F0 m pc ls ((vs.reverse ++ rest).map (mm_v rho zt))) rfl (argsL := vs.map (mm_v rho zt)) (rest := rest.map (mm_v rho zt)) (by rw [List.length_map]; exact mm_len_of hn _ hsigM) (by simp) (by rw [hb]; exact hd)
  subst hT
  obtain ⟨t, st, q⟩ := mm_thru X₁ hF rfl hI hp (fun v hv => hst v (List.mem_append_right _ hv)) (fun v hv => hst v (List.mem_append_left _ (List.mem_reverse.mpr hv))) hlen (by rw [hb]; exact hd) hh0 (mm_spec_with hnamed hcs) hpl hmax hG kk hnamed
  exact ⟨t, hstep₁ t (fun acts => by rw [doInvoke_state]; exact st), q⟩
theorem mr_callVC {mi0 mi d idx ci : Nat} {a : Nat} {as rest : List mm_V} {fs : List mm_V} {q : vw_C} {G0 : mm_A → mm_H → Prop} (hF : mm_F Z mi0 (d + 1) p e R s m meth c D cT zt A) (hl : (Jvm.Cond.methodLink (mm_nm mi0).cls idx (mm_nm mi)).before args s = true) (hinst : (Jvm.Cond.instanceMethod (mm_nm mi)).before args s = true) (hsel : (Jvm.Cond.selects q.1 (mm_nm mi) (mm_nm mi)).before args s = true) (hcode : Jvm.Cond.code (mm_nm mi) (mm_cd mi) (mm_ml mi) (mm_rt mi) ∈ lw_tbl) (hgc : mm_gd (Jvm.Cond.code (mm_nm mi) (mm_cd mi) (mm_ml mi) (mm_rt mi)) = true) (hyo : mm_yok (mm_nm mi) = true) (hmax : mm_ml mi ≤ 20) (hhk : mm_hd mi = []) (hq : vwCl[ci]? = some q) (ha : h.1[a]? = some (.inl (ci, fs))) (hn : (parseMethodDescriptor (mm_nm mi).desc).map (fun d => d.parameters.length) = some as.length) (hlen : rest.length ≤ 12) (hd : decode (mm_cd mi0) pc = .ok (.invokevirtual idx, 3)) (hG : mm_G Z d mi (vR a :: as) h G0) (kk : ∀ v h', G0 (.inl v) h' → mm_W p l e R s m args below meth c (mm_End R s below D cT zt A rho0 Post) D cT zt A (mm_ml mi0) rho0 (pc + 3) L (v.toList ++ rest) h') (kx : ∀ ex h' T' rho' locs' cells' slots' x ls stk, G0 (.inr ex) h' → mm_thr x (mm_ex ex) T' → rho0 <+: rho' → Stand p l e R s m args below meth c T' locs' cells' slots' → mm_I R s D cT zt A (mm_ml mi0) rho' L h' T'.heap locs' cells' slots' ls → ∃ t, Steps p.tables e below ((T'.setTop (F0 m pc ls stk)).pushFrame (.throwing x)) t ∧ mm_End R s below D cT zt A rho0 Post t) : mm_W p l e R s m args below meth c (mm_End R s below D cT zt A rho0 Post) D cT zt A (mm_ml mi0) rho0 pc L ((vR a :: as).reverse ++ rest) h := by
  intro rho H locs cells slots ls hp hst hI T hT X
  obtain ⟨hx, htr, hb, hr, hml, hown, hnm, hlk, hex, hd1, hd2, hA, hTb⟩ := id hF
  obtain ⟨hpl, hy⟩ := mm_yok_of hyo
  have hcs : (Jvm.Cond.code (mm_nm mi) (mm_cd mi) (mm_ml mi) (mm_rt mi)).before #[] s = true := hTb.1 _ hcode hgc
  obtain ⟨cellB, hcB, hoB, hclB⟩ := va_recv hTb.2.1 hI.2.2.2.1 hq (mm_at hI ha)
  obtain ⟨mk, methM, hnamed, hmethM, hstM, habM⟩ := Cond.instanceMethod_spec hinst
  obtain ⟨methM', cM, hmethM', -, -, -, -, -, -, hsigM⟩ := Cond.code_spec hnamed hcs
  cases hmethM.symm.trans hmethM'
  obtain ⟨c2, r2, m2, q1, q2, q3, q4, kP, hkP, hkPi⟩ := Cond.selects_spec hsel
  cases hclB.symm.trans q1
  cases (State.methodFound?_of_named hnamed hy).symm.trans q2
  cases hnamed.symm.trans q3
  have hselP : selectMethod e.platform s.vm cellB.cls mk = .method mk := by rw [Launch.admits_selectMethod X.admits]; exact q4
  subst hT
  obtain ⟨vm₁, X₁, hstep₁⟩ := X.invokevirtual hx hown hl hnamed hmethM hstM hkP hkPi hy (a := rho.getD a 0) (cell := cellB) hcB (fun z h => by rw [h] at hoB; cases hoB) hselP hmethM habM hkP hkPi (g := F0 m pc ls (((vR a :: as).reverse ++ rest).map (mm_v rho zt))) rfl (argsL := as.map (mm_v rho zt)) (rest := rest.map (mm_v rho zt)) (by rw [List.length_map]; exact mm_len_of hn _ hsigM) (by simp [mm_v]) (by rw [hb]; exact hd)
  obtain ⟨t, st, q⟩ := mm_thru0 X₁ hF rfl hI hp (fun v hv => hst v (List.mem_append_right _ hv)) (vs := vR a :: as) (fun v hv => hst v (List.mem_append_left _ (List.mem_reverse.mpr hv))) hlen (by rw [hb]; exact hd) (mm_spec_of hhk hnamed (hTb.1 _ hcode hgc)) hnamed hpl hmax hG kk (fun ex h' T' rho' locs' cells' slots' x => kx ex h' T' rho' locs' cells' slots' x ls _)
  exact ⟨t, hstep₁ t (fun acts => by rw [doInvoke_state]; exact st), q⟩
end MCR
end
section
/-! AN EXCEPTION IS MADE AND THROWN -/
section MT
variable {p : Program} {l : Launch} {e : Env} {R : Room} {s : State} {m : MethodId} {args : Array Value} {below : List Frame} {meth : Method} {c : Code}
/-- the same walk, told from here on: nothing is written yet, nothing made -/
theorem mm_reroot {T : State} {locs : List Loc} {cells slots : Nat} (X : Stand p l e R s m args below meth c T locs cells slots) (hc : cells ≤ R.cells) (hs : slots ≤ R.slots) :
    Stand p l e { frames := R.frames, cells := R.cells - cells, slots := R.slots - slots, locals := R.locals } (T.setFrames (.invoking m args :: below)) m args below meth c T [] 0 0 := by
  obtain ⟨g₀, hfr⟩ := X.frames_eq
  have hcur : T.cur < T.threads.size := State.cur_lt_of_frames hfr
  have hfs : (T.setFrames (.invoking m args :: below)).frames = .invoking m args :: below := State.frames_setFrames _ hcur
  have hvm : (T.setFrames (.invoking m args :: below)).vm = T.vm := rfl
  have hm : (T.setFrames (.invoking m args :: below)).vm.method? m = some meth := X.method'
  have hl : (T.setFrames (.invoking m args :: below)).localsInUse = s.localsInUse := by
    rw [State.localsInUse_invoking hfs hm X.code, State.localsInUse_invoking X.frames X.method X.code]
  refine ⟨X.admits, X.cas, X.clock, hfs, ?_, ?_, hm, X.code, X.here, X.tail, State.WarmedH.refl _, ?_, ?_, ?_⟩
  · have hr := X.room
    simp only [State.hasRoom, Bool.and_eq_true, decide_eq_true_eq] at hr ⊢
    obtain ⟨⟨⟨⟨r1, r2⟩, r3⟩, r4⟩, r5⟩ := hr
    have hfl : (T.setFrames (.invoking m args :: below)).frames.length = s.frames.length := by rw [hfs, X.frames]
    have hlim : e.platform.stackLimits (T.setFrames (.invoking m args :: below)).me = e.platform.stackLimits s.me := by rw [State.stackLimits_setFrames, X.limits]
    have hby : (T.setFrames (.invoking m args :: below)).me.stackBytes = s.me.stackBytes := by rw [State.stackBytes_setFrames, X.bytes]
    have h1 := X.heapSize
    have h2 := X.used
    refine ⟨⟨⟨⟨by rw [hl]; exact r1, ?_⟩, ?_⟩, ?_⟩, X.book⟩
    · rw [hl, hfl, hlim, hby]; exact r2
    · show T.heap.size + (R.cells - cells) ≤ _
      omega
    · show T.slotsUsed + (R.slots - slots) ≤ _
      omega
  · have h := X.hears
    have ha := X.warmed.alike
    unfold State.hears at h ⊢
    split
    · simp only at h
      rw [State.code?_eq] at h ⊢
      rw [hvm, ha.method?]
      exact h
    · rfl
    · rfl
    · rename_i h1 h2 h3
      split at h
      · exact absurd rfl (h1 _ _)
      · exact absurd rfl (h2 _ _)
      · exact absurd rfl (h3 _ _)
      · rw [hvm, ha.method?]; exact h
  · rw [State.stackLimits_setFrames]
  · rw [State.stackBytes_setFrames]
  · obtain ⟨th, hth, -⟩ := State.frames_cons hfs
    have hcur' : (T.setFrames (.invoking m args :: below)).cur < (T.setFrames (.invoking m args :: below)).threads.size := State.cur_lt_of_frames hfs
    have h := (State.sameButNew.refl (T.setFrames (.invoking m args :: below)) hth).setFrames T.frames hcur'
    have he : (T.setFrames (.invoking m args :: below)).setFrames T.frames = T := by
      obtain ⟨th2, hth2, -⟩ := State.frames_cons hfr
      rw [State.setFrames_setFrames, State.setFrames_self hth2]
    rw [he] at h
    exact h
end MT
theorem mm_isRef {args : Array Value} {s : State} {C n d : String} {A : Nat → Prop} (h : va_Zq C n d A s s.heap) : (Jvm.Cond.isRef (.static C n d)).before args s = true := by
  rcases h with ⟨cf, kf, fi, f, a, cell, h1, h2, h3, h4, h5, h6, h7, h8⟩ | ⟨t, cf, kf, fi, f, a, cell, h1, h2, h3, h4, h5, h6, h7, h8⟩ <;>
    simp [Cond.before, Cond.holds, Cond.value, Term.eval, State.fieldNamed?, h1, h2, h4, h5, h6, h7]
def mm_up : List String := ["java/lang/RuntimeException", "java/lang/Exception"]
/-- the words of a throw: those that go with the tables; four are of the heap -/
def mm_tw (w : Jvm.Cond) : Bool := (decide (w ∈ lw_tbl) && mm_gd w) || decide (w = .isRef (.static "java/lang/Throwable" "UNASSIGNED_STACK" "[Ljava/lang/StackTraceElement;")) || decide (w = .isRef (.static "java/lang/Throwable" "SUPPRESSED_SENTINEL" "Ljava/util/List;")) || decide (w = .laysStatic "java/lang/Throwable" "UNASSIGNED_STACK" "[Ljava/lang/StackTraceElement;") || decide (w = .laysStatic "java/lang/Throwable" "SUPPRESSED_SENTINEL" "Ljava/util/List;")
theorem mm_tw0 : (Bundle.ownAtoms "LispForge" 85 (mm_ex 0) mm_up).all mm_tw = true := by decide +kernel
theorem mm_tw1 : (Bundle.ownAtoms "LispForge$Compiler" 71 (mm_ex 1) mm_up).all mm_tw = true := by decide +kernel
theorem mm_tw2 : (Bundle.ownAtoms "LispForge" 109 (mm_ex 2) mm_up).all mm_tw = true := by decide +kernel
theorem mm_tw_before {Z : Nat → List Int32} {s : State} {D : va_G} {cT : Nat → ClassId} {zt : Nat → Nat} {A : Nat → Prop} {args : Array Value} {w : Jvm.Cond} (hT : mm_T Z s D cT zt A) (h : mm_tw w = true) : w.before args s = true := by
  simp only [mm_tw, Bool.or_eq_true, Bool.and_eq_true, decide_eq_true_eq] at h
  rcases h with (((⟨h1, h2⟩ | h1) | h1) | h1) | h1
  · exact mm_gd_args h2 (hT.1 w h1 h2)
  · subst h1; exact mm_isRef hT.2.2.2.2.2.1.1
  · subst h1; exact mm_isRef hT.2.2.2.2.2.2.1
  · subst h1; exact hT.2.2.2.2.2.1.2 args
  · subst h1; exact hT.2.2.2.2.2.2.2 args
theorem mm_same_cells {s t : State} {k n : Nat} (h : s.sameButNew t [] k n) {q : Nat} (hq : q < s.heap.size) : t.heap[q]? = s.heap[q]? := by
  obtain ⟨-, -, -, -, -, h6⟩ := h
  have h1 : s.heap[q]? = some s.heap[q] := Array.getElem?_eq_getElem hq
  obtain ⟨c', g1, g2, g3, g4⟩ := h6 q _ h1
  have g5 : c'.slots = (s.heap[q]).slots := Array.ext_getElem? fun i => g4 i (by simp)
  rw [g1, h1, g2, g5]
end
section
section MTW
variable {Z : Nat → List Int32} {p : Program} {l : Launch} {e : Env} {R : Room} {s : State} {m : MethodId} {args : Array Value} {below : List Frame} {meth : Method} {c : Code} {H : Heap} {locs : List Loc} {cells slots : Nat} {Q : State → Prop} {cc : ByteArray} {pc : Nat} {ls : Array Slot} {rest : List Value}
/-- a String constant, by either of two instructions -/
theorem mm_ldcS (hx : p.tables.exec = Jvm.exec) (hb : c.code = cc) {own tx : String} {index : Nat} (hown : s.vm.findClass own = some m.cls) (hs : (Jvm.Cond.stringRef own index tx).before args s = true) {n : Nat} (hd : (n = 2 ∧ decode cc pc = .ok (.ldc index, 2)) ∨ (n = 3 ∧ decode cc pc = .ok (.ldc_w index, 3)))
    (k : ∀ a, W p l e R s m args below meth c H locs cells slots Q (F0 m (pc + n) ls (.ref a :: rest))) : W p l e R s m args below meth c H locs cells slots Q (F0 m pc ls rest) := by
  obtain ⟨kc, cf, i, a, hk, hcf, hcp, -, hr, hev⟩ := Cond.stringRef_spec hown hs
  intro T hT X
  obtain ⟨t, a1, b1⟩ := k a T hT X
  refine ⟨t, ?_, b1⟩
  rcases hd with ⟨rfl, hd⟩ | ⟨rfl, hd⟩
  · exact X.ldcString hx hown (text := tx) (a := a) hs hev (g := F0 m pc ls rest) rfl (by rw [hb]; exact hd) t a1
  · obtain ⟨k', hk', he⟩ := X.warmed.alike.2.2 _ _ hk
    have hr' : k'.resolved[index]? = some (some (.string a)) := by
      rcases X.warmed.entry hk hk' index with h | ⟨h, -⟩
      · rw [h]; exact hr
      · rw [hr] at h; cases h
    jvm_step X.here [hx, hb, hd, ldc_w.wp_string (e := e) (s := T) (f := F0 m pc ls rest) X.here.top hk' (by rw [he]; exact hcf) hcp hr']
    exact a1
/-- where the throw ends, told from its own beginning -/
def mm_ThrQ (s : State) (below : List Frame) (C : String) : State → Prop := fun t => ∃ a : Addr, t.status = .running ∧ Ended t below (.threw a) ∧ s.WarmedH t.vm ∧ s.sameButNew ({ t with vm := s.vm } : State) [] 1 6 ∧ mm_thr a C t
theorem mm_throwW {D : va_G} {cT : Nat → ClassId} {zt : Nat → Nat} {A : Nat → Prop} {own C tx : String} {i1 i2 i3 n : Nat} (hx : p.tables.exec = Jvm.exec) (htr : e.platform.stackTraces = false) (hb : c.code = cc) (hml : c.maxLocals = ls.size) (hlk : meth.locks = false) (hex : c.exceptionTable.toList = []) (hown : s.vm.findClass own = some m.cls) (hT : mm_T Z s D cT zt A)
    (hcl : (Jvm.Cond.classLink own i1 C).before args s = true) (hini : (Jvm.Cond.initialized C).before args s = true) (hstr : (Jvm.Cond.stringRef own i2 tx).before args s = true) (hat : (Bundle.ownAtoms own i3 C mm_up).all mm_tw = true) (hfit : Bundle.fit C = true)
    (d1 : decode cc pc = .ok (.new i1, 3)) (d2 : decode cc (pc + 3) = .ok (.dup, 1)) (d3 : (n = 2 ∧ decode cc (pc + 4) = .ok (.ldc i2, 2)) ∨ (n = 3 ∧ decode cc (pc + 4) = .ok (.ldc_w i2, 3))) (d4 : decode cc (pc + 4 + n) = .ok (.invokespecial i3, 3)) (d5 : decode cc (pc + 4 + n + 3) = .ok (.athrow, 1))
    (hfr : 5 < R.frames) (hlo : (rest.map fun v => v.category).sum + 82 ≤ R.locals) (hc1 : 1 ≤ R.cells) (hs6 : 6 ≤ R.slots) : W p l e R s m args below meth c s.heap [] 0 0 (mm_ThrQ s below C) (F0 m pc ls rest) := by
  have hall : ∀ w ∈ Bundle.ownAtoms own i3 C mm_up, w.before args s = true := fun w hw => mm_tw_before hT (List.all_eq_true.mp hat w hw)
  have hins : (Jvm.Cond.instantiable C 6).before args s = true := hall _ (by simp [Bundle.ownAtoms])
  obtain ⟨cX, kX, hfc, hkX, -⟩ := Cond.instantiable_spec hins
  refine W.newcK hx hb hown hcl hins hini rfl d1 (by omega) (by omega) hfc rfl fun H1 kC hkC e1 z1 o1 => ?_
  cases hkX.symm.trans hkC
  refine lv_dup hx hb d2 rfl ?_
  refine mm_ldcS hx hb hown hstr d3 fun q => ?_
  intro T hT2 X
  obtain ⟨U, st, hrun, hend, hW, hsame, ce, hce, oc⟩ := X.ctorThrowS hx htr (own := own) (cls := C) (names := mm_up) (ic := i3) hown hfit (by decide +kernel) hall (fun x hx => by cases hx) (a := s.heap.size) hfc hkX (by rw [hT2]; exact e1) (Nat.le_refl _) (msg := .ref q) rfl (g := F0 m (pc + 3 + 1 + n) ls (.ref q :: .ref s.heap.size :: .ref s.heap.size :: rest)) rfl hml.symm rfl rfl rfl (by rw [hb]; exact d4) (by rw [hb]; exact d5) (by rw [hex]; intro y hy; cases hy) (by simp [mm_up]; omega) (by
      show 2 * 0 + (1 + (rest.map fun v => v.category).sum) + (13 * (2 + 1) + 42) ≤ R.locals
      omega) hlk
  refine ⟨U, st, s.heap.size, hrun, hend, hW, hsame, ce, hce, ?_, ?_⟩
  · rw [oc.vm]; rfl
  · rw [hW.alike.findClass]; exact oc.cls
end MTW
section MTR
variable {Z : Nat → List Int32} {p : Program} {l : Launch} {e : Env} {R : Room} {s : State} {m : MethodId} {args : Array Value} {below : List Frame} {meth : Method} {c : Code} {Post : mm_A → mm_H → Prop} {D : va_G} {cT : Nat → ClassId} {zt : Nat → Nat} {A : Nat → Prop} {rho0 : List Nat} {pc : Nat} {L : mm_L} {st : List mm_V} {h : mm_H}
theorem mr_throw {mi0 d ex i1 i2 i3 n : Nat} {tx : String} (hh0 : mm_hd mi0 = []) (hF : mm_F Z mi0 d p e R s m meth c D cT zt A) (hd6 : 6 ≤ d) (hlen : st.length ≤ 12)
    (hcl : Jvm.Cond.classLink (mm_nm mi0).cls i1 (mm_ex ex) ∈ lw_tbl) (hclg : mm_gd (Jvm.Cond.classLink (mm_nm mi0).cls i1 (mm_ex ex)) = true) (hini : Jvm.Cond.initialized (mm_ex ex) ∈ lw_tbl) (hinig : mm_gd (Jvm.Cond.initialized (mm_ex ex)) = true) (hstr : Jvm.Cond.stringRef (mm_nm mi0).cls i2 tx ∈ lw_tbl) (hat : (Bundle.ownAtoms (mm_nm mi0).cls i3 (mm_ex ex) mm_up).all mm_tw = true) (hfit : Bundle.fit (mm_ex ex) = true)
    (d1 : decode (mm_cd mi0) pc = .ok (.new i1, 3)) (d2 : decode (mm_cd mi0) (pc + 3) = .ok (.dup, 1)) (d3 : (n = 2 ∧ decode (mm_cd mi0) (pc + 4) = .ok (.ldc i2, 2)) ∨ (n = 3 ∧ decode (mm_cd mi0) (pc + 4) = .ok (.ldc_w i2, 3))) (d4 : decode (mm_cd mi0) (pc + 4 + n) = .ok (.invokespecial i3, 3)) (d5 : decode (mm_cd mi0) (pc + 4 + n + 3) = .ok (.athrow, 1))
    (hb1 : 1 ≤ h.2.1) (hb6 : 6 ≤ h.2.2) (hq : Post (aT ex) (h.1, (h.2.1 - 1, h.2.2 - 6))) : mm_W p l e R s m args below meth c (mm_End R s below D cT zt A rho0 Post) D cT zt A (mm_ml mi0) rho0 pc L st h := by
  intro rho H locs cells slots ls hp hst hI T hT X
  obtain ⟨hx, htr, hb, hr, hml, hown, hnm, hlk, hex0, hd1, hd2, hA, hTb⟩ := id hF
  have hex : c.exceptionTable.toList = [] := by
    rw [hh0] at hex0
    exact List.map_eq_nil_iff.mp hex0
  have hbc := hI.2.2.2.2.2.2.2.1
  have hbs := hI.2.2.2.2.2.2.2.2
  have X' := mm_reroot X (by omega) (by omega)
  have hW0 : s.WarmedH (T.setFrames (.invoking m args :: below)).vm := X.warmed
  have hT1 : mm_T Z (T.setFrames (.invoking m args :: below)) D cT zt A := hTb.moved hW0 (fun q h1 h2 => by
    show T.heap[q]? = _
    rw [hT]
    exact hI.2.2.2.2.2.1.2.1 q h1 h2) (fun _ z => z)
  have hcat := mm_catSum (st.map (mm_v rho zt))
  rw [List.length_map] at hcat
  obtain ⟨U, st1, a, hrun, hend, hW, hsame, hthr⟩ := mm_throwW (l := l) (R := { frames := R.frames, cells := R.cells - cells, slots := R.slots - slots, locals := R.locals }) (s := T.setFrames (.invoking m args :: below)) (m := m) (args := args) (below := below) (ls := ls) (rest := st.map (mm_v rho zt)) (own := (mm_nm mi0).cls) (C := mm_ex ex) (tx := tx) hx htr hb (by rw [hml]; exact hI.2.2.2.2.2.2.1.2.1.symm) hlk hex (by
      show T.vm.findClass _ = _
      rw [X.warmed.alike.findClass]; exact hown) hT1 (mm_gd_args hclg (hT1.1 _ hcl hclg)) (mm_gd_args hinig (hT1.1 _ hini hinig)) (mm_gd_args rfl (hT1.1 _ hstr rfl)) hat hfit d1 d2 d3 d4 d5 (by show 5 < R.frames; omega) (by show _ ≤ R.locals; omega) (by show 1 ≤ R.cells - cells; omega) (by show 6 ≤ R.slots - slots; omega) T rfl X'
  obtain ⟨g₀, hfr⟩ := X.frames_eq
  obtain ⟨th, hth, -⟩ := State.frames_cons hfr
  have hcur : T.cur < T.threads.size := State.cur_lt_of_frames hfr
  have h0 : T.sameButNew (T.setFrames (.invoking m args :: below)) [] 0 0 := (State.sameButNew.refl T hth).setFrames _ hcur
  have h1 : T.sameButNew (U.setVm T.vm) ([] ++ []) (0 + 1) (0 + 6) := h0.trans hsame
  have h2 := X.same.trans (h1.setVm s.vm)
  have hheap : ∀ q, q < T.heap.size → U.heap[q]? = T.heap[q]? := fun q hq => mm_same_cells hsame (q := q) hq
  have hsz : T.heap.size ≤ U.heap.size := h1.2.1
  subst hT
  have hP : va_P D vwCl (mm_w rho zt cT h.1) U.heap := hI.2.2.2.1.kept (fun k q hk => hheap q.1 (hI.2.2.2.1 k q hk).lt)
  refine ⟨U, st1, aT ex, (h.1, (h.2.1 - 1, h.2.2 - 6)), rho, .threw a, locs, cells + 1, slots + 6, hq, hrun, hend, ⟨a, rfl, hthr⟩, State.WarmedH.trans X.warmed hW, ?_, hp, hI.1, hI.2.1, hP, hI.2.2.2.2.1, ⟨Nat.le_trans hI.2.2.2.2.2.1.1 hsz, fun q q1 q2 => ?_, hI.2.2.2.2.2.1.2.2⟩, ?_, ?_⟩
  · have h3 : s.sameButNew ((U.setVm T.vm).setVm s.vm) locs (cells + 1) (slots + 6) := by simpa using h2
    exact h3
  · rw [hheap q (Nat.lt_of_lt_of_le q1 hI.2.2.2.2.2.1.1)]
    exact hI.2.2.2.2.2.1.2.1 q q1 q2
  · show cells + 1 + (h.2.1 - 1) ≤ R.cells
    omega
  · show slots + 6 + (h.2.2 - 6) ≤ R.slots
    omega
end MTR
end
section
def mm_cil : List Nat := [0, 1, 99, 6, 8, 2, 4, 5, 0, 0, 1, 1, 0, 0, 8, 1, 1, 0, 8, 0, 0, 0, 5, 0, 0, 5, 0, 0, 6, 6, 6, 6, 6, 6, 3, 0, 6, 3, 6, 3, 6, 6, 6, 1, 2, 3, 2, 2, 2, 2, 2, 9, 2, 2, 2, 2, 2, 7, 2, 8, 2, 2, 7, 2, 2, 2, 2, 2, 2, 2, 2, 1, 2, 2, 2, 2, 2, 2, 1, 1, 99, 99, 2, 1, 1, 8, 8, 0, 4, 4, 4, 4, 4, 4, 1, 4, 4, 0, 5, 5, 5, 5, 5, 5, 5, 5, 5, 5, 10, 10, 10, 10, 10, 10, 10, 10, 10, 10, 10, 10, 10, 10, 10, 10, 10, 10, 10, 10, 10, 10, 10, 10, 10, 10, 10, 10, 10, 10, 10, 10, 10, 10, 10, 10, 10, 10, 10, 10, 10, 10, 10, 10, 10, 10, 10, 10, 10, 10, 10, 10, 10, 10, 10, 10, 10, 10, 10, 99, 99, 99, 99]
def mm_ci (m : Nat) : Nat := mm_cil.getD m 99
/-- the word w stands at the place i of the table, and goes with it from frame to frame -/
def mm_wq (i : Nat) (w : Jvm.Cond) : Bool := decide (lw_tbl[i]? = some w) && mm_gd w
theorem mm_wq_of {i : Nat} {w : Jvm.Cond} (h : mm_wq i w = true) : w ∈ lw_tbl ∧ mm_gd w = true := by
  simp only [mm_wq, Bool.and_eq_true, decide_eq_true_eq] at h
  exact ⟨List.mem_of_getElem? h.1, h.2⟩
theorem mm_wq_before {Z : Nat → List Int32} {i : Nat} {w : Jvm.Cond} {s : State} {D : va_G} {cT : Nat → ClassId} {zt : Nat → Nat} {A : Nat → Prop} {args : Array Value} (h : mm_wq i w = true) (hT : mm_T Z s D cT zt A) : w.before args s = true := by
  obtain ⟨h1, h2⟩ := mm_wq_of h
  exact mm_gd_args h2 (hT.1 w h1 h2)
def mm_own (mi : Nat) : String := (mm_nm mi).cls
def mm_codeW (m : Nat) : Jvm.Cond := .code (mm_nm m) (mm_cd m) (mm_ml m) (mm_rt m)
def mm_pars (m : Nat) : Option Nat := (parseMethodDescriptor (mm_nm m).desc).map fun d => d.parameters.length
/-- the real instruction o, of len bytes at pc of the method mi, is the small machine's step i; hs: where its words stand -/
def mm_res (mi pc : Nat) (o : Instr) (len : Nat) (i : Instr) (hs : List Nat) : Bool := match i with
  | .sipush n => (match o with
    | .iconst k => decide (len = 1) && decide (Int32.ofInt k = Int32.ofInt n)
    | .bipush k => decide (len = 2) && decide ((Int8.ofInt k).toInt32 = Int32.ofInt n)
    | .sipush k => decide (len = 3) && decide ((Int16.ofInt k).toInt32 = Int32.ofInt n)
    | .ldc x => decide (len = 2) && mm_wq (hs.getD 0 0) (.constant (mm_own mi) x (Int32.ofInt n))
    | .ldc_w x => decide (len = 3) && mm_wq (hs.getD 0 0) (.constant (mm_own mi) x (Int32.ofInt n))
    | _ => false)
  | .jsr n => (match o with
    | .ldc2_w x => decide (len = 3) && mm_wq (hs.getD 0 0) (.constantLong (mm_own mi) x (Int64.ofInt n))
    | _ => false)
  | .getstatic j => (match o with
    | .getstatic x => decide (len = 3) && decide (j = 0) && mm_wq (hs.getD 0 0) (.fieldLinkNest (mm_own mi) x "LispForge" "STEP_LENGTHS" "[I" "LispForge")
    | _ => false)
  | .iload k => (match o with
    | .iload j => decide (len = 2) && decide (j = k)
    | .iload_n j => decide (len = 1) && decide (j.val = k)
    | _ => false)
  | .lload k => (match o with
    | .lload j => decide (len = 2) && decide (j = k)
    | .lload_n j => decide (len = 1) && decide (j.val = k)
    | _ => false)
  | .aload k => (match o with
    | .aload j => decide (len = 2) && decide (j = k)
    | .aload_n j => decide (len = 1) && decide (j.val = k)
    | _ => false)
  | .istore k => (match o with
    | .istore j => decide (len = 2) && decide (j = k)
    | .istore_n j => decide (len = 1) && decide (j.val = k)
    | _ => false)
  | .astore k => (match o with
    | .astore j => decide (len = 2) && decide (j = k)
    | .astore_n j => decide (len = 1) && decide (j.val = k)
    | _ => false)
  | .iinc k n => decide (o = .iinc k n) && decide (len = 3)
  | .invokeinterface ci k => (match o, vwCl[ci]? with
    | .getfield x, some q => decide (len = 3) && decide (k < q.2.2) && (mm_wq (hs.getD 0 0) (.fieldLink (mm_own mi) x (q.2.1 k).1 (q.2.1 k).2.1 (q.2.1 k).2.2.1) || mm_wq (hs.getD 0 0) (.fieldLinkNest (mm_own mi) x (q.2.1 k).1 (q.2.1 k).2.1 (q.2.1 k).2.2.1 "LispForge"))
    | _, _ => false)
  | .multianewarray ci k => (match o, vwCl[ci]? with
    | .putfield x, some q => decide (len = 3) && decide (k < q.2.2) && ((mm_wq (hs.getD 0 0) (.fieldLink (mm_own mi) x (q.2.1 k).1 (q.2.1 k).2.1 (q.2.1 k).2.2.1) && (decide ((q.2.1 k).2.2.2 = false) || (decide ((q.2.1 k).2.2.2 = true) && decide ((mm_nm mi).name = "<init>") && decide ((q.2.1 k).1 = mm_own mi)))) || (mm_wq (hs.getD 0 0) (.fieldLinkNest (mm_own mi) x (q.2.1 k).1 (q.2.1 k).2.1 (q.2.1 k).2.2.1 "LispForge") && decide ((q.2.1 k).2.2.2 = false)))
    | _, _ => false)
  | .new ci => (match o, vwCl[ci]? with
    | .new x, some q => decide (len = 3) && mm_wq (hs.getD 0 0) (.classLink (mm_own mi) x q.1) && mm_wq (hs.getD 1 0) (.instantiable q.1 q.2.2) && mm_wq (hs.getD 2 0) (.initialized q.1) && decide ((List.range q.2.2).all (fun j => match (mm_K ci).getD j .int with | .int => true | .boolean => true | .long => true | .object _ => true | .array _ => true | _ => false) = true)
    | _, _ => false)
  | .newarray .int => decide (o = .newarray .int) && decide (len = 2) && mm_wq (hs.getD 0 0) (.arrayClass .int)
  | .newarray .byte => decide (o = .newarray .byte) && decide (len = 2) && mm_wq (hs.getD 0 0) (.arrayClass .byte)
  | .newarray .char => decide (o = .newarray .char) && decide (len = 2) && mm_wq (hs.getD 0 0) (.arrayClass .char)
  | .newarray .long => decide (o = .newarray .long) && decide (len = 2) && mm_wq (hs.getD 0 0) (.arrayClass .long)
  | .anewarray j => (match o with
    | .anewarray x => decide (len = 3) && decide (j < 2) && mm_wq (hs.getD 0 0) (.classLink (mm_own mi) x (if j = 0 then "LispForge$Form" else "LispForge$Unit"))
    | _ => false)
  | .invokestatic m => (match o with
    | .invokestatic x => decide (len = 3) && (mm_wq (hs.getD 0 0) (.methodLink (mm_own mi) x (mm_nm m)) || mm_wq (hs.getD 0 0) (.methodLinkNest (mm_own mi) x (mm_nm m) "LispForge")) && mm_wq (hs.getD 1 0) (.static (mm_nm m)) && mm_wq (hs.getD 2 0) (.initialized (mm_nm m).cls) && mm_wq (hs.getD 3 0) (mm_codeW m) && mm_yok (mm_nm m) && decide (mm_ml m ≤ 20) && decide (mm_pars m = some (mm_na m)) && decide (mm_hd m = [])
    | _ => false)
  | .putstatic m => (match o with
    | .invokestatic x => decide (len = 3) && mm_wq (hs.getD 0 0) (.methodLink (mm_own mi) x (mm_nm m)) && mm_wq (hs.getD 1 0) (.static (mm_nm m)) && mm_wq (hs.getD 2 0) (.initialized (mm_nm m).cls) && mm_wq (hs.getD 3 0) (.codeWith (mm_nm m) (mm_cd m) (mm_ml m) (mm_rt m) (mm_hd m)) && mm_yok (mm_nm m) && decide (mm_ml m ≤ 20) && decide (mm_pars m = some (mm_na m))
    | _ => false)
  | .invokevirtual m => (match o, vwCl[mm_ci m]? with
    | .invokespecial x, some _ => decide (len = 3) && (mm_wq (hs.getD 0 0) (.methodLink (mm_own mi) x (mm_nm m)) || mm_wq (hs.getD 0 0) (.methodLinkNest (mm_own mi) x (mm_nm m) "LispForge")) && mm_wq (hs.getD 1 0) (.instanceMethod (mm_nm m)) && mm_wq (hs.getD 3 0) (mm_codeW m) && mm_yok (mm_nm m) && decide (mm_ml m ≤ 20) && decide ((mm_nm m).name = "<init>") && decide (mm_rt m = none) && decide ((mm_pars m).map (· + 1) = some (mm_na m)) && decide (mm_hd m = [])
    | .invokevirtual x, some q => decide (len = 3) && mm_wq (hs.getD 0 0) (.methodLink (mm_own mi) x (mm_nm m)) && mm_wq (hs.getD 1 0) (.instanceMethod (mm_nm m)) && mm_wq (hs.getD 2 0) (.selects q.1 (mm_nm m) (mm_nm m)) && mm_wq (hs.getD 4 0) (mm_codeW m) && mm_yok (mm_nm m) && decide (mm_ml m ≤ 20) && decide ((mm_pars m).map (· + 1) = some (mm_na m)) && decide (mm_hd m = [])
    | _, _ => false)
  | .invokespecial _ => (match o with
    | .invokespecial x => decide (len = 3) && mm_wq (hs.getD 0 0) (.methodLink (mm_own mi) x Lib.objectInit) && mm_wq (hs.getD 1 0) (.instanceMethod Lib.objectInit) && mm_wq (hs.getD 2 0) (.code Lib.objectInit ⟨#[0xb1]⟩ 1 none)
    | _ => false)
  | .fadd => (match o with
    | .invokestatic x => decide (len = 3) && mm_wq (hs.getD 0 0) (.methodLink (mm_own mi) x Lib.Math.max.name) && mm_wq (hs.getD 1 0) (.static Lib.Math.max.name) && mm_wq (hs.getD 2 0) (.initialized "java/lang/Math") && mm_wq (hs.getD 3 0) (.code Lib.Math.max.name Lib.Math.max.code 2 (some .int))
    | _ => false)
  | .fsub => (match o with
    | .invokestatic x => decide (len = 3) && mm_wq (hs.getD 0 0) (.methodLink (mm_own mi) x Lib.Math.min.name) && mm_wq (hs.getD 1 0) (.static Lib.Math.min.name) && mm_wq (hs.getD 2 0) (.initialized "java/lang/Math") && mm_wq (hs.getD 3 0) (.code Lib.Math.min.name Lib.Math.min.code 2 (some .int))
    | _ => false)
  | .goto t => (match o with
    | .goto off => decide (len = 3) && decide ((pc : Int) + off = (t.toNat : Int))
    | _ => false)
  | .if_icmp cd t => (match o with
    | .if_icmp ce off => decide (len = 3) && decide (ce = cd) && decide ((pc : Int) + off = (t.toNat : Int))
    | _ => false)
  | .ifCond cd t => (match o with
    | .ifCond ce off => decide (len = 3) && decide (ce = cd) && decide ((pc : Int) + off = (t.toNat : Int))
    | _ => false)
  | .if_acmp cd t => (match o with
    | .if_acmp ce off => decide (len = 3) && decide (ce = cd) && decide ((pc : Int) + off = (t.toNat : Int))
    | _ => false)
  | .ifnull t => (match o with
    | .ifnull off => decide (len = 3) && decide ((pc : Int) + off = (t.toNat : Int))
    | _ => false)
  | .ifnonnull t => (match o with
    | .ifnonnull off => decide (len = 3) && decide ((pc : Int) + off = (t.toNat : Int))
    | _ => false)
  | .lookupswitch d ps => (match o with
    | .lookupswitch d0 qs => decide ((pc : Int) + d0 = (d.toNat : Int)) && decide (((qs.toList.zip (qs.toList.drop 1)).all fun (a, next) => a.1 < next.1) = true) && decide (ps.toList = qs.toList.map fun q => (q.1, (pc : Int) + q.2)) && qs.toList.all (fun q => decide (0 ≤ (pc : Int) + q.2 ∧ -2147483648 ≤ q.1 ∧ q.1 ≤ 2147483647))
    | .tableswitch d0 lo hi offs => decide ((pc : Int) + d0 = (d.toNat : Int)) && decide (ps.toList = (List.range offs.size).map fun (j : Nat) => (lo + (j : Int), (pc : Int) + offs.toList.getD j 0)) && decide (hi - lo + 1 = (offs.size : Int)) && offs.toList.all (fun q => decide (0 ≤ (pc : Int) + q)) && decide (-2147483648 ≤ lo ∧ hi ≤ 2147483647)
    | _ => false)
  | .return_ => decide (o = .return_) && decide (len = 1) && decide (mm_rt mi = none)
  | .ireturn => decide (o = .ireturn) && decide (len = 1) && decide (mm_rt mi = some .int)
  | .freturn => decide (o = .ireturn) && decide (len = 1) && decide (mm_rt mi = some .boolean)
  | .areturn => decide (o = .areturn) && decide (len = 1) && (match mm_rt mi with
    | some (.object _) => true
    | some (.array _) => true
    | _ => false)
  | i => decide (o = i) && decide (len = 1)
/-- no call, no throw -/
def mm_nc (i : Instr) : Bool := match i with
  | .invokestatic _ => false
  | .putstatic _ => false
  | .invokevirtual _ => false
  | .checkcast _ => false
  | _ => true
/-- where an exception's constructor is linked: (class, exception, its pool number) -/
def mm_site (mi e i3 : Nat) : Bool := (decide (mm_own mi = "LispForge") && decide (e = 0) && decide (i3 = 85)) || (decide (mm_own mi = "LispForge$Compiler") && decide (e = 1) && decide (i3 = 71)) || (decide (mm_own mi = "LispForge") && decide (e = 2) && decide (i3 = 109))
theorem mm_site_of {mi e i3 : Nat} (h : mm_site mi e i3 = true) : (Bundle.ownAtoms (mm_own mi) i3 (mm_ex e) mm_up).all mm_tw = true ∧ Jvm.Cond.initialized (mm_ex e) ∈ lw_tbl ∧ Bundle.fit (mm_ex e) = true := by
  simp only [mm_site, Bool.or_eq_true, Bool.and_eq_true, decide_eq_true_eq] at h
  rcases h with (⟨⟨h1, rfl⟩, rfl⟩ | ⟨⟨h1, rfl⟩, rfl⟩) | ⟨⟨h1, rfl⟩, rfl⟩
  · rw [h1]; exact ⟨mm_tw0, List.mem_of_getElem? (i := 92) (by decide +kernel), by decide +kernel⟩
  · rw [h1]; exact ⟨mm_tw1, List.mem_of_getElem? (i := 93) (by decide +kernel), by decide +kernel⟩
  · rw [h1]; exact ⟨mm_tw2, List.mem_of_getElem? (i := 98) (by decide +kernel), by decide +kernel⟩
/-- the five steps of a throw -/
def mm_chkT (mi pc e : Nat) (hs : List Nat) : Bool := match decode (mm_cd mi) pc with
  | .ok (.new i1, 3) => (match decode (mm_cd mi) (pc + 4) with
    | .ok (.ldc i2, 2) => (match decode (mm_cd mi) (pc + 6) with
      | .ok (.invokespecial i3, 3) => decide (decode (mm_cd mi) (pc + 3) = .ok (.dup, 1)) && decide (decode (mm_cd mi) (pc + 9) = .ok (.athrow, 1)) && mm_wq (hs.getD 0 0) (.classLink (mm_own mi) i1 (mm_ex e)) && (match lw_tbl[hs.getD 1 0]? with
        | some (.stringRef a b _) => decide (a = mm_own mi) && decide (b = i2)
        | _ => false) && mm_site mi e i3
      | _ => false)
    | .ok (.ldc_w i2, 3) => (match decode (mm_cd mi) (pc + 7) with
      | .ok (.invokespecial i3, 3) => decide (decode (mm_cd mi) (pc + 3) = .ok (.dup, 1)) && decide (decode (mm_cd mi) (pc + 10) = .ok (.athrow, 1)) && mm_wq (hs.getD 0 0) (.classLink (mm_own mi) i1 (mm_ex e)) && (match lw_tbl[hs.getD 1 0]? with
        | some (.stringRef a b _) => decide (a = mm_own mi) && decide (b = i2)
        | _ => false) && mm_site mi e i3
      | _ => false)
    | _ => false)
  | _ => false
def mm_last1 (i : Instr) : Bool := match i with
  | .goto _ => true
  | .lookupswitch _ _ => true
  | .return_ => true
  | .ireturn => true
  | .freturn => true
  | .areturn => true
  | _ => false
def mm_chk (mi : Nat) : Nat → List Instr → List (List Nat) → Bool
  | _, [], _ => true
  | pc, i :: is, hs => match i with
    | .goto_w t => decide (t.toNat = pc)
    | .checkcast e => mm_chkT mi pc e (hs.headD [])
    | i => (match decode (mm_cd mi) pc with
      | .ok (o, len) => mm_res mi pc o len i (hs.headD []) && (mm_last1 i || mm_chk mi (pc + len) is hs.tail)
      | .error _ => false)
end
section
theorem mm_gd_uws {C : String} {T : u_T} {N : Nat} : ∀ w ∈ u_ws C T N, mm_gd w = true := by
  intro w hw
  obtain ⟨k, -, rfl⟩ := List.mem_map.mp hw
  unfold u_lay
  split <;> rfl
theorem mm_uws {Z : Nat → List Int32} {ci : Nat} {q : vw_C} {s : State} {D : va_G} {cT : Nat → ClassId} {zt : Nat → Nat} {A : Nat → Prop} {args : Array Value} (hq : vwCl[ci]? = some q) (hT : mm_T Z s D cT zt A) : ∀ w ∈ u_ws q.1 q.2.1 q.2.2, w.before args s = true := fun w hw => mm_gd_args (mm_gd_uws w hw) (hT.1 w ((mm_cls_ok hq).1 w hw) (mm_gd_uws w hw))
theorem mm_fresh0 (tys : List FieldType) : ∀ v ∈ mm_fresh tys, mm_ok 0 v := by
  intro v hv
  obtain ⟨t, -, rfl⟩ := List.mem_map.mp hv
  cases t <;> trivial
theorem mm_fresh_at {tys : List FieldType} {N : Nat} (hl : tys.length = N) (ht : ∀ j, j < N → (match tys.getD j .int with | .int => true | .boolean => true | .long => true | .object _ => true | .array _ => true | _ => false) = true) (rho : List Nat) (zt : Nat → Nat) (j : Nat) (hj : j < N) : defaultValue (tys.getD j .int) = vp_V ((mm_fresh tys).map (mm_v rho zt)) j := by
  have h1 : tys[j]? = some (tys.getD j .int) := by
    rw [List.getD_eq_getElem?_getD, List.getElem?_eq_getElem (by omega)]; rfl
  have h2 := ht j hj
  simp only [vp_V, mm_fresh, List.map_map, List.getD_eq_getElem?_getD, List.getElem?_map]
  rw [List.getD_eq_getElem?_getD] at h1 h2
  rw [h1] at h2 ⊢
  generalize tys[j]?.getD FieldType.int = t at h2 ⊢
  cases t <;> simp_all [defaultValue, mm_v]
set_option maxHeartbeats 4000000 in
/-- ONE STEP of the small machine is one of the real one -/
theorem mm_s1_sound {Z : Nat → List Int32} {p : Program} {l : Launch} {e : Env} {R : Room} {s : State} {m : MethodId} {args : Array Value} {below : List Frame} {meth : Method} {c : Code} {Q : State → Prop} {D : va_G} {cT : Nat → ClassId} {zt : Nat → Nat} {A : Nat → Prop} {rho0 : List Nat} {mi d pc len : Nat} {i w : Instr} {hs : List Nat} {L L' : mm_L} {st st' : List mm_V} {h h' : mm_H}
    (hF : mm_F Z mi d p e R s m meth c D cT zt A) (hdc : decode (mm_cd mi) pc = .ok (w, len)) (hres : mm_res mi pc w len i hs = true) (hs1 : mm_s1 mm_K Z i L st h = some (L', st', h')) (k : mm_W p l e R s m args below meth c Q D cT zt A (mm_ml mi) rho0 (pc + len) L' st' h') : mm_W p l e R s m args below meth c Q D cT zt A (mm_ml mi) rho0 pc L st h := by
  obtain ⟨hx, htr, hb, hr, hml, hown, hnm, hlk, hex, hd1, hd2, hA, hTb⟩ := id hF
  have hK := hTb.2.1
  unfold mm_s1 at hs1
  split at hs1
  · cases hs1
    simp only [mm_res] at hres
    split at hres <;> simp only [Bool.and_eq_true, Bool.or_eq_true, decide_eq_true_eq, Bool.false_eq_true] at hres
    · obtain ⟨rfl, hv⟩ := hres; exact mr_iconst hx hb hdc hv k
    · obtain ⟨rfl, hv⟩ := hres; exact mr_bipush hx hb hdc hv k
    · obtain ⟨rfl, hv⟩ := hres; exact mr_sipush hx hb hdc hv k
    · obtain ⟨rfl, hv⟩ := hres; exact mr_ldc hx hb hown (mm_wq_before hv hTb) hdc k
    · obtain ⟨rfl, hv⟩ := hres; exact mr_ldcw hx hb hown (mm_wq_before hv hTb) hdc k
  · cases hs1
    simp only [mm_res] at hres
    simp only [Bool.and_eq_true, Bool.or_eq_true, decide_eq_true_eq, Bool.false_eq_true] at hres
    obtain ⟨rfl, rfl⟩ := hres
    exact mr_lconst hx hb hdc k
  · cases hs1
    simp only [mm_res] at hres
    simp only [Bool.and_eq_true, Bool.or_eq_true, decide_eq_true_eq, Bool.false_eq_true] at hres
    obtain ⟨rfl, rfl⟩ := hres
    exact mr_null hx hb hdc k
  · cases hs1
    simp only [mm_res] at hres
    split at hres <;> simp only [Bool.and_eq_true, Bool.or_eq_true, decide_eq_true_eq, Bool.false_eq_true] at hres
    obtain ⟨⟨rfl, rfl⟩, hv⟩ := hres
    exact mr_getsN hx hb hTb.2.2.2.1 hown (mm_wq_before hv hTb) hdc k
  · split at hs1
    · rename_i hL
      cases hs1
      simp only [mm_res] at hres
      split at hres <;> simp only [Bool.and_eq_true, Bool.or_eq_true, decide_eq_true_eq, Bool.false_eq_true] at hres
      · obtain ⟨rfl, rfl⟩ := hres; exact mr_iload hx hb hL hdc k
      · obtain ⟨rfl, rfl⟩ := hres; exact mr_iload_n hx hb hL hdc k
    · cases hs1
  · split at hs1
    · rename_i hL
      cases hs1
      simp only [mm_res] at hres
      split at hres <;> simp only [Bool.and_eq_true, Bool.or_eq_true, decide_eq_true_eq, Bool.false_eq_true] at hres
      · obtain ⟨rfl, rfl⟩ := hres; exact mr_lload hx hb hL hdc k
      · obtain ⟨rfl, rfl⟩ := hres; exact mr_lload_n hx hb hL hdc k
    · cases hs1
  · split at hs1
    · rename_i hL
      cases hs1
      simp only [mm_res] at hres
      split at hres <;> simp only [Bool.and_eq_true, Bool.or_eq_true, decide_eq_true_eq, Bool.false_eq_true] at hres
      · obtain ⟨rfl, rfl⟩ := hres; exact mr_aload hx hb hL hdc k
      · obtain ⟨rfl, rfl⟩ := hres; exact mr_aload_n hx hb hL hdc k
    · rename_i hL
      cases hs1
      simp only [mm_res] at hres
      split at hres <;> simp only [Bool.and_eq_true, Bool.or_eq_true, decide_eq_true_eq, Bool.false_eq_true] at hres
      · obtain ⟨rfl, rfl⟩ := hres; exact mr_aloadZ hx hb hL hdc k
      · obtain ⟨rfl, rfl⟩ := hres; exact mr_aloadZ_n hx hb hL hdc k
    · cases hs1
  · split at hs1
    · simp only [Option.map_eq_some_iff] at hs1
      obtain ⟨L2, hs2, he⟩ := hs1
      cases he
      simp only [mm_res] at hres
      split at hres <;> simp only [Bool.and_eq_true, Bool.or_eq_true, decide_eq_true_eq, Bool.false_eq_true] at hres
      · obtain ⟨rfl, rfl⟩ := hres; exact mr_istore hx hb hs2 hdc k
      · obtain ⟨rfl, rfl⟩ := hres; exact mr_istore_n hx hb hs2 hdc k
    · cases hs1
  · split at hs1
    · simp only [Option.map_eq_some_iff] at hs1
      obtain ⟨L2, hs2, he⟩ := hs1
      cases he
      simp only [mm_res] at hres
      split at hres <;> simp only [Bool.and_eq_true, Bool.or_eq_true, decide_eq_true_eq, Bool.false_eq_true] at hres
      · obtain ⟨rfl, rfl⟩ := hres; exact mr_astore hx hb hs2 hdc k
      · obtain ⟨rfl, rfl⟩ := hres; exact mr_astore_n hx hb hs2 hdc k
    · cases hs1
  · split at hs1
    · rename_i hL
      simp only [Option.map_eq_some_iff] at hs1
      obtain ⟨L2, hs2, he⟩ := hs1
      cases he
      simp only [mm_res] at hres
      simp only [Bool.and_eq_true, Bool.or_eq_true, decide_eq_true_eq, Bool.false_eq_true] at hres
      obtain ⟨rfl, rfl⟩ := hres
      exact mr_iinc hx hb hL hs2 hdc k
    · cases hs1
  · split at hs1
    · simp only [Option.map_eq_some_iff] at hs1
      obtain ⟨v, hv, he⟩ := hs1
      cases he
      simp only [mm_res] at hres
      split at hres <;> simp only [Bool.and_eq_true, Bool.or_eq_true, decide_eq_true_eq, Bool.false_eq_true] at hres
      rename_i q hq
      obtain ⟨⟨rfl, hk⟩, hw | hw⟩ := hres
      · exact mr_get hx hb (mm_uws hq hTb) (fun _ z => z) hown hK hq hk (mm_wq_before hw hTb) hv hdc k
      · exact mr_getN hx hb (mm_uws hq hTb) (fun _ z => z) hown hK hq hk (mm_wq_before hw hTb) hv hdc k
    · cases hs1
  · split at hs1
    · rename_i ci fk _ v a r
      have key : ∃ h2, mm_put h a ci fk v = some h2 ∧ (L, r, h2) = (L', st', h') ∧ ∀ rho : List Nat, narrow ((mm_K ci).getD fk .int) (mm_v rho zt v) = mm_v rho zt v ∧ fits ((mm_K ci).getD fk .int) (mm_v rho zt v) = true := by
        split at hs1
        · rename_i hty
          simp only [Option.map_eq_some_iff] at hs1
          obtain ⟨h2, g1, g2⟩ := hs1
          exact ⟨h2, g1, g2, fun rho => by simp only [List.getD_eq_getElem?_getD, hty]; exact ⟨rfl, rfl⟩⟩
        · rename_i hty
          split at hs1
          · rename_i h01
            simp only [Option.map_eq_some_iff] at hs1
            obtain ⟨h2, g1, g2⟩ := hs1
            refine ⟨h2, g1, g2, fun rho => ?_⟩
            simp only [List.getD_eq_getElem?_getD, hty]
            rcases h01 with rfl | rfl <;> exact ⟨rfl, rfl⟩
          · cases hs1
        · rename_i y _ hty
          simp only [Option.map_eq_some_iff] at hs1
          obtain ⟨h2, g1, g2⟩ := hs1
          refine ⟨h2, g1, g2, fun rho => ?_⟩
          simp only [List.getD_eq_getElem?_getD, hty]
          cases y <;> exact ⟨rfl, rfl⟩
        · rename_i y _ hty
          simp only [Option.map_eq_some_iff] at hs1
          obtain ⟨h2, g1, g2⟩ := hs1
          refine ⟨h2, g1, g2, fun rho => ?_⟩
          simp only [List.getD_eq_getElem?_getD, hty]
          cases y <;> exact ⟨rfl, rfl⟩
        · cases hs1
      obtain ⟨h2, hv, he, hn⟩ := key
      cases he
      simp only [mm_res] at hres
      split at hres <;> simp only [Bool.and_eq_true, Bool.or_eq_true, decide_eq_true_eq, Bool.false_eq_true] at hres
      rename_i q hq
      obtain ⟨o1, o2, o3, o4, o5⟩ := mm_cls_ok hq
      obtain ⟨⟨rfl, hk⟩, ⟨hw, hfin | ⟨⟨hfin, hin⟩, hdecl⟩⟩ | ⟨hw, hfin⟩⟩ := hres
      · exact mr_put hx hb (mm_uws hq hTb) (fun _ z => z) (fun j => (mm_K ci).getD j .int) o2 o3 hown hK hq hk (mm_wq_before hw hTb) hfin hn hv hdc k
      · exact mr_putF hx hb (mm_uws hq hTb) (fun _ z => z) (fun j => (mm_K ci).getD j .int) o2 o3 hown hK hq hk (mm_wq_before hw hTb) hfin (by rw [hnm]; exact hin) hdecl hn hv hdc k
      · exact mr_putN hx hb (mm_uws hq hTb) (fun _ z => z) (fun j => (mm_K ci).getD j .int) o2 o3 hown hK hq hk (mm_wq_before hw hTb) hfin hn hv hdc k
    · cases hs1
  · simp only [Option.map_eq_some_iff] at hs1
    obtain ⟨h2, hv, he⟩ := hs1
    cases he
    simp only [mm_res] at hres
    split at hres <;> simp only [Bool.and_eq_true, Bool.or_eq_true, decide_eq_true_eq, Bool.false_eq_true] at hres
    rename_i q hq
    obtain ⟨o1, o2, o3, o4, o5⟩ := mm_cls_ok hq
    obtain ⟨⟨⟨⟨rfl, w1⟩, w2⟩, w3⟩, w4⟩ := hres
    rw [o4] at hv
    exact mr_new hx hb (mm_uws hq hTb) (fun _ z => z) (fun j => (mm_K _).getD j .int) o2 hown (mm_wq_before w1 hTb) (mm_wq_before w2 hTb) (mm_wq_before w3 hTb) hK hA hq (fs := mm_fresh (mm_K _)) (fun rho j hj => mm_fresh_at o4 (fun j hj => List.all_eq_true.mp w4 j (List.mem_range.mpr hj)) rho zt j hj) (mm_fresh0 _) hv hdc k
  · split at hs1
    · split at hs1
      · cases hs1
      · rename_i hneg
        simp only [Option.map_eq_some_iff] at hs1
        obtain ⟨h2, hv, he⟩ := hs1
        cases he
        simp only [mm_res] at hres
        simp only [Bool.and_eq_true, Bool.or_eq_true, decide_eq_true_eq, Bool.false_eq_true] at hres
        obtain ⟨⟨rfl, rfl⟩, w1⟩ := hres
        exact mr_newa_int hx hb (mm_wq_before w1 hTb) hK hA (fun z => hneg (Or.inl z)) rfl (by
          have := Nat.not_lt.mp fun z => hneg (Or.inr z)
          omega) hv hdc k
    · cases hs1
  · split at hs1
    · split at hs1
      · cases hs1
      · rename_i hneg
        simp only [Option.map_eq_some_iff] at hs1
        obtain ⟨h2, hv, he⟩ := hs1
        cases he
        simp only [mm_res] at hres
        simp only [Bool.and_eq_true, Bool.or_eq_true, decide_eq_true_eq, Bool.false_eq_true] at hres
        obtain ⟨⟨rfl, rfl⟩, w1⟩ := hres
        exact mr_newa_byte hx hb (mm_wq_before w1 hTb) hK hA (fun z => hneg (Or.inl z)) rfl (by
          have := Nat.not_lt.mp fun z => hneg (Or.inr z)
          omega) hv hdc k
    · cases hs1
  · split at hs1
    · split at hs1
      · cases hs1
      · rename_i hneg
        simp only [Option.map_eq_some_iff] at hs1
        obtain ⟨h2, hv, he⟩ := hs1
        cases he
        simp only [mm_res] at hres
        simp only [Bool.and_eq_true, Bool.or_eq_true, decide_eq_true_eq, Bool.false_eq_true] at hres
        obtain ⟨⟨rfl, rfl⟩, w1⟩ := hres
        exact mr_newa_char hx hb (mm_wq_before w1 hTb) hK hA (fun z => hneg (Or.inl z)) rfl (by
          have := Nat.not_lt.mp fun z => hneg (Or.inr z)
          omega) hv hdc k
    · cases hs1
  · split at hs1
    · split at hs1
      · cases hs1
      · rename_i hneg
        simp only [Option.map_eq_some_iff] at hs1
        obtain ⟨h2, hv, he⟩ := hs1
        cases he
        simp only [mm_res] at hres
        simp only [Bool.and_eq_true, Bool.or_eq_true, decide_eq_true_eq, Bool.false_eq_true] at hres
        obtain ⟨⟨rfl, rfl⟩, w1⟩ := hres
        exact mr_newa_long hx hb (mm_wq_before w1 hTb) hK hA (fun z => hneg (Or.inl z)) rfl (by
          have := Nat.not_lt.mp fun z => hneg (Or.inr z)
          omega) hv hdc k
    · cases hs1
  · rename_i cq
    split at hs1
    · split at hs1
      · cases hs1
      · rename_i hneg
        simp only [Option.map_eq_some_iff] at hs1
        obtain ⟨h2, hv, he⟩ := hs1
        cases he
        simp only [mm_res] at hres
        split at hres <;> simp only [Bool.and_eq_true, Bool.or_eq_true, decide_eq_true_eq, Bool.false_eq_true] at hres
        obtain ⟨⟨rfl, hj⟩, w1⟩ := hres
        have hlim := Nat.not_lt.mp fun z => hneg (Or.inr z)
        obtain rfl | rfl : cq = 0 ∨ cq = 1 := by omega
        · exact mr_newq (C := "LispForge$Form") hx hb hown (mm_wq_before w1 hTb) (hTb.2.2.1 _ (by simp [mm_over])) hK (j := 0) rfl hA (fun z => hneg (Or.inl z)) rfl (by omega) hv hdc k
        · exact mr_newq (C := "LispForge$Unit") hx hb hown (mm_wq_before w1 hTb) (hTb.2.2.1 _ (by simp [mm_over])) hK (j := 1) rfl hA (fun z => hneg (Or.inl z)) rfl (by omega) hv hdc k
    · cases hs1
  · simp only [mm_res] at hres
    simp only [Bool.and_eq_true, Bool.or_eq_true, decide_eq_true_eq, Bool.false_eq_true] at hres
    obtain ⟨rfl, rfl⟩ := hres
    split at hs1
    · simp only [Option.map_eq_some_iff] at hs1
      obtain ⟨n, hv, he⟩ := hs1
      cases he
      exact mr_alen hx hb hK hv hdc k
    · split at hs1
      · rename_i hj
        cases hs1
        exact mr_zlen hx hb (hTb.2.2.2.2.1 _ hj) hdc k
      · cases hs1
    · cases hs1
  · simp only [mm_res] at hres
    simp only [Bool.and_eq_true, Bool.or_eq_true, decide_eq_true_eq, Bool.false_eq_true] at hres
    obtain ⟨rfl, rfl⟩ := hres
    split at hs1
    · simp only [Option.map_eq_some_iff] at hs1
      obtain ⟨x, hv, he⟩ := hs1
      cases he
      exact mr_iald hx hb hK hv hdc k
    · split at hs1
      · rename_i hj
        simp only [Option.map_eq_some_iff] at hs1
        obtain ⟨x, hv, he⟩ := hs1
        cases he
        exact mr_zald hx hb (hTb.2.2.2.2.1 _ hj) hv hdc k
      · cases hs1
    · cases hs1
  · simp only [mm_res] at hres
    simp only [Bool.and_eq_true, Bool.or_eq_true, decide_eq_true_eq, Bool.false_eq_true] at hres
    obtain ⟨rfl, rfl⟩ := hres
    split at hs1
    · simp only [Option.map_eq_some_iff] at hs1
      obtain ⟨x, hv, he⟩ := hs1
      cases he
      exact mr_iast hx hb hK hv hdc k
    · cases hs1
  · simp only [mm_res] at hres
    simp only [Bool.and_eq_true, Bool.or_eq_true, decide_eq_true_eq, Bool.false_eq_true] at hres
    obtain ⟨rfl, rfl⟩ := hres
    split at hs1
    · simp only [Option.map_eq_some_iff] at hs1
      obtain ⟨x, hv, he⟩ := hs1
      cases he
      exact mr_bald hx hb hK hv hdc k
    · cases hs1
  · simp only [mm_res] at hres
    simp only [Bool.and_eq_true, Bool.or_eq_true, decide_eq_true_eq, Bool.false_eq_true] at hres
    obtain ⟨rfl, rfl⟩ := hres
    split at hs1
    · simp only [Option.map_eq_some_iff] at hs1
      obtain ⟨x, hv, he⟩ := hs1
      cases he
      exact mr_cald hx hb hK hv hdc k
    · cases hs1
  · simp only [mm_res] at hres
    simp only [Bool.and_eq_true, Bool.or_eq_true, decide_eq_true_eq, Bool.false_eq_true] at hres
    obtain ⟨rfl, rfl⟩ := hres
    split at hs1
    · simp only [Option.map_eq_some_iff] at hs1
      obtain ⟨x, hv, he⟩ := hs1
      cases he
      exact mr_bast hx hb hK hv hdc k
    · cases hs1
  · simp only [mm_res] at hres
    simp only [Bool.and_eq_true, Bool.or_eq_true, decide_eq_true_eq, Bool.false_eq_true] at hres
    obtain ⟨rfl, rfl⟩ := hres
    split at hs1
    · simp only [Option.map_eq_some_iff] at hs1
      obtain ⟨x, hv, he⟩ := hs1
      cases he
      exact mr_cast hx hb hK hv hdc k
    · cases hs1
  · simp only [mm_res] at hres
    simp only [Bool.and_eq_true, Bool.or_eq_true, decide_eq_true_eq, Bool.false_eq_true] at hres
    obtain ⟨rfl, rfl⟩ := hres
    split at hs1
    · simp only [Option.map_eq_some_iff] at hs1
      obtain ⟨x, hv, he⟩ := hs1
      cases he
      exact mr_lald hx hb hK hv hdc k
    · cases hs1
  · simp only [mm_res] at hres
    simp only [Bool.and_eq_true, Bool.or_eq_true, decide_eq_true_eq, Bool.false_eq_true] at hres
    obtain ⟨rfl, rfl⟩ := hres
    split at hs1
    · simp only [Option.map_eq_some_iff] at hs1
      obtain ⟨x, hv, he⟩ := hs1
      cases he
      exact mr_last hx hb hK hv hdc k
    · cases hs1
  · simp only [mm_res] at hres
    simp only [Bool.and_eq_true, Bool.or_eq_true, decide_eq_true_eq, Bool.false_eq_true] at hres
    obtain ⟨rfl, rfl⟩ := hres
    split at hs1
    · simp only [Option.map_eq_some_iff] at hs1
      obtain ⟨x, hv, he⟩ := hs1
      cases he
      exact mr_aald hx hb hK hv hdc k
    · cases hs1
  · simp only [mm_res] at hres
    simp only [Bool.and_eq_true, Bool.or_eq_true, decide_eq_true_eq, Bool.false_eq_true] at hres
    obtain ⟨rfl, rfl⟩ := hres
    split at hs1
    · simp only [Option.map_eq_some_iff] at hs1
      obtain ⟨x, hv, he⟩ := hs1
      cases he
      exact mr_aast hx hb hK hv hdc k
    · cases hs1
  · simp only [mm_res] at hres
    simp only [Bool.and_eq_true, Bool.or_eq_true, decide_eq_true_eq, Bool.false_eq_true] at hres
    obtain ⟨rfl, rfl⟩ := hres
    split at hs1
    · cases hs1; exact mr_pop hx hb (fun x z => by cases z) hdc k
    · cases hs1; exact mr_pop hx hb (fun x z => by cases z) hdc k
    · cases hs1
  · simp only [mm_res] at hres
    simp only [Bool.and_eq_true, Bool.or_eq_true, decide_eq_true_eq, Bool.false_eq_true] at hres
    obtain ⟨rfl, rfl⟩ := hres
    split at hs1
    · cases hs1; exact mr_dup hx hb (fun x z => by cases z) hdc k
    · cases hs1; exact mr_dup hx hb (fun x z => by cases z) hdc k
    · cases hs1
  · simp only [mm_res] at hres
    simp only [Bool.and_eq_true, Bool.or_eq_true, decide_eq_true_eq, Bool.false_eq_true] at hres
    obtain ⟨rfl, rfl⟩ := hres
    split at hs1
    · cases hs1; exact mr_iadd hx hb hdc k
    · cases hs1
  · simp only [mm_res] at hres
    simp only [Bool.and_eq_true, Bool.or_eq_true, decide_eq_true_eq, Bool.false_eq_true] at hres
    obtain ⟨rfl, rfl⟩ := hres
    split at hs1
    · cases hs1; exact mr_isub hx hb hdc k
    · cases hs1
  · simp only [mm_res] at hres
    simp only [Bool.and_eq_true, Bool.or_eq_true, decide_eq_true_eq, Bool.false_eq_true] at hres
    obtain ⟨rfl, rfl⟩ := hres
    split at hs1
    · cases hs1; exact mr_imul hx hb hdc k
    · cases hs1
  · simp only [mm_res] at hres
    simp only [Bool.and_eq_true, Bool.or_eq_true, decide_eq_true_eq, Bool.false_eq_true] at hres
    obtain ⟨rfl, rfl⟩ := hres
    split at hs1
    · cases hs1; exact mr_iand hx hb hdc k
    · cases hs1
  · simp only [mm_res] at hres
    simp only [Bool.and_eq_true, Bool.or_eq_true, decide_eq_true_eq, Bool.false_eq_true] at hres
    obtain ⟨rfl, rfl⟩ := hres
    split at hs1
    · cases hs1; exact mr_ior hx hb hdc k
    · cases hs1
  · simp only [mm_res] at hres
    simp only [Bool.and_eq_true, Bool.or_eq_true, decide_eq_true_eq, Bool.false_eq_true] at hres
    obtain ⟨rfl, rfl⟩ := hres
    split at hs1
    · cases hs1; exact mr_ishl hx hb hdc k
    · cases hs1
  · simp only [mm_res] at hres
    simp only [Bool.and_eq_true, Bool.or_eq_true, decide_eq_true_eq, Bool.false_eq_true] at hres
    obtain ⟨rfl, rfl⟩ := hres
    split at hs1
    · cases hs1; exact mr_ishr hx hb hdc k
    · cases hs1
  · simp only [mm_res] at hres
    simp only [Bool.and_eq_true, Bool.or_eq_true, decide_eq_true_eq, Bool.false_eq_true] at hres
    obtain ⟨rfl, rfl⟩ := hres
    split at hs1
    · cases hs1; exact mr_ineg hx hb hdc k
    · cases hs1
  · simp only [mm_res] at hres
    simp only [Bool.and_eq_true, Bool.or_eq_true, decide_eq_true_eq, Bool.false_eq_true] at hres
    obtain ⟨rfl, rfl⟩ := hres
    split at hs1
    · cases hs1; exact mr_i2s hx hb hdc k
    · cases hs1
  · simp only [mm_res] at hres
    simp only [Bool.and_eq_true, Bool.or_eq_true, decide_eq_true_eq, Bool.false_eq_true] at hres
    obtain ⟨rfl, rfl⟩ := hres
    split at hs1
    · cases hs1; exact mr_i2b hx hb hdc k
    · cases hs1
  · simp only [mm_res] at hres
    simp only [Bool.and_eq_true, Bool.or_eq_true, decide_eq_true_eq, Bool.false_eq_true] at hres
    obtain ⟨rfl, rfl⟩ := hres
    split at hs1
    · cases hs1; exact mr_i2c hx hb hdc k
    · cases hs1
  · simp only [mm_res] at hres
    simp only [Bool.and_eq_true, Bool.or_eq_true, decide_eq_true_eq, Bool.false_eq_true] at hres
    obtain ⟨rfl, rfl⟩ := hres
    split at hs1
    · cases hs1; exact mr_i2l hx hb hdc k
    · cases hs1
  · simp only [mm_res] at hres
    simp only [Bool.and_eq_true, Bool.or_eq_true, decide_eq_true_eq, Bool.false_eq_true] at hres
    obtain ⟨rfl, rfl⟩ := hres
    split at hs1
    · cases hs1; exact mr_l2i hx hb hdc k
    · cases hs1
  · simp only [mm_res] at hres
    simp only [Bool.and_eq_true, Bool.or_eq_true, decide_eq_true_eq, Bool.false_eq_true] at hres
    obtain ⟨rfl, rfl⟩ := hres
    split at hs1
    · cases hs1; exact mr_lushr hx hb hdc k
    · cases hs1
  · simp only [mm_res] at hres
    simp only [Bool.and_eq_true, Bool.or_eq_true, decide_eq_true_eq, Bool.false_eq_true] at hres
    obtain ⟨rfl, rfl⟩ := hres
    split at hs1
    · cases hs1; exact mr_lshl hx hb hdc k
    · cases hs1
  · simp only [mm_res] at hres
    simp only [Bool.and_eq_true, Bool.or_eq_true, decide_eq_true_eq, Bool.false_eq_true] at hres
    obtain ⟨rfl, rfl⟩ := hres
    split at hs1
    · cases hs1; exact mr_land hx hb hdc k
    · cases hs1
  · simp only [mm_res] at hres
    simp only [Bool.and_eq_true, Bool.or_eq_true, decide_eq_true_eq, Bool.false_eq_true] at hres
    obtain ⟨rfl, rfl⟩ := hres
    split at hs1
    · cases hs1; exact mr_lor hx hb hdc k
    · cases hs1
  · simp only [mm_res] at hres
    simp only [Bool.and_eq_true, Bool.or_eq_true, decide_eq_true_eq, Bool.false_eq_true] at hres
    obtain ⟨rfl, rfl⟩ := hres
    split at hs1
    · cases hs1; exact mr_lcmp hx hb hdc k
    · cases hs1
  · cases hs1
    simp only [mm_res] at hres
    split at hres <;> simp only [Bool.and_eq_true, Bool.or_eq_true, decide_eq_true_eq, Bool.false_eq_true] at hres
    obtain ⟨rfl, hv⟩ := hres
    exact mr_ldc2 hx hb hown (mm_wq_before hv hTb) hdc k
  · cases hs1
end
section
theorem mm_sw_off {F : Nat → Prop} {pc d : Nat} {d0 : Int} {x : Int32} (hd : (pc : Int) + d0 = (d : Int)) : ∀ qs : List (Int × Int), (∀ q ∈ qs, 0 ≤ (pc : Int) + q.2 ∧ -2147483648 ≤ q.1 ∧ q.1 ≤ 2147483647) → mm_sw F d x (qs.map fun q => (q.1, (pc : Int) + q.2)) → ∃ tgt : Nat, (pc : Int) + Op.lookupswitch.offset qs d0 x.toInt = (tgt : Int) ∧ F tgt
  | [], _, h => ⟨d, hd, h⟩
  | (a, f) :: qs, hq, h => by
    obtain ⟨h1, h2, h3⟩ := hq (a, f) List.mem_cons_self
    have ht : (Int32.ofInt a).toInt = a := Int32.toInt_ofInt_of_le (by omega) (by omega)
    by_cases hx : x = Int32.ofInt a
    · have hF := h.1 hx
      refine ⟨((pc : Int) + f).toNat, ?_, hF⟩
      rw [Op.lookupswitch.offset_cons, if_pos (by rw [hx, ht])]
      exact (Int.toNat_of_nonneg h1).symm
    · rw [lv_osw hx ht]
      exact mm_sw_off hd qs (fun q z => hq q (List.mem_cons_of_mem _ z)) (h.2 hx)
theorem mm_sw_mem {F : Nat → Prop} {d : Nat} {x : Int32} : ∀ ps : List (Int × Int), mm_sw F d x ps → (∃ q ∈ ps, x = Int32.ofInt q.1 ∧ F q.2.toNat) ∨ ((∀ q ∈ ps, ¬ x = Int32.ofInt q.1) ∧ F d)
  | [], h => Or.inr ⟨fun _ z => absurd z List.not_mem_nil, h⟩
  | (a, f) :: ps, h => by
    by_cases hx : x = Int32.ofInt a
    · exact Or.inl ⟨(a, f), List.mem_cons_self, hx, h.1 hx⟩
    · rcases mm_sw_mem ps (h.2 hx) with ⟨q, h1, h2⟩ | ⟨h1, h2⟩
      · exact Or.inl ⟨q, List.mem_cons_of_mem _ h1, h2⟩
      · refine Or.inr ⟨fun q z => ?_, h2⟩
        rcases List.mem_cons.mp z with rfl | z
        · exact hx
        · exact h1 q z
section MSW
variable {Z : Nat → List Int32} {p : Program} {l : Launch} {e : Env} {R : Room} {s : State} {m : MethodId} {args : Array Value} {below : List Frame} {meth : Method} {c : Code} {Q : State → Prop} {D : va_G} {cT : Nat → ClassId} {zt : Nat → Nat} {A : Nat → Prop} {nL : Nat} {rho0 : List Nat} {cc : ByteArray} {pc : Nat} {L : mm_L} {r : List mm_V} {h : mm_H}
theorem mr_lookup (hx : p.tables.exec = Jvm.exec) (hb : c.code = cc) {d0 : Int} {qs : Array (Int × Int)} {len d : Nat} {x : Int32} (hd : decode cc pc = .ok (.lookupswitch d0 qs, len)) (hp : (qs.toList.zip (qs.toList.drop 1)).all (fun (a, next) => a.1 < next.1) = true) (h0 : (pc : Int) + d0 = (d : Int)) (hq : ∀ q ∈ qs.toList, 0 ≤ (pc : Int) + q.2 ∧ -2147483648 ≤ q.1 ∧ q.1 ≤ 2147483647) (k : mm_sw (fun t => mm_W p l e R s m args below meth c Q D cT zt A nL rho0 t L r h) d x (qs.toList.map fun q => (q.1, (pc : Int) + q.2))) : mm_W p l e R s m args below meth c Q D cT zt A nL rho0 pc L (vI x :: r) h := by
  intro rho H locs cells slots ls hpf hst hI
  obtain ⟨tgt, g1, g2⟩ := mm_sw_off h0 qs.toList hq k
  exact lv_lookup hx hb hd hp rfl g1 (g2 rho H locs cells slots ls hpf (mm_okt hst) hI)
theorem mr_table (hx : p.tables.exec = Jvm.exec) (hb : c.code = cc) {d0 lo hi : Int} {offs : Array Int} {len d : Nat} {x : Int32} (hd : decode cc pc = .ok (.tableswitch d0 lo hi offs, len)) (h0 : (pc : Int) + d0 = (d : Int)) (hsz : hi - lo + 1 = (offs.size : Int)) (ho : ∀ q ∈ offs.toList, 0 ≤ (pc : Int) + q) (hlo : -2147483648 ≤ lo ∧ hi ≤ 2147483647) (k : mm_sw (fun t => mm_W p l e R s m args below meth c Q D cT zt A nL rho0 t L r h) d x ((List.range offs.size).map fun (j : Nat) => (lo + (j : Int), (pc : Int) + offs.toList.getD j 0))) : mm_W p l e R s m args below meth c Q D cT zt A nL rho0 pc L (vI x :: r) h := by
  intro rho H locs cells slots ls hpf hst hI
  rcases mm_sw_mem _ k with ⟨q, h1, h2, h3⟩ | ⟨h1, h2⟩
  · obtain ⟨j, hj, rfl⟩ := List.mem_map.mp h1
    have hj := List.mem_range.mp hj
    have ht : x.toInt = lo + (j : Int) := by rw [h2]; exact Int32.toInt_ofInt_of_le (by omega) (by omega)
    have hg : offs.toList.getD j 0 = offs[j] := by
      rw [List.getD_eq_getElem?_getD, Array.getElem?_toList, Array.getElem?_eq_getElem hj]; rfl
    have hnn : 0 ≤ (pc : Int) + offs[j] := ho _ (by simp)
    refine lv_tableIn hx hb hd (by omega) (by omega) (off := offs[j]) (by rw [ht, show (lo + (j : Int) - lo).toNat = j by omega]; exact Array.getElem?_eq_getElem hj) (tgt := ((pc : Int) + offs[j]).toNat) (Int.toNat_of_nonneg hnn).symm ?_
    have h4 := h3 rho H locs cells slots ls hpf (mm_okt hst) hI
    rw [hg] at h4
    exact h4
  · refine lv_tableOut hx hb hd ?_ h0 (h2 rho H locs cells slots ls hpf (mm_okt hst) hI)
    by_cases a1 : x.toInt < lo
    · exact Or.inl a1
    · by_cases a2 : hi < x.toInt
      · exact Or.inr a2
      · exfalso
        have hj : (x.toInt - lo).toNat < offs.size := by omega
        refine h1 (lo + ((x.toInt - lo).toNat : Int), (pc : Int) + offs.toList.getD (x.toInt - lo).toNat 0) (List.mem_map.mpr ⟨_, List.mem_range.mpr hj, rfl⟩) ?_
        rw [show lo + ((x.toInt - lo).toNat : Int) = x.toInt by omega, Int32.ofInt_toInt]
theorem mr_max (hx : p.tables.exec = Jvm.exec) (hb : c.code = cc) (hml : c.maxLocals = nL) {own : String} {idx : Nat} (hown : s.vm.findClass own = some m.cls) (hl : (Jvm.Cond.methodLink own idx Lib.Math.max.name).before args s = true) (hst : (Jvm.Cond.static Lib.Math.max.name).before args s = true) (hini : (Jvm.Cond.initialized "java/lang/Math").before args s = true) (hcode : (Jvm.Cond.code Lib.Math.max.name Lib.Math.max.code 2 (some .int)).before args s = true) (hfr : 1 ≤ R.frames) (hlo : 64 ≤ R.locals) (hlen : r.length ≤ 12) {x y : Int32} (hd : decode cc pc = .ok (.invokestatic idx, 3)) (k : mm_W p l e R s m args below meth c Q D cT zt A nL rho0 (pc + 3) L (vI (if x < y then y else x) :: r) h) : mm_W p l e R s m args below meth c Q D cT zt A nL rho0 pc L (vI y :: vI x :: r) h := by
  intro rho H locs cells slots ls hpf hst2 hI
  have hcat := mm_catSum (r.map (mm_v rho zt))
  rw [List.length_map] at hcat
  have q1 := hI.2.2.2.2.2.2.2.1
  have q2 := hI.2.2.2.2.2.2.2.2
  exact va_mmax hx hb (by rw [hml]; exact hI.2.2.2.2.2.2.1.2.1.symm) hown hl hst hini hcode hfr (by omega) (by omega) (by omega) hd (k rho H locs cells slots ls hpf (mm_okc trivial (mm_okt (mm_okt hst2))) hI)
theorem mr_min (hx : p.tables.exec = Jvm.exec) (hb : c.code = cc) (hml : c.maxLocals = nL) {own : String} {idx : Nat} (hown : s.vm.findClass own = some m.cls) (hl : (Jvm.Cond.methodLink own idx Lib.Math.min.name).before args s = true) (hst : (Jvm.Cond.static Lib.Math.min.name).before args s = true) (hini : (Jvm.Cond.initialized "java/lang/Math").before args s = true) (hcode : (Jvm.Cond.code Lib.Math.min.name Lib.Math.min.code 2 (some .int)).before args s = true) (hfr : 1 ≤ R.frames) (hlo : 64 ≤ R.locals) (hlen : r.length ≤ 12) {x y : Int32} (hd : decode cc pc = .ok (.invokestatic idx, 3)) (k : mm_W p l e R s m args below meth c Q D cT zt A nL rho0 (pc + 3) L (vI (if y < x then y else x) :: r) h) : mm_W p l e R s m args below meth c Q D cT zt A nL rho0 pc L (vI y :: vI x :: r) h := by
  intro rho H locs cells slots ls hpf hst2 hI
  have hcat := mm_catSum (r.map (mm_v rho zt))
  rw [List.length_map] at hcat
  have q1 := hI.2.2.2.2.2.2.2.1
  have q2 := hI.2.2.2.2.2.2.2.2
  exact va_mmin hx hb (by rw [hml]; exact hI.2.2.2.2.2.2.1.2.1.symm) hown hl hst hini hcode hfr (by omega) (by omega) (by omega) hd (k rho H locs cells slots ls hpf (mm_okc trivial (mm_okt (mm_okt hst2))) hI)
theorem mr_icmp (hx : p.tables.exec = Jvm.exec) (hb : c.code = cc) {cd : Jvm.ClassFile.Cond} {x y : Int32} {off : Int} {tgt : Nat} (hd : decode cc pc = .ok (.if_icmp cd off, 3)) (ht : (pc : Int) + off = (tgt : Int)) (k1 : mm_cmp cd x y → mm_W p l e R s m args below meth c Q D cT zt A nL rho0 tgt L r h) (k2 : ¬ mm_cmp cd x y → mm_W p l e R s m args below meth c Q D cT zt A nL rho0 (pc + 3) L r h) : mm_W p l e R s m args below meth c Q D cT zt A nL rho0 pc L (vI y :: vI x :: r) h := by
  cases cd
  · exact mr_icmp_eq hx hb hd ht k1 k2
  · exact mr_icmp_ne hx hb hd ht k1 k2
  · exact mr_icmp_lt hx hb hd ht k1 k2
  · exact mr_icmp_ge hx hb hd ht k1 k2
  · exact mr_icmp_gt hx hb hd ht k1 k2
  · exact mr_icmp_le hx hb hd ht k1 k2
theorem mr_if (hx : p.tables.exec = Jvm.exec) (hb : c.code = cc) {cd : Jvm.ClassFile.Cond} {x : Int32} {off : Int} {tgt : Nat} (hd : decode cc pc = .ok (.ifCond cd off, 3)) (ht : (pc : Int) + off = (tgt : Int)) (k1 : mm_cmp cd x 0 → mm_W p l e R s m args below meth c Q D cT zt A nL rho0 tgt L r h) (k2 : ¬ mm_cmp cd x 0 → mm_W p l e R s m args below meth c Q D cT zt A nL rho0 (pc + 3) L r h) : mm_W p l e R s m args below meth c Q D cT zt A nL rho0 pc L (vI x :: r) h := by
  cases cd
  · exact mr_if_eq hx hb hd ht k1 k2
  · exact mr_if_ne hx hb hd ht k1 k2
  · exact mr_if_lt hx hb hd ht k1 k2
  · exact mr_if_ge hx hb hd ht k1 k2
  · exact mr_if_gt hx hb hd ht k1 k2
  · exact mr_if_le hx hb hd ht k1 k2
end MSW
theorem mm_sw_mono {F G : Nat → Prop} {d : Nat} {x : Int32} (hFG : ∀ t, F t → G t) : ∀ {ps : List (Int × Int)}, mm_sw F d x ps → mm_sw G d x ps
  | [], h => hFG _ h
  | (_, _) :: _, h => ⟨fun z => hFG _ (h.1 z), fun z => mm_sw_mono hFG (h.2 z)⟩
/-- what a call asks of the room -/
def mm_C (Z : Nat → List Int32) (d m : Nat) (vs : List mm_V) (h : mm_H) (P : mm_A → mm_H → Prop) : Prop := match d with
  | 0 => False
  | d + 1 => mm_G Z d m vs h P
theorem mm_take_rev (st : List mm_V) (n : Nat) : (st.take n).reverse.reverse ++ st.drop n = st := by rw [List.reverse_reverse, List.take_append_drop]
set_option maxHeartbeats 4000000 in
/-- A STRETCH of steps -/
theorem mm_sound {Z : Nat → List Int32} {d mi : Nat} {Post : mm_A → mm_H → Prop} (hd6 : 6 ≤ d) : ∀ (is : List Instr) (pc : Nat) (hs : List (List Nat)) (L : mm_L) (st : List mm_V) (h : mm_H), (mm_hd mi = [] ∨ is.all mm_nc = true) → mm_chk mi pc is hs = true → mm_wp mm_K Z mm_na 6 mm_ci (fun t L st h => mm_P Z d mi t L st h Post) (mm_C Z d) Post is L st h → mm_P Z d mi pc L st h Post := by
  intro is
  induction is with
  | nil => intro pc hs L st h _ _ hw; exact hw.elim
  | cons i is ih =>
    intro pc hs L st h hh hc hw p l e R s m args below meth c D cT zt A rho0 hF
    obtain ⟨hx, htr, hb, hr, hml, hown, hnm, hlk, hex, hd1, hd2, hA, hTb⟩ := id hF
    replace ih := fun (pc : Nat) (hs : List (List Nat)) (L : mm_L) (st : List mm_V) (h : mm_H) => ih pc hs L st h (hh.imp id (fun z => by simp only [List.all_cons, Bool.and_eq_true] at z; exact z.2))
    have hnc : mm_nc i = false → mm_hd mi = [] := fun z => hh.resolve_right (by simp only [List.all_cons, Bool.and_eq_true]; intro y; rw [z] at y; exact absurd y.1 (by decide))
    have dec : ∀ j : Instr, i = j → (∀ t, j ≠ .goto_w t) → (∀ t, j ≠ .checkcast t) → ∃ o len, decode (mm_cd mi) pc = .ok (o, len) ∧ mm_res mi pc o len j (hs.headD []) = true ∧ (mm_last1 j = true ∨ mm_chk mi (pc + len) is hs.tail = true) := by
      intro j hj n1 n2
      subst hj
      unfold mm_chk at hc
      split at hc
      · exact absurd rfl (n1 _)
      · exact absurd rfl (n2 _)
      · split at hc
        · rename_i o len hdc
          simp only [Bool.and_eq_true, Bool.or_eq_true] at hc
          exact ⟨o, len, hdc, hc.1, hc.2⟩
        · cases hc
    unfold mm_wp at hw
    split at hw
    · obtain ⟨o, len, hdc, hres, -⟩ := dec _ rfl (fun _ => by simp) (fun _ => by simp)
      simp only [mm_res] at hres
      split at hres <;> simp only [Bool.and_eq_true, Bool.or_eq_true, decide_eq_true_eq, Bool.false_eq_true] at hres
      obtain ⟨rfl, ht⟩ := hres
      exact mr_goto hx hb hdc ht (hw p l e R s m args below meth c D cT zt A rho0 hF)
    · have hpc := hc
      simp only [mm_chk, decide_eq_true_eq] at hpc
      subst hpc
      exact hw p l e R s m args below meth c D cT zt A rho0 hF
    · obtain ⟨o, len, hdc, hres, hch⟩ := dec _ rfl (fun _ => by simp) (fun _ => by simp)
      have hch2 := hch.resolve_left (by simp [mm_last1])
      split at hw
      · simp only [mm_res] at hres
        split at hres <;> simp only [Bool.and_eq_true, Bool.or_eq_true, decide_eq_true_eq, Bool.false_eq_true] at hres
        obtain ⟨⟨rfl, rfl⟩, ht⟩ := hres
        exact mr_icmp hx hb hdc ht (fun z => hw.1 z p l e R s m args below meth c D cT zt A rho0 hF) (fun z => ih _ _ _ _ _ hch2 (hw.2 z) p l e R s m args below meth c D cT zt A rho0 hF)
      · exact hw.elim
    · obtain ⟨o, len, hdc, hres, hch⟩ := dec _ rfl (fun _ => by simp) (fun _ => by simp)
      have hch2 := hch.resolve_left (by simp [mm_last1])
      split at hw
      · simp only [mm_res] at hres
        split at hres <;> simp only [Bool.and_eq_true, Bool.or_eq_true, decide_eq_true_eq, Bool.false_eq_true] at hres
        obtain ⟨⟨rfl, rfl⟩, ht⟩ := hres
        exact mr_if hx hb hdc ht (fun z => hw.1 z p l e R s m args below meth c D cT zt A rho0 hF) (fun z => ih _ _ _ _ _ hch2 (hw.2 z) p l e R s m args below meth c D cT zt A rho0 hF)
      · exact hw.elim
    · obtain ⟨o, len, hdc, hres, hch⟩ := dec _ rfl (fun _ => by simp) (fun _ => by simp)
      have hch2 := hch.resolve_left (by simp [mm_last1])
      split at hw
      · simp only [mm_res] at hres
        split at hres <;> simp only [Bool.and_eq_true, Bool.or_eq_true, decide_eq_true_eq, Bool.false_eq_true] at hres
        obtain ⟨rfl, ht⟩ := hres
        exact mr_ifnull hx hb hdc ht (fun z => hw.1 z p l e R s m args below meth c D cT zt A rho0 hF) (fun z => ih _ _ _ _ _ hch2 (hw.2 z) p l e R s m args below meth c D cT zt A rho0 hF)
      · exact hw.elim
    · obtain ⟨o, len, hdc, hres, hch⟩ := dec _ rfl (fun _ => by simp) (fun _ => by simp)
      have hch2 := hch.resolve_left (by simp [mm_last1])
      split at hw
      · simp only [mm_res] at hres
        split at hres <;> simp only [Bool.and_eq_true, Bool.or_eq_true, decide_eq_true_eq, Bool.false_eq_true] at hres
        obtain ⟨rfl, ht⟩ := hres
        exact mr_ifnonnull hx hb hdc ht (fun z => hw.1 z p l e R s m args below meth c D cT zt A rho0 hF) (fun z => ih _ _ _ _ _ hch2 (hw.2 z) p l e R s m args below meth c D cT zt A rho0 hF)
      · exact hw.elim
    · obtain ⟨o, len, hdc, hres, hch⟩ := dec _ rfl (fun _ => by simp) (fun _ => by simp)
      have hch2 := hch.resolve_left (by simp [mm_last1])
      split at hw
      · simp only [mm_res] at hres
        split at hres <;> simp only [Bool.and_eq_true, Bool.or_eq_true, decide_eq_true_eq, Bool.false_eq_true] at hres
        obtain ⟨⟨rfl, rfl⟩, ht⟩ := hres
        exact mr_acmp_eq hx hb hdc ht (fun z => hw.1 z p l e R s m args below meth c D cT zt A rho0 hF) (fun z => ih _ _ _ _ _ hch2 (hw.2 z) p l e R s m args below meth c D cT zt A rho0 hF)
      · exact hw.elim
    · obtain ⟨o, len, hdc, hres, hch⟩ := dec _ rfl (fun _ => by simp) (fun _ => by simp)
      have hch2 := hch.resolve_left (by simp [mm_last1])
      split at hw
      · simp only [mm_res] at hres
        split at hres <;> simp only [Bool.and_eq_true, Bool.or_eq_true, decide_eq_true_eq, Bool.false_eq_true] at hres
        obtain ⟨⟨rfl, rfl⟩, ht⟩ := hres
        exact mr_acmp_ne hx hb hdc ht (fun z => hw.1 z p l e R s m args below meth c D cT zt A rho0 hF) (fun z => ih _ _ _ _ _ hch2 (hw.2 z) p l e R s m args below meth c D cT zt A rho0 hF)
      · exact hw.elim
    · obtain ⟨o, len, hdc, hres, hch⟩ := dec _ rfl (fun _ => by simp) (fun _ => by simp)
      split at hw
      · simp only [mm_res] at hres
        split at hres <;> simp only [Bool.and_eq_true, Bool.or_eq_true, decide_eq_true_eq, Bool.false_eq_true] at hres
        · obtain ⟨⟨⟨h0, hpq⟩, hps⟩, hq⟩ := hres
          rw [hps] at hw
          refine mr_lookup hx hb hdc hpq h0 (fun q z => by simpa only [decide_eq_true_eq] using List.all_eq_true.mp hq q z) (mm_sw_mono (fun t z => z p l e R s m args below meth c D cT zt A rho0 hF) hw)
        · obtain ⟨⟨⟨⟨h0, hps⟩, hsz⟩, hq⟩, hlo⟩ := hres
          rw [hps] at hw
          exact mr_table hx hb hdc h0 hsz (fun q z => by simpa only [decide_eq_true_eq] using List.all_eq_true.mp hq q z) hlo (mm_sw_mono (fun t z => z p l e R s m args below meth c D cT zt A rho0 hF) hw)
      · exact hw.elim
    · obtain ⟨o, len, hdc, hres, hch⟩ := dec _ rfl (fun _ => by simp) (fun _ => by simp)
      have hch2 := hch.resolve_left (by simp [mm_last1])
      obtain ⟨hn1, hn2, hG⟩ := hw
      obtain ⟨d, rfl⟩ : ∃ d', d = d' + 1 := ⟨d - 1, by omega⟩
      rename_i mx
      have hlen : (st.drop (mm_na mx)).length ≤ 12 := Nat.le_trans (by rw [List.length_drop]; omega) hn2
      have hvl : (st.take (mm_na mx)).reverse.length = mm_na mx := by rw [List.length_reverse, List.length_take]; omega
      rw [← mm_take_rev st (mm_na mx)]
      simp only [mm_res] at hres
      split at hres <;> simp only [Bool.and_eq_true, Bool.or_eq_true, decide_eq_true_eq, Bool.false_eq_true] at hres
      · obtain ⟨⟨⟨⟨⟨⟨⟨⟨rfl, hl⟩, w1⟩, w2⟩, w3⟩, w4⟩, w5⟩, w6⟩, whk⟩ := hres
        obtain ⟨c1, c2⟩ := mm_wq_of w3
        have hn : mm_pars mx = some (st.take (mm_na mx)).reverse.length := by rw [hvl]; exact w6
        rcases hl with hl | hl
        · exact mr_callS hF (mm_wq_before hl hTb) (mm_wq_before w1 hTb) (mm_wq_before w2 hTb) c1 c2 w4 w5 (hnc rfl) whk hn hlen hdc hG (fun st2 h2 hf => ih _ _ _ _ _ hch2 hf p l e R s m args below meth c D cT zt A rho0 hF)
        · exact mr_callSN hF (mm_wq_before hl hTb) (mm_wq_before w1 hTb) (mm_wq_before w2 hTb) c1 c2 w4 w5 (hnc rfl) whk hn hlen hdc hG (fun st2 h2 hf => ih _ _ _ _ _ hch2 hf p l e R s m args below meth c D cT zt A rho0 hF)
    · obtain ⟨o, len, hdc, hres, hch⟩ := dec _ rfl (fun _ => by simp) (fun _ => by simp)
      have hch2 := hch.resolve_left (by simp [mm_last1])
      obtain ⟨hn1, hn2, hG⟩ := hw
      obtain ⟨d, rfl⟩ : ∃ d', d = d' + 1 := ⟨d - 1, by omega⟩
      rename_i mx
      have hlen : (st.drop (mm_na mx)).length ≤ 12 := Nat.le_trans (by rw [List.length_drop]; omega) hn2
      have hvl : (st.take (mm_na mx)).reverse.length = mm_na mx := by rw [List.length_reverse, List.length_take]; omega
      rw [← mm_take_rev st (mm_na mx)]
      simp only [mm_res] at hres
      split at hres <;> simp only [Bool.and_eq_true, Bool.or_eq_true, decide_eq_true_eq, Bool.false_eq_true] at hres
      · obtain ⟨⟨⟨⟨⟨⟨⟨rfl, hl⟩, w1⟩, w2⟩, w3⟩, w4⟩, w5⟩, w6⟩ := hres
        obtain ⟨c1, c2⟩ := mm_wq_of w3
        have hn : mm_pars mx = some (st.take (mm_na mx)).reverse.length := by rw [hvl]; exact w6
        exact mr_callSW hF (mm_wq_before hl hTb) (mm_wq_before w1 hTb) (mm_wq_before w2 hTb) c1 c2 w4 w5 (hnc rfl) hn hlen hdc hG (fun st2 h2 hf => ih _ _ _ _ _ hch2 hf p l e R s m args below meth c D cT zt A rho0 hF)
    · obtain ⟨o, len, hdc, hres, hch⟩ := dec _ rfl (fun _ => by simp) (fun _ => by simp)
      have hch2 := hch.resolve_left (by simp [mm_last1])
      obtain ⟨hn1, hn2, hrc, hG⟩ := hw
      obtain ⟨d, rfl⟩ : ∃ d', d = d' + 1 := ⟨d - 1, by omega⟩
      rename_i mx
      have hlen : (st.drop (mm_na mx)).length ≤ 12 := Nat.le_trans (by rw [List.length_drop]; omega) hn2
      have hvl : (st.take (mm_na mx)).reverse.length = mm_na mx := by rw [List.length_reverse, List.length_take]; omega
      rw [← mm_take_rev st (mm_na mx)]
      generalize hvs : (st.take (mm_na mx)).reverse = vs at hrc hG hvl ⊢
      unfold mm_rcv at hrc
      split at hrc
      · rename_i a as
        obtain ⟨fs, ha⟩ := hrc
        simp only [mm_res] at hres
        split at hres <;> simp only [Bool.and_eq_true, Bool.or_eq_true, decide_eq_true_eq, Bool.false_eq_true] at hres
        · obtain ⟨⟨⟨⟨⟨⟨⟨⟨⟨rfl, hl⟩, w1⟩, w3⟩, w4⟩, w5⟩, w6⟩, w7⟩, w8⟩, whk⟩ := hres
          obtain ⟨c1, c2⟩ := mm_wq_of w3
          have hn : mm_pars mx = some as.length := by
            cases hq : mm_pars mx with
            | none => rw [hq] at w8; simp at w8
            | some n => rw [hq] at w8; simp only [Option.map_some, Option.some.injEq] at w8; rw [← hvl] at w8; simp at w8; rw [w8]
          rcases hl with hl | hl
          · exact mr_callI hF (mm_wq_before hl hTb) (mm_wq_before w1 hTb) c1 c2 w4 w5 (hnc rfl) whk w6 w7 hn hlen hdc hG (fun st2 h2 hf => ih _ _ _ _ _ hch2 hf p l e R s m args below meth c D cT zt A rho0 hF)
          · exact mr_callIN hF (mm_wq_before hl hTb) (mm_wq_before w1 hTb) c1 c2 w4 w5 (hnc rfl) whk w6 w7 hn hlen hdc hG (fun st2 h2 hf => ih _ _ _ _ _ hch2 hf p l e R s m args below meth c D cT zt A rho0 hF)
        · rename_i q hq
          obtain ⟨⟨⟨⟨⟨⟨⟨⟨rfl, w0⟩, w1⟩, w2⟩, w3⟩, w4⟩, w5⟩, w8⟩, whk⟩ := hres
          obtain ⟨c1, c2⟩ := mm_wq_of w3
          have hn : mm_pars mx = some as.length := by
            cases hq : mm_pars mx with
            | none => rw [hq] at w8; simp at w8
            | some n => rw [hq] at w8; simp only [Option.map_some, Option.some.injEq] at w8; rw [← hvl] at w8; simp at w8; rw [w8]
          exact mr_callV hF (mm_wq_before w0 hTb) (mm_wq_before w1 hTb) (mm_wq_before w2 hTb) c1 c2 w4 w5 (hnc rfl) whk hq ha hn hlen hdc hG (fun st2 h2 hf => ih _ _ _ _ _ hch2 hf p l e R s m args below meth c D cT zt A rho0 hF)
      · exact hrc.elim
    · obtain ⟨o, len, hdc, hres, hch⟩ := dec _ rfl (fun _ => by simp) (fun _ => by simp)
      have hch2 := hch.resolve_left (by simp [mm_last1])
      split at hw
      · simp only [mm_res] at hres
        split at hres <;> simp only [Bool.and_eq_true, Bool.or_eq_true, decide_eq_true_eq, Bool.false_eq_true] at hres
        obtain ⟨⟨⟨rfl, w0⟩, w1⟩, w2⟩ := hres
        exact mr_objInit hx hb hml hown (mm_wq_before w0 hTb) (mm_wq_before w1 hTb) (mm_wq_before w2 hTb) (by omega) (by omega) (by omega) hdc (ih _ _ _ _ _ hch2 hw.2 p l e R s m args below meth c D cT zt A rho0 hF)
      · exact hw.elim
    · obtain ⟨hn, b1, b2, hq⟩ := hw
      have hc2 := hc
      simp only [mm_chk, mm_chkT] at hc2
      split at hc2
      · rename_i i1 e1
        split at hc2
        · rename_i i2 e2
          split at hc2
          · rename_i i3 e3
            simp only [Bool.and_eq_true, decide_eq_true_eq] at hc2
            obtain ⟨⟨⟨⟨e4, e5⟩, w1⟩, w2⟩, w3⟩ := hc2
            obtain ⟨t1, t2, t3⟩ := mm_site_of w3
            obtain ⟨c1, c2⟩ := mm_wq_of w1
            split at w2
            · rename_i sa sb sc hsw
              simp only [Bool.and_eq_true, decide_eq_true_eq] at w2
              obtain ⟨rfl, rfl⟩ := w2
              exact mr_throw (hnc rfl) hF hd6 hn c1 c2 t2 rfl (List.mem_of_getElem? hsw) t1 t3 e1 e4 (n := 2) (Or.inl ⟨rfl, e2⟩) e3 e5 b1 b2 hq
            · cases w2
          · cases hc2
        · rename_i i2 e2
          split at hc2
          · rename_i i3 e3
            simp only [Bool.and_eq_true, decide_eq_true_eq] at hc2
            obtain ⟨⟨⟨⟨e4, e5⟩, w1⟩, w2⟩, w3⟩ := hc2
            obtain ⟨t1, t2, t3⟩ := mm_site_of w3
            obtain ⟨c1, c2⟩ := mm_wq_of w1
            split at w2
            · rename_i sa sb sc hsw
              simp only [Bool.and_eq_true, decide_eq_true_eq] at w2
              obtain ⟨rfl, rfl⟩ := w2
              exact mr_throw (hnc rfl) hF hd6 hn c1 c2 t2 rfl (List.mem_of_getElem? hsw) t1 t3 e1 e4 (n := 3) (Or.inr ⟨rfl, e2⟩) e3 e5 b1 b2 hq
            · cases w2
          · cases hc2
        · cases hc2
      · cases hc2
    · obtain ⟨o, len, hdc, hres, hch⟩ := dec _ rfl (fun _ => by simp) (fun _ => by simp)
      obtain ⟨rfl, hq⟩ := hw
      simp only [mm_res] at hres
      simp only [Bool.and_eq_true, Bool.or_eq_true, decide_eq_true_eq, Bool.false_eq_true] at hres
      obtain ⟨⟨rfl, rfl⟩, w1⟩ := hres
      exact mr_vret hx hb (by rw [hr]; exact w1) hlk hdc hq
    · obtain ⟨o, len, hdc, hres, hch⟩ := dec _ rfl (fun _ => by simp) (fun _ => by simp)
      split at hw
      · simp only [mm_res] at hres
        simp only [Bool.and_eq_true, Bool.or_eq_true, decide_eq_true_eq, Bool.false_eq_true] at hres
        obtain ⟨⟨rfl, rfl⟩, w1⟩ := hres
        exact mr_iret hx hb (hr.trans w1) rfl hlk hdc hw
      · exact hw.elim
    · obtain ⟨o, len, hdc, hres, hch⟩ := dec _ rfl (fun _ => by simp) (fun _ => by simp)
      split at hw
      · simp only [mm_res] at hres
        simp only [Bool.and_eq_true, Bool.or_eq_true, decide_eq_true_eq, Bool.false_eq_true] at hres
        obtain ⟨⟨rfl, rfl⟩, w1⟩ := hres
        obtain ⟨h01, hq⟩ := hw
        exact mr_iret hx hb (hr.trans w1) (by rcases h01 with rfl | rfl <;> rfl) hlk hdc hq
      · exact hw.elim
    · obtain ⟨o, len, hdc, hres, hch⟩ := dec _ rfl (fun _ => by simp) (fun _ => by simp)
      exact hw.elim
    · obtain ⟨o, len, hdc, hres, hch⟩ := dec _ rfl (fun _ => by simp) (fun _ => by simp)
      split at hw
      · simp only [mm_res] at hres
        simp only [Bool.and_eq_true, Bool.or_eq_true, decide_eq_true_eq, Bool.false_eq_true] at hres
        obtain ⟨⟨rfl, rfl⟩, w1⟩ := hres
        split at w1
        · rename_i nn hrt
          exact mr_aret hx hb (hr.trans hrt) (Or.inl ⟨_, rfl⟩) hlk hdc hw
        · rename_i nn hrt
          exact mr_aret hx hb (hr.trans hrt) (Or.inr ⟨_, rfl⟩) hlk hdc hw
        · cases w1
      · exact hw.elim
    · obtain ⟨o, len, hdc, hres, hch⟩ := dec _ rfl (fun _ => by simp) (fun _ => by simp)
      have hch2 := hch.resolve_left (by simp [mm_last1])
      split at hw
      · simp only [mm_res] at hres
        split at hres <;> simp only [Bool.and_eq_true, Bool.or_eq_true, decide_eq_true_eq, Bool.false_eq_true] at hres
        obtain ⟨⟨⟨⟨rfl, w0⟩, w1⟩, w2⟩, w3⟩ := hres
        exact mr_max hx hb hml hown (mm_wq_before w0 hTb) (mm_wq_before w1 hTb) (mm_wq_before w2 hTb) (mm_wq_before w3 hTb) (by omega) (by omega) hw.1 hdc (ih _ _ _ _ _ hch2 hw.2 p l e R s m args below meth c D cT zt A rho0 hF)
      · exact hw.elim
    · obtain ⟨o, len, hdc, hres, hch⟩ := dec _ rfl (fun _ => by simp) (fun _ => by simp)
      have hch2 := hch.resolve_left (by simp [mm_last1])
      split at hw
      · simp only [mm_res] at hres
        split at hres <;> simp only [Bool.and_eq_true, Bool.or_eq_true, decide_eq_true_eq, Bool.false_eq_true] at hres
        obtain ⟨⟨⟨⟨rfl, w0⟩, w1⟩, w2⟩, w3⟩ := hres
        exact mr_min hx hb hml hown (mm_wq_before w0 hTb) (mm_wq_before w1 hTb) (mm_wq_before w2 hTb) (mm_wq_before w3 hTb) (by omega) (by omega) hw.1 hdc (ih _ _ _ _ _ hch2 hw.2 p l e R s m args below meth c D cT zt A rho0 hF)
      · exact hw.elim
    · rename_i n1 n2 n3 n4 n5 n6 n7 n8 n9 n10 n11 n12 n13 n14 n15 n16 n17 n18 n19 n20 n21
      obtain ⟨o, len, hdc, hres, hch⟩ := dec _ rfl (fun t z => n2 t z) (fun t z => n14 t z)
      have hch2 := hch.resolve_left (by
        intro z
        unfold mm_last1 at z
        split at z <;> first | exact n1 _ rfl | exact n9 _ _ rfl | exact n15 rfl | exact n16 rfl | exact n17 rfl | exact n19 rfl | cases z)
      split at hw
      · rename_i oo hs1
        exact mm_s1_sound hF hdc hres hs1 (ih _ _ _ _ _ hch2 hw p l e R s m args below meth c D cT zt A rho0 hF)
      · exact hw.elim
end
section
/-- the blocks of a method, each checked against its bytes -/
def mm_chkM (mi : Nat) (bs : List (Nat × List Instr)) (hs : List (List (List Nat))) : Bool := decide (bs.length = hs.length) && (bs.zip hs).all fun q => mm_chk mi q.1.1 q.1.2 q.2
theorem mm_chkM_of {mi : Nat} {bs : List (Nat × List Instr)} {hs : List (List (List Nat))} (h : mm_chkM mi bs hs = true) {k pc : Nat} {is : List Instr} (hk : bs[k]? = some (pc, is)) : ∃ hq, mm_chk mi pc is hq = true := by
  simp only [mm_chkM, Bool.and_eq_true, decide_eq_true_eq] at h
  have hl : k < bs.length := (List.getElem?_eq_some_iff.mp hk).1
  have h1 : hs[k]? = some (hs[k]'(by omega)) := List.getElem?_eq_getElem (by omega)
  have h2 : (bs.zip hs)[k]? = some ((pc, is), hs[k]'(by omega)) := by rw [List.getElem?_zip_eq_some]; exact ⟨hk, h1⟩
  exact ⟨_, List.all_eq_true.mp h.2 _ (List.mem_of_getElem? h2)⟩
-- LispForge.<init> ()V
def bq0_0 : List (Nat × List Instr) := [(0, [.aload 0, .invokespecial 0, .aload 0, .new 1, .dup, .sipush (120), .invokevirtual 1, .multianewarray 0 0, .aload 0, .new 6, .dup, .invokevirtual 3, .multianewarray 0 1, .aload 0, .new 8, .dup, .invokevirtual 4, .multianewarray 0 2, .aload 0, .new 2, .dup, .aload 0, .invokeinterface 0 2, .invokevirtual 5, .multianewarray 0 3, .aload 0, .new 4, .dup, .aload 0, .invokeinterface 0 2, .invokevirtual 6, .multianewarray 0 4, .aload 0, .new 5, .dup, .invokevirtual 7, .multianewarray 0 5, .aload 0, .sipush (-1), .multianewarray 0 6, .aload 0, .sipush (0), .multianewarray 0 7, .return_])]
def hq0_0 : List (List (List Nat)) := [[[], [104, 105, 106], [], [107, 108, 80], [], [], [109, 110, 80, 111], [288], [], [128, 129, 82], [], [130, 131, 82, 132], [289], [], [159, 160, 83], [], [161, 162, 83, 163], [290], [], [174, 175, 84], [], [], [290], [176, 177, 84, 178], [291], [], [219, 220, 85], [], [], [290], [221, 222, 85, 223], [292], [], [242, 243, 86], [], [244, 245, 86, 246], [293], [], [], [294], [], [], [295], []]]
set_option maxRecDepth 100000 in
theorem cq0_0 : mm_chkM 0 bq0_0 hq0_0 = true := by decide +kernel
-- LispForge$Bytes.<init> (I)V
def bq1_0 : List (Nat × List Instr) := [(0, [.aload 0, .invokespecial 0, .aload 0, .iload 1, .sipush (0), .fadd, .newarray .int, .multianewarray 1 0, .return_])]
def hq1_0 : List (List (List Nat)) := [[[], [112, 105, 106], [], [], [], [113, 114, 81, 115], [127], [116], []]]
set_option maxRecDepth 100000 in
theorem cq1_0 : mm_chkM 1 bq1_0 hq1_0 = true := by decide +kernel
-- LispForge$Reader.<init> ()V
def bq3_0 : List (Nat × List Instr) := [(0, [.aload 0, .invokespecial 0, .aload 0, .sipush (8), .anewarray 0, .multianewarray 6 0, .return_])]
def hq3_0 : List (List (List Nat)) := [[[], [133, 105, 106], [], [], [134], [136], []]]
set_option maxRecDepth 100000 in
theorem cq3_0 : mm_chkM 3 bq3_0 hq3_0 = true := by decide +kernel
-- LispForge$Shelf.<init> ()V
def bq4_0 : List (Nat × List Instr) := [(0, [.aload 0, .invokespecial 0, .aload 0, .sipush (16), .anewarray 1, .multianewarray 8 0, .return_])]
def hq4_0 : List (List (List Nat)) := [[[], [164, 105, 106], [], [], [165], [167], []]]
set_option maxRecDepth 100000 in
theorem cq4_0 : mm_chkM 4 bq4_0 hq4_0 = true := by decide +kernel
-- LispForge$Compiler.<init> (LLispForge$Shelf;)V
def bq5_0 : List (Nat × List Instr) := [(0, [.aload 0, .invokespecial 0, .aload 0, .new 1, .dup, .sipush (200), .invokevirtual 1, .multianewarray 2 1, .aload 0, .new 1, .dup, .sipush (560), .invokevirtual 1, .multianewarray 2 2, .aload 0, .sipush (50), .newarray .int, .multianewarray 2 3, .aload 0, .sipush (50), .newarray .int, .multianewarray 2 4, .aload 0, .sipush (104), .newarray .int, .multianewarray 2 6, .aload 0, .sipush (104), .newarray .int, .multianewarray 2 7, .aload 0, .aload 1, .multianewarray 2 0, .return_])]
def hq5_0 : List (List (List Nat)) := [[[], [179, 105, 106], [], [180, 108, 80], [], [], [181, 110, 80, 111], [183], [], [180, 108, 80], [], [], [181, 110, 80, 111], [184], [], [], [127], [185], [], [], [127], [186], [], [], [127], [188], [], [], [127], [189], [], [], [182], []]]
set_option maxRecDepth 100000 in
theorem cq5_0 : mm_chkM 5 bq5_0 hq5_0 = true := by decide +kernel
-- LispForge$Linker.<init> (LLispForge$Shelf;)V
def bq6_0 : List (Nat × List Instr) := [(0, [.aload 0, .invokespecial 0, .aload 0, .sipush (16), .anewarray 1, .multianewarray 4 1, .aload 0, .sipush (16), .newarray .int, .multianewarray 4 2, .aload 0, .aload 1, .multianewarray 4 0, .return_])]
def hq6_0 : List (List (List Nat)) := [[[], [224, 105, 106], [], [], [225], [227], [], [], [127], [228], [], [], [226], []]]
set_option maxRecDepth 100000 in
theorem cq6_0 : mm_chkM 6 bq6_0 hq6_0 = true := by decide +kernel
-- LispForge$Machine.<init> ()V
def bq7_0 : List (Nat × List Instr) := [(0, [.aload 0, .invokespecial 0, .aload 0, .new 1, .dup, .sipush (600), .invokevirtual 1, .multianewarray 5 0, .aload 0, .sipush (120), .newarray .int, .multianewarray 5 1, .aload 0, .sipush (24), .newarray .int, .multianewarray 5 3, .aload 0, .sipush (24), .newarray .int, .multianewarray 5 4, .aload 0, .sipush (0), .multianewarray 5 6, .return_])]
def hq7_0 : List (List (List Nat)) := [[[], [247, 105, 106], [], [248, 108, 80], [], [], [249, 110, 80, 111], [250], [], [], [127], [252], [], [], [127], [255], [], [], [127], [256], [], [], [259], []]]
set_option maxRecDepth 100000 in
theorem cq7_0 : mm_chkM 7 bq7_0 hq7_0 = true := by decide +kernel
-- LispForge.write (J)Z
def bq8_0 : List (Nat × List Instr) := [(0, [.sipush (0), .istore 3, .sipush (56), .istore 4, .goto_w 6]),
  (6, [.iload 4, .ifCond .lt 49, .lload 1, .iload 4, .invokestatic 9, .istore 5, .iload 5, .ifCond .eq 43, .iload 5, .sipush (32), .if_icmp .lt 38, .iload 5, .sipush (126), .if_icmp .le 40, .goto_w 38]),
  (38, [.sipush (0), .freturn]),
  (40, [.iinc 3 (1), .goto_w 43]),
  (43, [.iinc 4 (-8), .goto 6]),
  (49, [.iload 3, .aload 0, .invokeinterface 0 0, .invokevirtual 10, .if_icmp .le 62, .sipush (0), .freturn]),
  (62, [.sipush (56), .istore 4, .goto_w 66])]
def hq8_0 : List (List (List Nat)) := [[[], [], [], [], []],
  [[], [], [], [], [317, 318, 79, 319], [], [], [], [], [], [], [], [], [], []],
  [[], []],
  [[], []],
  [[], []],
  [[], [], [288], [320, 321, 322, 80, 323], [], [], []],
  [[], [], []]]
set_option maxRecDepth 100000 in
theorem cq8_0 : mm_chkM 8 bq8_0 hq8_0 = true := by decide +kernel
def bq8_1 : List (Nat × List Instr) := [(66, [.iload 4, .ifCond .lt 99, .lload 1, .iload 4, .invokestatic 9, .istore 5, .iload 5, .ifCond .eq 93, .aload 0, .invokeinterface 0 0, .iload 5, .invokevirtual 11, .goto_w 93]),
  (93, [.iinc 4 (-8), .goto 66]),
  (99, [.sipush (1), .freturn])]
def hq8_1 : List (List (List Nat)) := [[[], [], [], [], [317, 318, 79, 319], [], [], [], [], [288], [], [324, 325, 326, 80, 327], []],
  [[], []],
  [[], []]]
set_option maxRecDepth 100000 in
theorem cq8_1 : mm_chkM 8 bq8_1 hq8_1 = true := by decide +kernel
-- LispForge.characterAt (JI)I
def bq9_0 : List (Nat × List Instr) := [(0, [.lload 0, .iload 2, .lushr, .l2i, .sipush (255), .iand, .ireturn])]
def hq9_0 : List (List (List Nat)) := [[[], [], [], [], [], [], []]]
set_option maxRecDepth 100000 in
theorem cq9_0 : mm_chkM 9 bq9_0 hq9_0 = true := by decide +kernel
-- LispForge$Bytes.room ()I
def bq10_0 : List (Nat × List Instr) := [(0, [.aload 0, .invokeinterface 1 0, .arraylength, .aload 0, .invokeinterface 1 1, .isub, .ireturn])]
def hq10_0 : List (List (List Nat)) := [[[], [116], [], [], [117], [], []]]
set_option maxRecDepth 100000 in
theorem cq10_0 : mm_chkM 10 bq10_0 hq10_0 = true := by decide +kernel
-- LispForge$Bytes.put (I)V
def bq11_0 : List (Nat × List Instr) := [(0, [.aload 0, .invokeinterface 1 1, .aload 0, .invokeinterface 1 0, .arraylength, .if_icmp .ge 36, .aload 0, .invokeinterface 1 0, .aload 0, .invokeinterface 1 1, .iload 1, .sipush (255), .iand, .iastore, .aload 0, .dup, .invokeinterface 1 1, .sipush (1), .iadd, .multianewarray 1 1, .goto_w 36]),
  (36, [.return_])]
def hq11_0 : List (List (List Nat)) := [[[], [117], [], [116], [], [], [], [116], [], [117], [], [], [], [], [], [], [117], [], [], [117], []],
  [[]]]
set_option maxRecDepth 100000 in
theorem cq11_0 : mm_chkM 11 bq11_0 hq11_0 = true := by decide +kernel
-- LispForge.position ()I
def bq12_0 : List (Nat × List Instr) := [(0, [.aload 0, .invokeinterface 0 6, .ireturn])]
def hq12_0 : List (List (List Nat)) := [[[], [294], []]]
set_option maxRecDepth 100000 in
theorem cq12_0 : mm_chkM 12 bq12_0 hq12_0 = true := by decide +kernel
-- LispForge.object (II)I
def bq13_0 : List (Nat × List Instr) := [(0, [.aload 0, .invokeinterface 0 2, .iload 1, .invokevirtual 14, .astore 3, .aload 3, .ifnull 21, .aload 3, .invokeinterface 9 0, .sipush (2), .if_icmp .ne 25, .goto_w 21]),
  (21, [.sipush (-1), .goto 33]),
  (25, [.aload 3, .invokeinterface 9 5, .iload 2, .invokevirtual 15, .goto_w 33]),
  (33, [.ireturn])]
def hq13_0 : List (List (List Nat)) := [[[], [290], [], [336, 337, 338, 83, 339], [], [], [], [], [613], [], [], []],
  [[], []],
  [[], [629], [], [340, 341, 342, 80, 343], []],
  [[]]]
set_option maxRecDepth 100000 in
theorem cq13_0 : mm_chkM 13 bq13_0 hq13_0 = true := by decide +kernel
-- LispForge$Shelf.unit (I)LLispForge$Unit;
def bq14_0 : List (Nat × List Instr) := [(0, [.iload 1, .ifCond .lt 21, .iload 1, .aload 0, .invokeinterface 8 1, .if_icmp .ge 21, .aload 0, .invokeinterface 8 0, .iload 1, .aaload, .goto 22]),
  (21, [.aconst_null, .goto_w 22]),
  (22, [.areturn])]
def hq14_0 : List (List (List Nat)) := [[[], [], [], [], [168], [], [], [167], [], [], []],
  [[], []],
  [[]]]
set_option maxRecDepth 100000 in
theorem cq14_0 : mm_chkM 14 bq14_0 hq14_0 = true := by decide +kernel
-- LispForge$Bytes.lengthOrByte (I)I
def bq15_0 : List (Nat × List Instr) := [(0, [.iload 1, .sipush (-1), .if_icmp .ne 12, .aload 0, .invokeinterface 1 1, .goto 17]),
  (12, [.aload 0, .iload 1, .invokevirtual 16, .goto_w 17]),
  (17, [.ireturn])]
def hq15_0 : List (List (List Nat)) := [[[], [], [], [], [117], []],
  [[], [], [344, 345, 346, 80, 347], []],
  [[]]]
set_option maxRecDepth 100000 in
theorem cq15_0 : mm_chkM 15 bq15_0 hq15_0 = true := by decide +kernel
-- LispForge$Bytes.at (I)I
def bq16_0 : List (Nat × List Instr) := [(0, [.iload 1, .ifCond .lt 21, .iload 1, .aload 0, .invokeinterface 1 1, .if_icmp .ge 21, .aload 0, .invokeinterface 1 0, .iload 1, .iaload, .goto 22]),
  (21, [.sipush (-1), .goto_w 22]),
  (22, [.ireturn])]
def hq16_0 : List (List (List Nat)) := [[[], [], [], [], [117], [], [], [116], [], [], []],
  [[], []],
  [[]]]
set_option maxRecDepth 100000 in
theorem cq16_0 : mm_chkM 16 bq16_0 hq16_0 = true := by decide +kernel
-- LispForge.clear ()V
def bq17_0 : List (Nat × List Instr) := [(0, [.aload 0, .invokeinterface 0 2, .invokevirtual 18, .return_])]
def hq17_0 : List (List (List Nat)) := [[[], [290], [352, 353, 354, 83, 355], []]]
set_option maxRecDepth 100000 in
theorem cq17_0 : mm_chkM 17 bq17_0 hq17_0 = true := by decide +kernel
-- LispForge$Shelf.empty ()V
def bq18_0 : List (Nat × List Instr) := [(0, [.aload 0, .sipush (0), .multianewarray 8 1, .return_])]
def hq18_0 : List (List (List Nat)) := [[[], [], [168], []]]
set_option maxRecDepth 100000 in
theorem cq18_0 : mm_chkM 18 bq18_0 hq18_0 = true := by decide +kernel
-- LispForge.failure ()I
def bq19_0 : List (Nat × List Instr) := [(0, [.aload 0, .invokeinterface 0 7, .ireturn])]
def hq19_0 : List (List (List Nat)) := [[[], [295], []]]
set_option maxRecDepth 100000 in
theorem cq19_0 : mm_chkM 19 bq19_0 hq19_0 = true := by decide +kernel
-- LispForge.image (I)I
def bq20_0 : List (Nat × List Instr) := [(0, [.aload 0, .invokeinterface 0 5, .invokeinterface 5 0, .iload 1, .invokevirtual 15, .ireturn])]
def hq20_0 : List (List (List Nat)) := [[[], [293], [251], [], [340, 341, 342, 80, 343], []]]
set_option maxRecDepth 100000 in
theorem cq20_0 : mm_chkM 20 bq20_0 hq20_0 = true := by decide +kernel
-- LispForge.restart ()Z
def bq21_0 : List (Nat × List Instr) := [(0, [.aload 0, .invokeinterface 0 5, .invokeinterface 5 6, .ifCond .ne 12, .sipush (0), .freturn]),
  (12, [.aload 0, .invokeinterface 0 5, .invokevirtual 22, .sipush (1), .freturn])]
def hq21_0 : List (List (List Nat)) := [[[], [293], [260], [], [], []],
  [[], [293], [368, 369, 370, 86, 371], [], []]]
set_option maxRecDepth 100000 in
theorem cq21_0 : mm_chkM 21 bq21_0 hq21_0 = true := by decide +kernel
-- LispForge$Machine.begin ()V
def bq22_0 : List (Nat × List Instr) := [(0, [.aload 0, .sipush (1), .multianewarray 5 6, .aload 0, .sipush (0), .multianewarray 5 2, .aload 0, .sipush (0), .multianewarray 5 5, .aload 0, .sipush (0), .multianewarray 5 7, .aload 0, .sipush (0), .multianewarray 5 8, .aload 0, .sipush (0), .multianewarray 5 9, .return_])]
def hq22_0 : List (List (List Nat)) := [[[], [], [259], [], [], [253], [], [], [257], [], [], [261], [], [], [263], [], [], [265], []]]
set_option maxRecDepth 100000 in
theorem cq22_0 : mm_chkM 22 bq22_0 hq22_0 = true := by decide +kernel
-- LispForge.about (I)I
def bq23_0 : List (Nat × List Instr) := [(0, [.iload 1, .lookupswitch 88 #[(0, 40), (1, 48), (2, 56), (3, 64), (4, 72), (5, 80)]]),
  (40, [.aload 0, .invokeinterface 0 5, .invokeinterface 5 6, .ireturn]),
  (48, [.aload 0, .invokeinterface 0 5, .invokeinterface 5 7, .ireturn]),
  (56, [.aload 0, .invokeinterface 0 5, .invokeinterface 5 8, .ireturn]),
  (64, [.aload 0, .invokeinterface 0 5, .invokeinterface 5 2, .ireturn]),
  (72, [.aload 0, .invokeinterface 0 5, .invokeinterface 5 5, .ireturn]),
  (80, [.aload 0, .invokeinterface 0 5, .invokeinterface 5 9, .ireturn]),
  (88, [.sipush (-1), .ireturn])]
def hq23_0 : List (List (List Nat)) := [[[], []],
  [[], [293], [260], []],
  [[], [293], [262], []],
  [[], [293], [264], []],
  [[], [293], [254], []],
  [[], [293], [258], []],
  [[], [293], [266], []],
  [[], []]]
set_option maxRecDepth 100000 in
theorem cq23_0 : mm_chkM 23 bq23_0 hq23_0 = true := by decide +kernel
-- LispForge.stack (I)I
def bq24_0 : List (Nat × List Instr) := [(0, [.aload 0, .invokeinterface 0 5, .iload 1, .invokevirtual 25, .ireturn])]
def hq24_0 : List (List (List Nat)) := [[[], [293], [], [380, 381, 382, 86, 383], []]]
set_option maxRecDepth 100000 in
theorem cq24_0 : mm_chkM 24 bq24_0 hq24_0 = true := by decide +kernel
-- LispForge$Machine.numberAt (I)I
def bq25_0 : List (Nat × List Instr) := [(0, [.iload 1, .ifCond .lt 27, .iload 1, .aload 0, .invokeinterface 5 2, .if_icmp .ge 27, .iload 1, .sipush (120), .if_icmp .ge 27, .aload 0, .invokeinterface 5 1, .iload 1, .iaload, .goto 28]),
  (27, [.sipush (0), .goto_w 28]),
  (28, [.ireturn])]
def hq25_0 : List (List (List Nat)) := [[[], [], [], [], [253], [], [], [], [], [], [252], [], [], []],
  [[], []],
  [[]]]
set_option maxRecDepth 100000 in
theorem cq25_0 : mm_chkM 25 bq25_0 hq25_0 = true := by decide +kernel
-- LispForge.top ()I
def bq26_0 : List (Nat × List Instr) := [(0, [.aload 0, .invokeinterface 0 5, .aload 0, .invokeinterface 0 5, .invokeinterface 5 2, .sipush (1), .isub, .invokevirtual 25, .ireturn])]
def hq26_0 : List (List (List Nat)) := [[[], [293], [], [293], [254], [], [], [380, 381, 382, 86, 383], []]]
set_option maxRecDepth 100000 in
theorem cq26_0 : mm_chkM 26 bq26_0 hq26_0 = true := by decide +kernel
-- LispForge.compile ()I
def bq27_0 : List (Nat × List Instr) := [(0, [.aload 0, .invokeinterface 0 1, .aload 0, .invokeinterface 0 0, .invokevirtual 28, .astore 1, .aload 0, .invokeinterface 0 0, .invokevirtual 43, .aload 0, .aload 1, .ifnonnull 34, .aload 0, .invokeinterface 0 1, .invokeinterface 6 6, .goto 35]),
  (34, [.sipush (-1), .goto_w 35]),
  (35, [.multianewarray 0 6, .aload 1, .ifnonnull 52, .checkcast 0]),
  (52, [.aload 0, .invokeinterface 0 3, .aload 1, .invokevirtual 44, .astore 2, .aload 2, .invokeinterface 9 0, .sipush (2), .if_icmp .eq 77, .aload 0, .invokeinterface 0 3, .aload 2, .invokevirtual 52, .goto_w 77]),
  (77, [.aload 0, .invokeinterface 0 2, .invokevirtual 85, .ifCond .eq 97, .checkcast 2])]
def hq27_0 : List (List (List Nat)) := [[[], [289], [], [288], [398, 399, 400, 82, 401], [], [], [288], [483, 484, 485, 80, 486], [], [], [], [], [289], [143], []],
  [[], []],
  [[294], [], [], [487, 528]],
  [[], [291], [], [555, 556, 557, 84, 558], [], [], [613], [], [], [], [291], [], [654, 655, 656, 84, 657], []],
  [[], [290], [825, 826, 827, 83, 828], [], [829, 838]]]
set_option maxRecDepth 100000 in
theorem cq27_0 : mm_chkM 27 bq27_0 hq27_0 = true := by decide +kernel
def bq27_1 : List (Nat × List Instr) := [(97, [.aload 0, .invokeinterface 0 2, .aload 2, .invokevirtual 86, .ireturn])]
def hq27_1 : List (List (List Nat)) := [[[], [290], [], [845, 846, 847, 83, 848], []]]
set_option maxRecDepth 100000 in
theorem cq27_1 : mm_chkM 27 bq27_1 hq27_1 = true := by decide +kernel
end
section
-- LispForge$Reader.read (LLispForge$Bytes;)LLispForge$Form;
def bq28_0 : List (Nat × List Instr) := [(0, [.aload 0, .sipush (0), .multianewarray 6 1, .aload 0, .aconst_null, .multianewarray 6 2, .aload 0, .aconst_null, .multianewarray 6 3, .sipush (0), .istore 2, .goto_w 17]),
  (17, [.iload 2, .aload 1, .invokeinterface 1 1, .if_icmp .ge 50, .aload 0, .aload 1, .iload 2, .invokevirtual 16, .invokevirtual 29, .ifCond .ne 44, .aload 0, .iload 2, .multianewarray 6 6, .aconst_null, .areturn]),
  (44, [.iinc 2 (1), .goto 17]),
  (50, [.aload 0, .aload 1, .invokeinterface 1 1, .multianewarray 6 6, .aload 0, .invokeinterface 6 1, .ifCond .ne 72, .aload 0, .invokeinterface 6 2, .goto 73]),
  (72, [.aconst_null, .goto_w 73]),
  (73, [.areturn])]
def hq28_0 : List (List (List Nat)) := [[[], [], [137], [], [], [138], [], [], [139], [], [], []],
  [[], [], [118], [], [], [], [], [402, 345, 346, 80, 347], [403, 405, 0, 82, 406], [], [], [], [142], [], []],
  [[], []],
  [[], [], [118], [142], [], [137], [], [], [138], []],
  [[], []],
  [[]]]
set_option maxRecDepth 100000 in
theorem cq28_0 : mm_chkM 28 bq28_0 hq28_0 = true := by decide +kernel
-- LispForge$Reader.takes (I)Z
def bq29_0 : List (Nat × List Instr) := [(0, [.aload 0, .iload 1, .invokevirtual 30, .ifCond .eq 10, .sipush (1), .freturn]),
  (10, [.aload 0, .invokeinterface 6 3, .ifnull 21, .sipush (1), .goto 22]),
  (21, [.sipush (0), .goto_w 22]),
  (22, [.istore 2, .aload 0, .aconst_null, .multianewarray 6 3, .iload 1, .lookupswitch 76 #[(32, 64), (40, 66), (41, 71)]]),
  (64, [.sipush (1), .freturn]),
  (66, [.aload 0, .invokevirtual 36, .freturn]),
  (71, [.aload 0, .invokevirtual 40, .freturn]),
  (76, [.iload 2, .ifCond .ne 92, .aload 0, .iload 1, .invokevirtual 41, .ifCond .eq 92, .sipush (1), .goto 93]),
  (92, [.sipush (0), .goto_w 93]),
  (93, [.freturn])]
def hq29_0 : List (List (List Nat)) := [[[], [], [407, 409, 1, 82, 410], [], [], []],
  [[], [139], [], [], []],
  [[], []],
  [[], [], [], [139], [], []],
  [[], []],
  [[], [428, 430, 3, 82, 431], []],
  [[], [472, 474, 5, 82, 475], []],
  [[], [], [], [], [476, 478, 6, 82, 479], [], [], []],
  [[], []],
  [[]]]
set_option maxRecDepth 100000 in
theorem cq29_0 : mm_chkM 29 bq29_0 hq29_0 = true := by decide +kernel
-- LispForge$Reader.lengthensAtom (I)Z
def bq30_0 : List (Nat × List Instr) := [(0, [.aload 0, .invokeinterface 6 3, .ifnonnull 9, .sipush (0), .freturn]),
  (9, [.iload 1, .invokestatic 31, .ifCond .eq 25, .aload 0, .iload 1, .sipush (48), .isub, .invokevirtual 32, .freturn]),
  (25, [.iload 1, .invokestatic 33, .ifCond .eq 50, .aload 0, .invokeinterface 6 3, .invokevirtual 34, .ifCond .eq 50, .aload 0, .invokeinterface 6 4, .sipush (4), .if_icmp .ne 52, .goto_w 50]),
  (50, [.sipush (0), .freturn])]
def hq30_0 : List (List (List Nat)) := [[[], [139], [], [], []],
  [[], [411, 412, 82, 413], [], [], [], [], [], [414, 416, 2, 82, 417], []],
  [[], [418, 419, 82, 420], [], [], [139], [421, 422, 423, 88, 424], [], [], [140], [], [], []],
  [[], []]]
set_option maxRecDepth 100000 in
theorem cq30_0 : mm_chkM 30 bq30_0 hq30_0 = true := by decide +kernel
def bq30_1 : List (Nat × List Instr) := [(52, [.aload 0, .invokeinterface 6 3, .aload 0, .invokeinterface 6 3, .invokeinterface 3 1, .sipush (8), .ishl, .iload 1, .ior, .multianewarray 3 1, .aload 0, .dup, .invokeinterface 6 4, .sipush (1), .iadd, .multianewarray 6 4, .sipush (1), .freturn])]
def hq30_1 : List (List (List Nat)) := [[[], [139], [], [139], [442], [], [], [], [], [442], [], [], [140], [], [], [140], [], []]]
set_option maxRecDepth 100000 in
theorem cq30_1 : mm_chkM 30 bq30_1 hq30_1 = true := by decide +kernel
-- LispForge$Reader.isDigit (I)Z
def bq31_0 : List (Nat × List Instr) := [(0, [.iload 0, .sipush (48), .if_icmp .lt 16, .iload 0, .sipush (57), .if_icmp .gt 16, .sipush (1), .goto 17]),
  (16, [.sipush (0), .goto_w 17]),
  (17, [.freturn])]
def hq31_0 : List (List (List Nat)) := [[[], [], [], [], [], [], [], []],
  [[], []],
  [[]]]
set_option maxRecDepth 100000 in
theorem cq31_0 : mm_chkM 31 bq31_0 hq31_0 = true := by decide +kernel
-- LispForge$Reader.addsDigit (I)Z
def bq32_0 : List (Nat × List Instr) := [(0, [.aload 0, .invokeinterface 6 3, .invokeinterface 3 0, .sipush (1), .if_icmp .ne 49, .aload 0, .invokeinterface 6 3, .invokeinterface 3 1, .sipush (45), .if_icmp .ne 49, .aload 0, .invokeinterface 6 3, .sipush (0), .multianewarray 3 0, .aload 0, .invokeinterface 6 3, .sipush (0), .multianewarray 3 1, .aload 0, .sipush (0), .multianewarray 6 4, .aload 0, .sipush (1), .multianewarray 6 5, .goto_w 49]),
  (49, [.aload 0, .invokeinterface 6 3, .invokeinterface 3 0, .ifCond .ne 67, .aload 0, .invokeinterface 6 4, .sipush (4), .if_icmp .ne 69, .goto_w 67]),
  (67, [.sipush (0), .freturn])]
def hq32_0 : List (List (List Nat)) := [[[], [139], [439], [], [], [], [139], [442], [], [], [], [139], [], [439], [], [139], [], [442], [], [], [140], [], [], [141], []],
  [[], [139], [439], [], [], [140], [], [], []],
  [[], []]]
set_option maxRecDepth 100000 in
theorem cq32_0 : mm_chkM 32 bq32_0 hq32_0 = true := by decide +kernel
def bq32_1 : List (Nat × List Instr) := [(69, [.aload 0, .invokeinterface 6 3, .aload 0, .invokeinterface 6 3, .invokeinterface 3 1, .sipush (10), .imul, .aload 0, .invokeinterface 6 5, .ifCond .eq 95, .iload 1, .ineg, .goto 96]),
  (95, [.iload 1, .goto_w 96]),
  (96, [.iadd, .multianewarray 3 1, .aload 0, .dup, .invokeinterface 6 4, .sipush (1), .iadd, .multianewarray 6 4, .sipush (1), .freturn])]
def hq32_1 : List (List (List Nat)) := [[[], [139], [], [139], [442], [], [], [], [141], [], [], [], []],
  [[], []],
  [[], [442], [], [], [140], [], [], [140], [], []]]
set_option maxRecDepth 100000 in
theorem cq32_1 : mm_chkM 32 bq32_1 hq32_1 = true := by decide +kernel
-- LispForge$Reader.isLetter (I)Z
def bq33_0 : List (Nat × List Instr) := [(0, [.iload 0, .sipush (97), .if_icmp .lt 16, .iload 0, .sipush (122), .if_icmp .gt 16, .sipush (1), .goto 17]),
  (16, [.sipush (0), .goto_w 17]),
  (17, [.freturn])]
def hq33_0 : List (List (List Nat)) := [[[], [], [], [], [], [], [], []],
  [[], []],
  [[]]]
set_option maxRecDepth 100000 in
theorem cq33_0 : mm_chkM 33 bq33_0 hq33_0 = true := by decide +kernel
-- LispForge$Form.isSymbolOfLetters ()Z
def bq34_0 : List (Nat × List Instr) := [(0, [.aload 0, .invokeinterface 3 0, .sipush (1), .if_icmp .ne 22, .aload 0, .invokeinterface 3 1, .invokestatic 35, .ifCond .eq 22, .sipush (1), .goto 23]),
  (22, [.sipush (0), .goto_w 23]),
  (23, [.freturn])]
def hq34_0 : List (List (List Nat)) := [[[], [437], [], [], [], [440], [425, 426, 79, 427], [], [], []],
  [[], []],
  [[]]]
set_option maxRecDepth 100000 in
theorem cq34_0 : mm_chkM 34 bq34_0 hq34_0 = true := by decide +kernel
-- LispForge.isOfLetters (I)Z
def bq35_0 : List (Nat × List Instr) := [(0, [.iload 0, .sipush (255), .iand, .sipush (97), .if_icmp .lt 14, .sipush (1), .goto 15]),
  (14, [.sipush (0), .goto_w 15]),
  (15, [.freturn])]
def hq35_0 : List (List (List Nat)) := [[[], [], [], [], [], [], []],
  [[], []],
  [[]]]
set_option maxRecDepth 100000 in
theorem cq35_0 : mm_chkM 35 bq35_0 hq35_0 = true := by decide +kernel
-- LispForge$Reader.opensList ()Z
def bq36_0 : List (Nat × List Instr) := [(0, [.aload 0, .invokeinterface 6 1, .sipush (8), .if_icmp .lt 11, .sipush (0), .freturn]),
  (11, [.new 3, .dup, .sipush (2), .sipush (0), .invokevirtual 37, .astore 1, .aload 0, .aload 1, .invokevirtual 38, .ifCond .ne 31, .sipush (0), .freturn]),
  (31, [.aload 0, .invokeinterface 6 0, .aload 0, .invokeinterface 6 1, .aload 1, .aastore, .aload 0, .dup, .invokeinterface 6 1, .sipush (1), .iadd, .multianewarray 6 1, .sipush (1), .freturn])]
def hq36_0 : List (List (List Nat)) := [[[], [137], [], [], [], []],
  [[134, 432, 88], [], [], [], [433, 434, 88, 435], [], [], [], [464, 466, 4, 82, 467], [], [], []],
  [[], [136], [], [137], [], [], [], [], [137], [], [], [137], [], []]]
set_option maxRecDepth 100000 in
theorem cq36_0 : mm_chkM 36 bq36_0 hq36_0 = true := by decide +kernel
-- LispForge$Form.<init> (II)V
def bq37_0 : List (Nat × List Instr) := [(0, [.aload 0, .invokespecial 0, .aload 0, .iload 1, .multianewarray 3 0, .aload 0, .iload 2, .multianewarray 3 1, .return_])]
def hq37_0 : List (List (List Nat)) := [[[], [436, 105, 106], [], [], [437], [], [], [440], []]]
set_option maxRecDepth 100000 in
theorem cq37_0 : mm_chkM 37 bq37_0 hq37_0 = true := by decide +kernel
-- LispForge$Reader.adds (LLispForge$Form;)Z
def bq38_0 : List (Nat × List Instr) := [(0, [.aload 0, .invokeinterface 6 1, .ifCond .le 30, .aload 0, .invokeinterface 6 1, .sipush (8), .if_icmp .gt 30, .aload 0, .invokeinterface 6 0, .aload 0, .invokeinterface 6 1, .sipush (1), .isub, .aaload, .goto 31]),
  (30, [.aconst_null, .goto_w 31]),
  (31, [.astore 2, .aload 2, .ifnull 43, .aload 2, .aload 1, .invokevirtual 39, .sipush (1), .freturn]),
  (43, [.aload 0, .invokeinterface 6 2, .ifnull 52, .sipush (0), .freturn]),
  (52, [.aload 0, .aload 1, .multianewarray 6 2, .sipush (1), .freturn])]
def hq38_0 : List (List (List Nat)) := [[[], [137], [], [], [137], [], [], [], [136], [], [137], [], [], [], []],
  [[], []],
  [[], [], [], [], [], [468, 469, 470, 88, 471], [], []],
  [[], [138], [], [], []],
  [[], [], [138], [], []]]
set_option maxRecDepth 100000 in
theorem cq38_0 : mm_chkM 38 bq38_0 hq38_0 = true := by decide +kernel
-- LispForge$Form.append (LLispForge$Form;)V
def bq39_0 : List (Nat × List Instr) := [(0, [.aload 0, .invokeinterface 3 4, .ifnonnull 15, .aload 0, .aload 1, .multianewarray 3 3, .goto 23]),
  (15, [.aload 0, .invokeinterface 3 4, .aload 1, .multianewarray 3 5, .goto_w 23]),
  (23, [.aload 0, .aload 1, .multianewarray 3 4, .aload 0, .dup, .invokeinterface 3 2, .sipush (1), .iadd, .multianewarray 3 2, .return_])]
def hq39_0 : List (List (List Nat)) := [[[], [447], [], [], [], [445], []],
  [[], [447], [], [449], []],
  [[], [], [447], [], [], [444], [], [], [444], []]]
set_option maxRecDepth 100000 in
theorem cq39_0 : mm_chkM 39 bq39_0 hq39_0 = true := by decide +kernel
-- LispForge$Reader.closesList ()Z
def bq40_0 : List (Nat × List Instr) := [(0, [.aload 0, .invokeinterface 6 1, .ifCond .ne 9, .sipush (0), .freturn]),
  (9, [.aload 0, .dup, .invokeinterface 6 1, .sipush (1), .isub, .multianewarray 6 1, .sipush (1), .freturn])]
def hq40_0 : List (List (List Nat)) := [[[], [137], [], [], []],
  [[], [], [137], [], [], [137], [], []]]
set_option maxRecDepth 100000 in
theorem cq40_0 : mm_chkM 40 bq40_0 hq40_0 = true := by decide +kernel
-- LispForge$Reader.beginsAtom (I)Z
def bq41_0 : List (Nat × List Instr) := [(0, [.iload 1, .invokestatic 31, .istore 2, .iload 2, .ifCond .ne 25, .iload 1, .invokestatic 33, .ifCond .ne 25, .iload 1, .invokestatic 42, .ifCond .ne 25, .sipush (0), .freturn]),
  (25, [.aload 0, .new 3, .dup, .iload 2, .ifCond .eq 38, .sipush (0), .goto 39]),
  (38, [.sipush (1), .goto_w 39]),
  (39, [.iload 2, .ifCond .eq 50, .iload 1, .sipush (48), .isub, .goto 51]),
  (50, [.iload 1, .goto_w 51]),
  (51, [.invokevirtual 37, .multianewarray 6 3, .aload 0, .sipush (1), .multianewarray 6 4, .aload 0, .sipush (0), .multianewarray 6 5, .aload 0, .aload 0, .invokeinterface 6 3, .invokevirtual 38, .freturn])]
def hq41_0 : List (List (List Nat)) := [[[], [411, 412, 82, 413], [], [], [], [], [418, 419, 82, 420], [], [], [480, 481, 82, 482], [], [], []],
  [[], [134, 432, 88], [], [], [], [], []],
  [[], []],
  [[], [], [], [], [], []],
  [[], []],
  [[433, 434, 88, 435], [139], [], [], [140], [], [], [141], [], [], [139], [464, 466, 4, 82, 467], []]]
set_option maxRecDepth 100000 in
theorem cq41_0 : mm_chkM 41 bq41_0 hq41_0 = true := by decide +kernel
-- LispForge$Reader.isSign (I)Z
def bq42_0 : List (Nat × List Instr) := [(0, [.iload 0, .sipush (43), .if_icmp .eq 30, .iload 0, .sipush (45), .if_icmp .eq 30, .iload 0, .sipush (42), .if_icmp .eq 30, .iload 0, .sipush (60), .if_icmp .eq 30, .iload 0, .sipush (61), .if_icmp .ne 34, .goto_w 30]),
  (30, [.sipush (1), .goto 35]),
  (34, [.sipush (0), .goto_w 35]),
  (35, [.freturn])]
def hq42_0 : List (List (List Nat)) := [[[], [], [], [], [], [], [], [], [], [], [], [], [], [], [], []],
  [[], []],
  [[], []],
  [[]]]
set_option maxRecDepth 100000 in
theorem cq42_0 : mm_chkM 42 bq42_0 hq42_0 = true := by decide +kernel
-- LispForge$Bytes.empty ()V
def bq43_0 : List (Nat × List Instr) := [(0, [.aload 0, .sipush (0), .multianewarray 1 1, .return_])]
def hq43_0 : List (List (List Nat)) := [[[], [], [117], []]]
set_option maxRecDepth 100000 in
theorem cq43_0 : mm_chkM 43 bq43_0 hq43_0 = true := by decide +kernel
-- LispForge$Shelf.latest (II)LLispForge$Unit;
def bq59_0 : List (Nat × List Instr) := [(0, [.aload 0, .invokeinterface 8 1, .sipush (1), .isub, .istore 3, .goto_w 7]),
  (7, [.iload 3, .ifCond .lt 51, .aload 0, .invokeinterface 8 0, .iload 3, .aaload, .astore 4, .aload 4, .ifnull 45, .aload 4, .invokeinterface 9 0, .iload 1, .if_icmp .ne 45, .aload 4, .invokeinterface 9 1, .iload 2, .if_icmp .ne 45, .aload 4, .areturn]),
  (45, [.iinc 3 (-1), .goto 7]),
  (51, [.aconst_null, .areturn])]
def hq59_0 : List (List (List Nat)) := [[[], [168], [], [], [], []],
  [[], [], [], [167], [], [], [], [], [], [], [614], [], [], [], [617], [], [], [], []],
  [[], []],
  [[], []]]
set_option maxRecDepth 100000 in
theorem cq59_0 : mm_chkM 59 bq59_0 hq59_0 = true := by decide +kernel
end
section
-- LispForge.link ()I
def bq87_0 : List (Nat × List Instr) := [(0, [.aload 0, .aload 0, .invokeinterface 0 4, .invokevirtual 88, .multianewarray 0 7, .aload 0, .invokeinterface 0 7, .ifCond .eq 28, .checkcast 2]),
  (28, [.aload 0, .invokeinterface 0 4, .aload 0, .invokeinterface 0 5, .invokeinterface 5 0, .invokevirtual 92, .aload 0, .invokeinterface 0 5, .invokevirtual 22, .aload 0, .invokeinterface 0 5, .invokeinterface 5 0, .invokeinterface 1 1, .ireturn])]
def hq87_0 : List (List (List Nat)) := [[[], [], [292], [857, 858, 859, 85, 860], [295], [], [295], [], [829, 875]],
  [[], [292], [], [293], [251], [876, 877, 878, 85, 879], [], [293], [368, 369, 370, 86, 371], [], [293], [251], [120], []]]
set_option maxRecDepth 100000 in
theorem cq87_0 : mm_chkM 87 bq87_0 hq87_0 = true := by decide +kernel
-- LispForge$Linker.gather ()I
def bq88_0 : List (Nat × List Instr) := [(0, [.aload 0, .sipush (0), .multianewarray 4 3, .aload 0, .sipush (0), .multianewarray 4 4, .aload 0, .invokeinterface 4 0, .sipush (0), .sipush (0), .invokevirtual 59, .astore 1, .aload 1, .ifnonnull 26, .sipush (1), .ireturn]),
  (26, [.aload 0, .aload 1, .invokevirtual 89, .sipush (0), .istore 2, .goto_w 33]),
  (33, [.iload 2, .sipush (16), .if_icmp .ge 70, .iload 2, .aload 0, .invokeinterface 4 3, .if_icmp .ge 70, .aload 0, .aload 0, .invokeinterface 4 1, .iload 2, .aaload, .invokevirtual 90, .istore 3, .iload 3, .ifCond .eq 64, .iload 3, .ireturn]),
  (64, [.iinc 2 (1), .goto 33])]
def hq88_0 : List (List (List Nat)) := [[[], [], [229], [], [], [230], [], [226], [], [], [861, 687, 688, 83, 689], [], [], [], [], []],
  [[], [], [862, 864, 29, 85, 865], [], [], []],
  [[], [], [], [], [], [229], [], [], [], [227], [], [], [866, 868, 30, 85, 869], [], [], [], [], []],
  [[], []]]
set_option maxRecDepth 100000 in
theorem cq88_0 : mm_chkM 88 bq88_0 hq88_0 = true := by decide +kernel
def bq88_1 : List (Nat × List Instr) := [(70, [.aload 0, .invokeinterface 4 4, .sipush (600), .if_icmp .le 84, .sipush (4), .goto 85]),
  (84, [.sipush (0), .goto_w 85]),
  (85, [.ireturn])]
def hq88_1 : List (List (List Nat)) := [[[], [230], [], [], [], []],
  [[], []],
  [[]]]
set_option maxRecDepth 100000 in
theorem cq88_1 : mm_chkM 88 bq88_1 hq88_1 = true := by decide +kernel
-- LispForge.run (I)I
def bq97_0 : List (Nat × List Instr) := [(0, [.iload 1, .ifCond .lt 11, .iload 1, .sipush (500), .if_icmp .le 21, .goto_w 11]),
  (11, [.checkcast 0]),
  (21, [.aload 0, .invokeinterface 0 5, .iload 1, .invokevirtual 98, .ireturn])]
def hq97_0 : List (List (List Nat)) := [[[], [], [], [], [], []],
  [[487, 907]],
  [[], [293], [], [908, 909, 910, 86, 911], []]]
set_option maxRecDepth 100000 in
theorem cq97_0 : mm_chkM 97 bq97_0 hq97_0 = true := by decide +kernel
-- LispForge$Machine.makeSteps (I)I
def bq98_0 : List (Nat × List Instr) := [(0, [.sipush (0), .istore 2, .goto_w 2]),
  (2, [.iload 2, .iload 1, .if_icmp .ge 25, .aload 0, .invokeinterface 5 6, .sipush (1), .if_icmp .ne 25, .aload 0, .invokevirtual 99, .iinc 2 (1), .goto 2]),
  (25, [.iload 2, .ireturn])]
def hq98_0 : List (List (List Nat)) := [[[], [], []],
  [[], [], [], [], [259], [], [], [], [912, 914, 34, 86, 915], [], []],
  [[], []]]
set_option maxRecDepth 100000 in
theorem cq98_0 : mm_chkM 98 bq98_0 hq98_0 = true := by decide +kernel
-- LispForgeModel.<init> ()V
def bq108_0 : List (Nat × List Instr) := [(0, [.aload 0, .invokespecial 0, .aload 0, .sipush (-1), .multianewarray 10 3, .aload 0, .sipush (120), .newarray .char, .multianewarray 10 5, .aload 0, .sipush (16), .newarray .int, .multianewarray 10 6, .aload 0, .sipush (16), .newarray .int, .multianewarray 10 7, .aload 0, .sipush (16), .newarray .int, .multianewarray 10 8, .aload 0, .sipush (16), .newarray .int, .multianewarray 10 9, .aload 0, .sipush (3200), .newarray .byte, .multianewarray 10 10, .aload 0, .sipush (16), .newarray .int, .multianewarray 10 11, .aload 0, .sipush (800), .newarray .int, .multianewarray 10 12, .aload 0, .sipush (800), .newarray .int, .multianewarray 10 13, .aload 0, .sipush (64), .newarray .int, .multianewarray 10 14, .aload 0, .sipush (1920), .newarray .char, .multianewarray 10 15, .aload 0, .sipush (16), .newarray .int, .multianewarray 10 16, .aload 0, .sipush (1300), .newarray .int, .multianewarray 10 19, .aload 0, .sipush (1300), .newarray .int, .multianewarray 10 20, .aload 0, .sipush (1300), .newarray .int, .multianewarray 10 21, .aload 0, .sipush (1300), .newarray .int, .multianewarray 10 22, .aload 0, .sipush (9), .newarray .int, .multianewarray 10 26, .aload 0, .sipush (9), .newarray .int, .multianewarray 10 27, .aload 0, .sipush (300), .newarray .int, .multianewarray 10 35, .aload 0, .sipush (300), .newarray .int, .multianewarray 10 36, .aload 0, .sipush (300), .newarray .int, .multianewarray 10 37, .aload 0, .sipush (260), .newarray .byte, .multianewarray 10 38, .aload 0, .sipush (120), .newarray .int, .multianewarray 10 39, .aload 0, .sipush (120), .newarray .int, .multianewarray 10 40, .aload 0, .sipush (70), .newarray .int, .multianewarray 10 41, .aload 0, .sipush (70), .newarray .int, .multianewarray 10 42, .aload 0, .sipush (16), .newarray .int, .multianewarray 10 44, .aload 0, .sipush (16), .newarray .int, .multianewarray 10 45, .aload 0, .sipush (600), .newarray .byte, .multianewarray 10 47, .aload 0, .sipush (120), .newarray .int, .multianewarray 10 54, .aload 0, .sipush (24), .newarray .int, .multianewarray 10 55, .aload 0, .sipush (24), .newarray .int, .multianewarray 10 56, .return_])]
def hq108_0 : List (List (List Nat)) := [[[], [957, 105, 106], [], [], [961], [], [], [1130], [963], [], [], [127], [964], [], [], [127], [965], [], [], [127], [966], [], [], [127], [967], [], [], [554], [968], [], [], [127], [969], [], [], [127], [970], [], [], [127], [971], [], [], [127], [972], [], [], [1130], [973], [], [], [127], [974], [], [], [127], [977], [], [], [127], [978], [], [], [127], [979], [], [], [127], [980], [], [], [127], [984], [], [], [127], [985], [], [], [127], [993], [], [], [127], [994], [], [], [127], [995], [], [], [554], [996], [], [], [127], [997], [], [], [127], [998], [], [], [127], [999], [], [], [127], [1000], [], [], [127], [1002], [], [], [127], [1003], [], [], [554], [1005], [], [], [127], [1012], [], [], [127], [1013], [], [], [127], [1014], []]]
set_option maxRecDepth 100000 in
theorem cq108_0 : mm_chkM 108 bq108_0 hq108_0 = true := by decide +kernel
-- LispForgeModel.thrown ()I
def bq109_0 : List (Nat × List Instr) := [(0, [.aload 0, .invokeinterface 10 0, .ireturn])]
def hq109_0 : List (List (List Nat)) := [[[], [958], []]]
set_option maxRecDepth 100000 in
theorem cq109_0 : mm_chkM 109 bq109_0 hq109_0 = true := by decide +kernel
-- LispForgeModel.write (J)Z
def bq110_0 : List (Nat × List Instr) := [(0, [.aload 0, .sipush (0), .multianewarray 10 0, .aload 0, .invokeinterface 10 1, .istore 3, .sipush (1), .istore 4, .sipush (7), .istore 5, .goto_w 17]),
  (17, [.iload 5, .ifCond .lt 101, .lload 1, .sipush (8), .iload 5, .imul, .lushr, .l2i, .sipush (255), .iand, .istore 6, .iload 4, .ifCond .eq 70, .iload 6, .ifCond .eq 66, .iload 6, .sipush (31), .if_icmp .le 70, .iload 6, .sipush (127), .if_icmp .ge 70, .iload 3, .sipush (120), .if_icmp .ge 70, .goto_w 66]),
  (66, [.sipush (1), .goto 71]),
  (70, [.sipush (0), .goto_w 71])]
def hq110_0 : List (List (List Nat)) := [[[], [], [958], [], [959], [], [], [], [], [], []],
  [[], [], [], [], [], [], [], [], [], [], [], [], [], [], [], [], [], [], [], [], [], [], [], [], []],
  [[], []],
  [[], []]]
set_option maxRecDepth 100000 in
theorem cq110_0 : mm_chkM 110 bq110_0 hq110_0 = true := by decide +kernel
def bq110_1 : List (Nat × List Instr) := [(71, [.istore 4, .iload 4, .ifCond .eq 95, .iload 6, .ifCond .eq 95, .aload 0, .invokeinterface 10 5, .iload 3, .iload 6, .i2c, .castore, .iinc 3 (1), .goto_w 95]),
  (95, [.iinc 5 (-1), .goto 17]),
  (101, [.aload 0, .iload 4, .ifCond .eq 111, .iload 3, .goto 115]),
  (111, [.aload 0, .invokeinterface 10 1, .goto_w 115]),
  (115, [.multianewarray 10 1, .iload 4, .freturn])]
def hq110_1 : List (List (List Nat)) := [[[], [], [], [], [], [], [963], [], [], [], [], [], []],
  [[], []],
  [[], [], [], [], []],
  [[], [959], []],
  [[959], [], []]]
set_option maxRecDepth 100000 in
theorem cq110_1 : mm_chkM 110 bq110_1 hq110_1 = true := by decide +kernel
end
section
-- LispForgeModel.compile ()I
def bq111_0 : List (Nat × List Instr) := [(0, [.aload 0, .sipush (0), .multianewarray 10 17, .aload 0, .sipush (0), .multianewarray 10 18, .aload 0, .sipush (0), .multianewarray 10 32, .aload 0, .sipush (0), .multianewarray 10 28, .aload 0, .sipush (-1), .sipush (0), .sipush (-1), .invokevirtual 112, .istore 1, .aload 0, .aload 0, .invokeinterface 10 24, .multianewarray 10 3, .aload 0, .aload 0, .invokeinterface 10 24, .ifCond .lt 48, .sipush (1), .goto 49]),
  (48, [.sipush (0), .goto_w 49])]
def hq111_0 : List (List (List Nat)) := [[[], [], [975], [], [], [976], [], [], [990], [], [], [986], [], [], [], [], [1143, 1145, 43, 87, 1146], [], [], [], [982], [961], [], [], [982], [], [], []],
  [[], []]]
set_option maxRecDepth 100000 in
theorem cq111_0 : mm_chkM 111 bq111_0 hq111_0 = true := by decide +kernel
def bq111_1 : List (Nat × List Instr) := [(49, [.multianewarray 10 0, .sipush (0), .istore 2, .aload 0, .invokeinterface 10 0, .ifCond .ne 339, .aload 0, .iload 1, .invokevirtual 121, .istore 3, .iload 3, .sipush (109), .sipush (97), .sipush (99), .invokestatic 124, .if_icmp .ne 84, .sipush (1), .goto 85]),
  (84, [.sipush (0), .goto_w 85]),
  (85, [.istore 4, .iload 3, .sipush (100), .sipush (101), .sipush (102), .invokestatic 124, .if_icmp .ne 104, .sipush (1), .goto 105]),
  (104, [.sipush (0), .goto_w 105]),
  (105, [.istore 5, .sipush (0), .istore 6, .iload 4, .ifCond .ne 120, .iload 5, .ifCond .eq 191, .goto_w 120])]
def hq111_1 : List (List (List Nat)) := [[[958], [], [], [], [958], [], [], [], [1176, 1178, 49, 87, 1179], [], [], [], [], [], [1188, 1189, 87, 1190], [], [], []],
  [[], []],
  [[], [], [], [], [], [1188, 1189, 87, 1190], [], [], []],
  [[], []],
  [[], [], [], [], [], [], [], []]]
set_option maxRecDepth 100000 in
theorem cq111_1 : mm_chkM 111 bq111_1 hq111_1 = true := by decide +kernel
def bq111_2 : List (Nat × List Instr) := [(120, [.aload 0, .aload 0, .iload 1, .invokevirtual 122, .sipush (4), .if_icmp .ne 160, .aload 0, .aload 0, .iload 1, .sipush (1), .invokevirtual 123, .invokevirtual 125, .ifCond .eq 160, .aload 0, .invokeinterface 10 20, .aload 0, .iload 1, .sipush (1), .invokevirtual 123, .iaload, .invokestatic 126, .ifCond .eq 164, .goto_w 160]),
  (160, [.sipush (1), .goto 165]),
  (164, [.sipush (0), .goto_w 165]),
  (165, [.multianewarray 10 28, .aload 0, .invokeinterface 10 28, .ifCond .eq 179, .sipush (0), .goto 189]),
  (179, [.aload 0, .aload 0, .iload 1, .sipush (2), .invokevirtual 123, .invokevirtual 127, .goto_w 189]),
  (189, [.istore 6, .goto_w 191])]
def hq111_2 : List (List (List Nat)) := [[[], [], [], [1180, 1182, 50, 87, 1183], [], [], [], [], [], [], [1184, 1186, 51, 87, 1187], [1191, 1193, 52, 87, 1194], [], [], [978], [], [], [], [1184, 1186, 51, 87, 1187], [], [1195, 1196, 87, 1197], [], []],
  [[], []],
  [[], []],
  [[986], [], [986], [], [], []],
  [[], [], [], [], [1184, 1186, 51, 87, 1187], [1198, 1200, 53, 87, 1201], []],
  [[], []]]
set_option maxRecDepth 100000 in
theorem cq111_2 : mm_chkM 111 bq111_2 hq111_2 = true := by decide +kernel
def bq111_3 : List (Nat × List Instr) := [(191, [.aload 0, .invokeinterface 10 28, .ifCond .ne 236, .iload 4, .ifCond .ne 236, .aload 0, .iload 5, .ifCond .eq 218, .aload 0, .iload 1, .sipush (3), .invokevirtual 123, .goto 219]),
  (218, [.iload 1, .goto_w 219]),
  (219, [.iload 5, .ifCond .eq 229, .sipush (13), .goto 231]),
  (229, [.sipush (14), .goto_w 231]),
  (231, [.iload 6, .invokevirtual 129, .goto_w 236]),
  (236, [.aload 0, .aload 0, .invokeinterface 10 28, .ifCond .eq 248, .sipush (2), .goto 262]),
  (248, [.aload 0, .invokeinterface 10 2, .sipush (16), .if_icmp .ne 261, .sipush (3), .goto 262]),
  (261, [.sipush (0), .goto_w 262])]
def hq111_3 : List (List (List Nat)) := [[[], [986], [], [], [], [], [], [], [], [], [], [1184, 1186, 51, 87, 1187], []],
  [[], []],
  [[], [], [], []],
  [[], []],
  [[], [1206, 1208, 55, 87, 1209], []],
  [[], [], [986], [], [], []],
  [[], [960], [], [], [], []],
  [[], []]]
set_option maxRecDepth 100000 in
theorem cq111_3 : mm_chkM 111 bq111_3 hq111_3 = true := by decide +kernel
def bq111_4 : List (Nat × List Instr) := [(262, [.multianewarray 10 0, .aload 0, .invokeinterface 10 0, .ifCond .ne 339, .aload 0, .iload 4, .ifCond .eq 282, .sipush (2), .goto 292]),
  (282, [.iload 5, .ifCond .eq 291, .sipush (1), .goto 292]),
  (291, [.sipush (0), .goto_w 292]),
  (292, [.iload 4, .ifCond .ne 302, .iload 5, .ifCond .eq 316, .goto_w 302]),
  (302, [.aload 0, .invokeinterface 10 20, .aload 0, .iload 1, .sipush (1), .invokevirtual 123, .iaload, .goto 317]),
  (316, [.sipush (0), .goto_w 317]),
  (317, [.iload 6, .iload 4, .ifCond .eq 331, .aload 0, .invokevirtual 141, .goto 335]),
  (331, [.aload 0, .invokeinterface 10 1, .goto_w 335]),
  (335, [.invokevirtual 142, .istore 2, .goto_w 339])]
def hq111_4 : List (List (List Nat)) := [[[958], [], [958], [], [], [], [], [], []],
  [[], [], [], []],
  [[], []],
  [[], [], [], [], []],
  [[], [978], [], [], [], [1184, 1186, 51, 87, 1187], [], []],
  [[], []],
  [[], [], [], [], [1253, 1255, 66, 87, 1256], []],
  [[], [959], []],
  [[1257, 1259, 67, 87, 1260], [], []]]
set_option maxRecDepth 100000 in
theorem cq111_4 : mm_chkM 111 bq111_4 hq111_4 = true := by decide +kernel
def bq111_5 : List (Nat × List Instr) := [(339, [.aload 0, .sipush (0), .multianewarray 10 1, .iload 2, .ireturn])]
def hq111_5 : List (List (List Nat)) := [[[], [], [959], [], []]]
set_option maxRecDepth 100000 in
theorem cq111_5 : mm_chkM 111 bq111_5 hq111_5 = true := by decide +kernel
-- LispForgeModel.read (III)I
def bq112_0 : List (Nat × List Instr) := [(0, [.aload 0, .iload 2, .multianewarray 10 23, .aload 0, .sipush (-1), .multianewarray 10 24, .aload 0, .sipush (0), .multianewarray 10 25, .sipush (-1), .istore 4, .sipush (1), .istore 5, .goto_w 21]),
  (21, [.aload 0, .invokeinterface 10 24, .ifCond .ge 384, .iload 4, .ifCond .lt 37, .iload 1, .ifCond .ge 384, .goto_w 37]),
  (37, [.aload 0, .iload 1, .aload 0, .invokeinterface 10 23, .invokevirtual 113, .istore 6, .iload 6, .invokestatic 114, .ifCond .ne 72, .iload 6, .invokestatic 115, .ifCond .ne 72, .iload 6, .invokestatic 116, .ifCond .eq 76, .goto_w 72]),
  (72, [.sipush (1), .goto 77]),
  (76, [.sipush (0), .goto_w 77])]
def hq112_0 : List (List (List Nat)) := [[[], [], [981], [], [], [982], [], [], [983], [], [], [], [], []],
  [[], [982], [], [], [], [], [], []],
  [[], [], [], [981], [1147, 1149, 44, 87, 1150], [], [], [1151, 1152, 87, 1153], [], [], [1154, 1155, 87, 1156], [], [], [1157, 1158, 87, 1159], [], []],
  [[], []],
  [[], []]]
set_option maxRecDepth 100000 in
theorem cq112_0 : mm_chkM 112 bq112_0 hq112_0 = true := by decide +kernel
def bq112_1 : List (Nat × List Instr) := [(77, [.istore 7, .iload 6, .sipush (32), .if_icmp .ne 102, .aload 0, .dup, .invokeinterface 10 23, .sipush (1), .iadd, .multianewarray 10 23, .sipush (1), .istore 5, .goto 381]),
  (102, [.iload 6, .ifCond .ne 115, .iload 4, .ifCond .lt 115, .iload 4, .ireturn])]
def hq112_1 : List (List (List Nat)) := [[[], [], [], [], [], [], [981], [], [], [981], [], [], []],
  [[], [], [], [], [], []]]
set_option maxRecDepth 100000 in
theorem cq112_1 : mm_chkM 112 bq112_1 hq112_1 = true := by decide +kernel
def bq112_2 : List (Nat × List Instr) := [(115, [.iload 6, .sipush (41), .if_icmp .ne 174, .aload 0, .invokeinterface 10 25, .ifCond .le 174, .aload 0, .dup, .invokeinterface 10 23, .sipush (1), .iadd, .multianewarray 10 23, .aload 0, .dup, .invokeinterface 10 25, .sipush (1), .isub, .multianewarray 10 25, .sipush (1), .istore 5, .aload 0, .invokeinterface 10 25, .ifCond .ne 168, .aload 0, .invokeinterface 10 26, .sipush (1), .iaload, .goto 169]),
  (168, [.sipush (-1), .goto_w 169]),
  (169, [.istore 4, .goto 381]),
  (174, [.iload 4, .ifCond .ge 212, .iload 6, .sipush (40), .if_icmp .eq 196, .iload 7, .ifCond .eq 212, .iload 5, .ifCond .eq 212, .goto_w 196])]
def hq112_2 : List (List (List Nat)) := [[[], [], [], [], [983], [], [], [], [981], [], [], [981], [], [], [983], [], [], [983], [], [], [], [983], [], [], [984], [], [], []],
  [[], []],
  [[], []],
  [[], [], [], [], [], [], [], [], [], []]]
set_option maxRecDepth 100000 in
theorem cq112_2 : mm_chkM 112 bq112_2 hq112_2 = true := by decide +kernel
def bq112_3 : List (Nat × List Instr) := [(196, [.iload 6, .sipush (40), .if_icmp .ne 223, .aload 0, .invokeinterface 10 25, .sipush (8), .if_icmp .ne 223, .goto_w 212]),
  (212, [.aload 0, .aload 0, .invokeinterface 10 23, .multianewarray 10 24, .goto 381]),
  (223, [.iload 6, .sipush (40), .if_icmp .ne 298, .aload 0, .sipush (2), .sipush (-1), .invokevirtual 117, .istore 8, .aload 0, .invokeinterface 10 25, .ifCond .le 251, .aload 0, .iload 8, .invokevirtual 118, .goto_w 251])]
def hq112_3 : List (List (List Nat)) := [[[], [], [], [], [983], [], [], []],
  [[], [], [981], [982], []],
  [[], [], [], [], [], [], [1160, 1162, 45, 87, 1163], [], [], [983], [], [], [], [1164, 1166, 46, 87, 1167], []]]
set_option maxRecDepth 100000 in
theorem cq112_3 : mm_chkM 112 bq112_3 hq112_3 = true := by decide +kernel
def bq112_4 : List (Nat × List Instr) := [(251, [.aload 0, .dup, .invokeinterface 10 23, .sipush (1), .iadd, .multianewarray 10 23, .aload 0, .dup, .invokeinterface 10 25, .sipush (1), .iadd, .multianewarray 10 25, .aload 0, .invokeinterface 10 26, .aload 0, .invokeinterface 10 25, .iload 8, .iastore, .aload 0, .invokeinterface 10 27, .aload 0, .invokeinterface 10 25, .sipush (-1), .iastore, .sipush (1), .istore 5, .goto 381]),
  (298, [.iload 6, .invokestatic 114, .ifCond .ne 330, .iload 6, .sipush (45), .if_icmp .ne 334, .aload 0, .iload 1, .aload 0, .invokeinterface 10 23, .sipush (1), .iadd, .invokevirtual 113, .invokestatic 114, .ifCond .eq 334, .goto_w 330]),
  (330, [.sipush (1), .goto 335])]
def hq112_4 : List (List (List Nat)) := [[[], [], [981], [], [], [981], [], [], [983], [], [], [983], [], [984], [], [983], [], [], [], [985], [], [983], [], [], [], [], []],
  [[], [1151, 1152, 87, 1153], [], [], [], [], [], [], [], [981], [], [], [1147, 1149, 44, 87, 1150], [1151, 1152, 87, 1153], [], []],
  [[], []]]
set_option maxRecDepth 100000 in
theorem cq112_4 : mm_chkM 112 bq112_4 hq112_4 = true := by decide +kernel
def bq112_5 : List (Nat × List Instr) := [(334, [.sipush (0), .goto_w 335]),
  (335, [.istore 8, .iload 8, .ifCond .eq 350, .aload 0, .iload 1, .invokevirtual 119, .goto 356]),
  (350, [.aload 0, .iload 1, .iload 3, .invokevirtual 120, .goto_w 356]),
  (356, [.istore 9, .aload 0, .invokeinterface 10 25, .ifCond .le 374, .aload 0, .iload 9, .invokevirtual 118, .goto 378]),
  (374, [.iload 9, .istore 4, .goto_w 378]),
  (378, [.sipush (0), .istore 5, .goto_w 381]),
  (381, [.goto 21]),
  (384, [.iload 4, .ireturn])]
def hq112_5 : List (List (List Nat)) := [[[], []],
  [[], [], [], [], [], [1168, 1170, 47, 87, 1171], []],
  [[], [], [], [1172, 1174, 48, 87, 1175], []],
  [[], [], [983], [], [], [], [1164, 1166, 46, 87, 1167], []],
  [[], [], []],
  [[], [], []],
  [[]],
  [[], []]]
set_option maxRecDepth 100000 in
theorem cq112_5 : mm_chkM 112 bq112_5 hq112_5 = true := by decide +kernel
-- LispForgeModel.at (II)I
def bq113_0 : List (Nat × List Instr) := [(0, [.iload 1, .ifCond .ge 23, .iload 2, .aload 0, .invokeinterface 10 1, .if_icmp .ge 21, .aload 0, .invokeinterface 10 5, .iload 2, .caload, .goto 22]),
  (21, [.sipush (0), .goto_w 22]),
  (22, [.ireturn]),
  (23, [.iload 2, .aload 0, .invokeinterface 10 16, .iload 1, .iaload, .if_icmp .ge 47, .aload 0, .invokeinterface 10 15, .sipush (120), .iload 1, .imul, .iload 2, .iadd, .caload, .goto 48]),
  (47, [.sipush (0), .goto_w 48]),
  (48, [.ireturn])]
def hq113_0 : List (List (List Nat)) := [[[], [], [], [], [959], [], [], [963], [], [], []],
  [[], []],
  [[]],
  [[], [], [974], [], [], [], [], [973], [], [], [], [], [], [], []],
  [[], []],
  [[]]]
set_option maxRecDepth 100000 in
theorem cq113_0 : mm_chkM 113 bq113_0 hq113_0 = true := by decide +kernel
-- LispForgeModel.isDigit (I)Z
def bq114_0 : List (Nat × List Instr) := [(0, [.iload 0, .sipush (48), .if_icmp .lt 16, .iload 0, .sipush (57), .if_icmp .gt 16, .sipush (1), .goto 17]),
  (16, [.sipush (0), .goto_w 17]),
  (17, [.freturn])]
def hq114_0 : List (List (List Nat)) := [[[], [], [], [], [], [], [], []],
  [[], []],
  [[]]]
set_option maxRecDepth 100000 in
theorem cq114_0 : mm_chkM 114 bq114_0 hq114_0 = true := by decide +kernel
end
section
-- LispForgeModel.isLetter (I)Z
def bq115_0 : List (Nat × List Instr) := [(0, [.iload 0, .sipush (97), .if_icmp .lt 16, .iload 0, .sipush (122), .if_icmp .gt 16, .sipush (1), .goto 17]),
  (16, [.sipush (0), .goto_w 17]),
  (17, [.freturn])]
def hq115_0 : List (List (List Nat)) := [[[], [], [], [], [], [], [], []],
  [[], []],
  [[]]]
set_option maxRecDepth 100000 in
theorem cq115_0 : mm_chkM 115 bq115_0 hq115_0 = true := by decide +kernel
-- LispForgeModel.isSign (I)Z
def bq116_0 : List (Nat × List Instr) := [(0, [.iload 0, .sipush (43), .if_icmp .eq 30, .iload 0, .sipush (45), .if_icmp .eq 30, .iload 0, .sipush (42), .if_icmp .eq 30, .iload 0, .sipush (60), .if_icmp .eq 30, .iload 0, .sipush (61), .if_icmp .ne 34, .goto_w 30]),
  (30, [.sipush (1), .goto 35]),
  (34, [.sipush (0), .goto_w 35]),
  (35, [.freturn])]
def hq116_0 : List (List (List Nat)) := [[[], [], [], [], [], [], [], [], [], [], [], [], [], [], [], []],
  [[], []],
  [[], []],
  [[]]]
set_option maxRecDepth 100000 in
theorem cq116_0 : mm_chkM 116 bq116_0 hq116_0 = true := by decide +kernel
-- LispForgeModel.position ()I
def bq143_0 : List (Nat × List Instr) := [(0, [.aload 0, .sipush (0), .multianewarray 10 0, .aload 0, .invokeinterface 10 3, .ireturn])]
def hq143_0 : List (List (List Nat)) := [[[], [], [958], [], [961], []]]
set_option maxRecDepth 100000 in
theorem cq143_0 : mm_chkM 143 bq143_0 hq143_0 = true := by decide +kernel
-- LispForgeModel.object (II)I
def bq144_0 : List (Nat × List Instr) := [(0, [.aload 0, .sipush (0), .multianewarray 10 0, .iload 1, .ifCond .lt 27, .iload 1, .aload 0, .invokeinterface 10 2, .if_icmp .ge 27, .aload 0, .invokeinterface 10 6, .iload 1, .iaload, .sipush (2), .if_icmp .ne 29, .goto_w 27]),
  (27, [.sipush (-1), .ireturn])]
def hq144_0 : List (List (List Nat)) := [[[], [], [958], [], [], [], [], [960], [], [], [964], [], [], [], [], []],
  [[], []]]
set_option maxRecDepth 100000 in
theorem cq144_0 : mm_chkM 144 bq144_0 hq144_0 = true := by decide +kernel
def bq144_1 : List (Nat × List Instr) := [(29, [.sipush (1), .aload 0, .invokeinterface 10 7, .iload 1, .iaload, .invokestatic 145, .iadd, .istore 3, .sipush (1), .iload 3, .iadd, .istore 4, .iload 4, .sipush (3), .iadd, .istore 5, .iload 5, .aload 0, .invokeinterface 10 9, .iload 1, .iaload, .iadd, .istore 6, .iload 2, .ifCond .ne 74, .aload 0, .invokeinterface 10 6, .iload 1, .iaload, .ireturn]),
  (74, [.iload 2, .ifCond .le 97, .iload 2, .iload 4, .if_icmp .ge 97, .aload 0, .invokeinterface 10 7, .iload 1, .iaload, .iload 2, .sipush (1), .isub, .invokestatic 146, .ireturn])]
def hq144_1 : List (List (List Nat)) := [[[], [], [965], [], [], [1269, 1270, 87, 1271], [], [], [], [], [], [], [], [], [], [], [], [], [967], [], [], [], [], [], [], [], [964], [], [], []],
  [[], [], [], [], [], [], [965], [], [], [], [], [], [1274, 1275, 87, 1276], []]]
set_option maxRecDepth 100000 in
theorem cq144_1 : mm_chkM 144 bq144_1 hq144_1 = true := by decide +kernel
def bq144_2 : List (Nat × List Instr) := [(97, [.iload 2, .iload 4, .if_icmp .lt 150, .iload 2, .iload 5, .if_icmp .ge 150, .iload 2, .iload 4, .if_icmp .ne 124, .aload 0, .invokeinterface 10 8, .iload 1, .iaload, .goto 149]),
  (124, [.aload 0, .invokeinterface 10 9, .iload 1, .iaload, .iload 2, .iload 4, .sipush (1), .iadd, .if_icmp .ne 143, .sipush (8), .goto 144]),
  (143, [.sipush (0), .goto_w 144]),
  (144, [.ishr, .sipush (255), .iand, .goto_w 149]),
  (149, [.ireturn])]
def hq144_2 : List (List (List Nat)) := [[[], [], [], [], [], [], [], [], [], [], [966], [], [], []],
  [[], [967], [], [], [], [], [], [], [], [], []],
  [[], []],
  [[], [], [], []],
  [[]]]
set_option maxRecDepth 100000 in
theorem cq144_2 : mm_chkM 144 bq144_2 hq144_2 = true := by decide +kernel
def bq144_3 : List (Nat × List Instr) := [(150, [.iload 2, .iload 5, .if_icmp .lt 182, .iload 2, .iload 6, .if_icmp .ge 182, .aload 0, .invokeinterface 10 10, .sipush (200), .iload 1, .imul, .iload 2, .iadd, .iload 5, .isub, .baload, .sipush (255), .iand, .ireturn]),
  (182, [.iload 2, .iload 6, .if_icmp .ne 195, .aload 0, .invokeinterface 10 11, .iload 1, .iaload, .ireturn]),
  (195, [.iload 6, .sipush (1), .iadd, .istore 7, .sipush (0), .istore 8, .goto_w 204])]
def hq144_3 : List (List (List Nat)) := [[[], [], [], [], [], [], [], [968], [], [], [], [], [], [], [], [], [], [], []],
  [[], [], [], [], [969], [], [], []],
  [[], [], [], [], [], [], []]]
set_option maxRecDepth 100000 in
theorem cq144_3 : mm_chkM 144 bq144_3 hq144_3 = true := by decide +kernel
def bq144_4 : List (Nat × List Instr) := [(204, [.iload 8, .aload 0, .invokeinterface 10 11, .iload 1, .iaload, .if_icmp .ge 324, .sipush (50), .iload 1, .imul, .iload 8, .iadd, .istore 9, .sipush (3), .aload 0, .invokeinterface 10 13, .iload 9, .iaload, .invokestatic 145, .iadd, .istore 10, .iload 2, .iload 7, .if_icmp .lt 311, .iload 2, .iload 7, .iload 10, .iadd, .if_icmp .ge 311, .iload 2, .iload 7, .if_icmp .ne 272, .aload 0, .invokeinterface 10 12, .iload 9, .iaload, .sipush (8), .ishr, .goto 310])]
def hq144_4 : List (List (List Nat)) := [[[], [], [969], [], [], [], [], [], [], [], [], [], [], [], [971], [], [], [1269, 1270, 87, 1271], [], [], [], [], [], [], [], [], [], [], [], [], [], [], [970], [], [], [], [], []]]
set_option maxRecDepth 100000 in
theorem cq144_4 : mm_chkM 144 bq144_4 hq144_4 = true := by decide +kernel
def bq144_5 : List (Nat × List Instr) := [(272, [.iload 2, .iload 7, .sipush (1), .iadd, .if_icmp .ne 294, .aload 0, .invokeinterface 10 12, .iload 9, .iaload, .sipush (255), .iand, .goto 310]),
  (294, [.aload 0, .invokeinterface 10 13, .iload 9, .iaload, .iload 2, .iload 7, .isub, .sipush (2), .isub, .invokestatic 146, .goto_w 310]),
  (310, [.ireturn]),
  (311, [.iload 7, .iload 10, .iadd, .istore 7, .iinc 8 (1), .goto 204]),
  (324, [.iload 2, .sipush (-1), .if_icmp .ne 334, .iload 7, .goto 335]),
  (334, [.sipush (-1), .goto_w 335]),
  (335, [.ireturn])]
def hq144_5 : List (List (List Nat)) := [[[], [], [], [], [], [], [970], [], [], [], [], []],
  [[], [971], [], [], [], [], [], [], [], [1274, 1275, 87, 1276], []],
  [[]],
  [[], [], [], [], [], []],
  [[], [], [], [], []],
  [[], []],
  [[]]]
set_option maxRecDepth 100000 in
theorem cq144_5 : mm_chkM 144 bq144_5 hq144_5 = true := by decide +kernel
-- LispForgeModel.clear ()V
def bq147_0 : List (Nat × List Instr) := [(0, [.aload 0, .sipush (0), .multianewarray 10 0, .aload 0, .sipush (0), .multianewarray 10 2, .return_])]
def hq147_0 : List (List (List Nat)) := [[[], [], [958], [], [], [960], []]]
set_option maxRecDepth 100000 in
theorem cq147_0 : mm_chkM 147 bq147_0 hq147_0 = true := by decide +kernel
-- LispForgeModel.link ()I
def bq148_0 : List (Nat × List Instr) := [(0, [.aload 0, .sipush (0), .sipush (0), .invokevirtual 149, .istore 1, .aload 0, .iload 1, .ifCond .ge 16, .sipush (1), .goto 17]),
  (16, [.sipush (0), .goto_w 17]),
  (17, [.multianewarray 10 4, .aload 0, .sipush (0), .multianewarray 10 43, .aload 0, .invokeinterface 10 4, .ifCond .ne 44, .aload 0, .invokeinterface 10 44, .sipush (0), .iload 1, .iastore, .aload 0, .sipush (1), .multianewarray 10 43, .goto_w 44]),
  (44, [.sipush (0), .istore 2, .goto_w 46])]
def hq148_0 : List (List (List Nat)) := [[[], [], [], [1285, 1287, 68, 87, 1288], [], [], [], [], [], []],
  [[], []],
  [[962], [], [], [1001], [], [962], [], [], [1002], [], [], [], [], [], [1001], []],
  [[], [], []]]
set_option maxRecDepth 100000 in
theorem cq148_0 : mm_chkM 148 bq148_0 hq148_0 = true := by decide +kernel
def bq148_1 : List (Nat × List Instr) := [(46, [.iload 2, .aload 0, .invokeinterface 10 43, .if_icmp .ge 81, .aload 0, .invokeinterface 10 4, .ifCond .ne 81, .aload 0, .aload 0, .aload 0, .invokeinterface 10 44, .iload 2, .iaload, .invokevirtual 150, .multianewarray 10 4, .iinc 2 (1), .goto 46]),
  (81, [.sipush (0), .istore 2, .sipush (0), .istore 3, .goto_w 85]),
  (85, [.iload 3, .aload 0, .invokeinterface 10 43, .if_icmp .ge 120, .aload 0, .invokeinterface 10 45, .iload 3, .iload 2, .iastore, .iload 2, .aload 0, .invokeinterface 10 9, .aload 0, .invokeinterface 10 44, .iload 3, .iaload, .iaload, .iadd, .istore 2, .iinc 3 (1), .goto 85])]
def hq148_1 : List (List (List Nat)) := [[[], [], [1001], [], [], [962], [], [], [], [], [1002], [], [], [1289, 1291, 69, 87, 1292], [962], [], []],
  [[], [], [], [], []],
  [[], [], [1001], [], [], [1003], [], [], [], [], [], [967], [], [1002], [], [], [], [], [], [], []]]
set_option maxRecDepth 100000 in
theorem cq148_1 : mm_chkM 148 bq148_1 hq148_1 = true := by decide +kernel
def bq148_2 : List (Nat × List Instr) := [(120, [.aload 0, .aload 0, .invokeinterface 10 4, .ifCond .ne 139, .iload 2, .sipush (600), .if_icmp .le 139, .sipush (4), .goto 143]),
  (139, [.aload 0, .invokeinterface 10 4, .goto_w 143]),
  (143, [.multianewarray 10 4, .aload 0, .aload 0, .invokeinterface 10 4, .ifCond .le 158, .sipush (1), .goto 159]),
  (158, [.sipush (0), .goto_w 159]),
  (159, [.multianewarray 10 0, .aload 0, .invokeinterface 10 0, .ifCond .le 171, .sipush (0), .ireturn]),
  (171, [.sipush (0), .istore 3, .goto_w 173])]
def hq148_2 : List (List (List Nat)) := [[[], [], [962], [], [], [], [], [], []],
  [[], [962], []],
  [[962], [], [], [962], [], [], []],
  [[], []],
  [[958], [], [958], [], [], []],
  [[], [], []]]
set_option maxRecDepth 100000 in
theorem cq148_2 : mm_chkM 148 bq148_2 hq148_2 = true := by decide +kernel
def bq148_3 : List (Nat × List Instr) := [(173, [.iload 3, .aload 0, .invokeinterface 10 43, .if_icmp .ge 203, .aload 0, .aload 0, .invokeinterface 10 44, .iload 3, .iaload, .aload 0, .invokeinterface 10 45, .iload 3, .iaload, .invokevirtual 152, .iinc 3 (1), .goto 173]),
  (203, [.aload 0, .iload 2, .multianewarray 10 46, .aload 0, .invokevirtual 155, .iload 2, .ireturn])]
def hq148_3 : List (List (List Nat)) := [[[], [], [1001], [], [], [], [1002], [], [], [], [1003], [], [], [1297, 1299, 71, 87, 1300], [], []],
  [[], [], [1004], [], [1308, 1310, 73, 87, 1311], [], []]]
set_option maxRecDepth 100000 in
theorem cq148_3 : mm_chkM 148 bq148_3 hq148_3 = true := by decide +kernel
-- LispForgeModel.latest (II)I
def bq149_0 : List (Nat × List Instr) := [(0, [.aload 0, .invokeinterface 10 2, .sipush (1), .isub, .istore 3, .goto_w 7]),
  (7, [.iload 3, .ifCond .lt 37, .aload 0, .invokeinterface 10 6, .iload 3, .iaload, .iload 1, .if_icmp .ne 31, .aload 0, .invokeinterface 10 7, .iload 3, .iaload, .iload 2, .if_icmp .eq 37, .goto_w 31]),
  (31, [.iinc 3 (-1), .goto 7]),
  (37, [.iload 3, .ireturn])]
def hq149_0 : List (List (List Nat)) := [[[], [960], [], [], [], []],
  [[], [], [], [964], [], [], [], [], [], [965], [], [], [], [], []],
  [[], []],
  [[], []]]
set_option maxRecDepth 100000 in
theorem cq149_0 : mm_chkM 149 bq149_0 hq149_0 = true := by decide +kernel
-- LispForgeModel.begin ()V
def bq155_0 : List (Nat × List Instr) := [(0, [.aload 0, .sipush (1), .multianewarray 10 48, .aload 0, .sipush (0), .multianewarray 10 49, .aload 0, .sipush (0), .multianewarray 10 50, .aload 0, .sipush (0), .multianewarray 10 51, .aload 0, .sipush (0), .multianewarray 10 52, .aload 0, .sipush (0), .multianewarray 10 53, .return_])]
def hq155_0 : List (List (List Nat)) := [[[], [], [1006], [], [], [1007], [], [], [1008], [], [], [1009], [], [], [1010], [], [], [1011], []]]
set_option maxRecDepth 100000 in
theorem cq155_0 : mm_chkM 155 bq155_0 hq155_0 = true := by decide +kernel
-- LispForgeModel.failure ()I
def bq156_0 : List (Nat × List Instr) := [(0, [.aload 0, .sipush (0), .multianewarray 10 0, .aload 0, .invokeinterface 10 4, .ireturn])]
def hq156_0 : List (List (List Nat)) := [[[], [], [958], [], [962], []]]
set_option maxRecDepth 100000 in
theorem cq156_0 : mm_chkM 156 bq156_0 hq156_0 = true := by decide +kernel
end
section
-- LispForgeModel.image (I)I
def bq157_0 : List (Nat × List Instr) := [(0, [.aload 0, .sipush (0), .multianewarray 10 0, .iload 1, .sipush (-1), .if_icmp .ne 17, .aload 0, .invokeinterface 10 46, .goto 43]),
  (17, [.iload 1, .ifCond .lt 42, .iload 1, .aload 0, .invokeinterface 10 46, .if_icmp .ge 42, .aload 0, .invokeinterface 10 47, .iload 1, .baload, .sipush (255), .iand, .goto 43]),
  (42, [.sipush (-1), .goto_w 43]),
  (43, [.ireturn])]
def hq157_0 : List (List (List Nat)) := [[[], [], [958], [], [], [], [], [1004], []],
  [[], [], [], [], [1004], [], [], [1005], [], [], [], [], []],
  [[], []],
  [[]]]
set_option maxRecDepth 100000 in
theorem cq157_0 : mm_chkM 157 bq157_0 hq157_0 = true := by decide +kernel
-- LispForgeModel.restart ()Z
def bq158_0 : List (Nat × List Instr) := [(0, [.aload 0, .sipush (0), .multianewarray 10 0, .aload 0, .invokeinterface 10 46, .ifCond .ne 14, .sipush (0), .freturn]),
  (14, [.aload 0, .invokevirtual 155, .sipush (1), .freturn])]
def hq158_0 : List (List (List Nat)) := [[[], [], [958], [], [1004], [], [], []],
  [[], [1308, 1310, 73, 87, 1311], [], []]]
set_option maxRecDepth 100000 in
theorem cq158_0 : mm_chkM 158 bq158_0 hq158_0 = true := by decide +kernel
-- LispForgeModel.run (I)I
def bq159_0 : List (Nat × List Instr) := [(0, [.aload 0, .iload 1, .ifCond .lt 12, .iload 1, .sipush (500), .if_icmp .le 16, .goto_w 12]),
  (12, [.sipush (1), .goto 17]),
  (16, [.sipush (0), .goto_w 17]),
  (17, [.multianewarray 10 0, .sipush (0), .istore 2, .goto_w 22]),
  (22, [.aload 0, .invokeinterface 10 0, .ifCond .ne 52, .iload 2, .iload 1, .if_icmp .ge 52, .aload 0, .invokeinterface 10 48, .sipush (1), .if_icmp .ne 52, .aload 0, .invokevirtual 160, .iinc 2 (1), .goto 22]),
  (52, [.iload 2, .ireturn])]
def hq159_0 : List (List (List Nat)) := [[[], [], [], [], [], [], []],
  [[], []],
  [[], []],
  [[958], [], [], []],
  [[], [958], [], [], [], [], [], [1006], [], [], [], [1328, 1330, 74, 87, 1331], [], []],
  [[], []]]
set_option maxRecDepth 100000 in
theorem cq159_0 : mm_chkM 159 bq159_0 hq159_0 = true := by decide +kernel
-- LispForgeModel.about (I)I
def bq164_0 : List (Nat × List Instr) := [(0, [.aload 0, .sipush (0), .multianewarray 10 0, .iload 1, .lookupswitch 74 #[(0, 44), (1, 49), (2, 54), (3, 59), (4, 64), (5, 69)]]),
  (44, [.aload 0, .invokeinterface 10 48, .ireturn]),
  (49, [.aload 0, .invokeinterface 10 49, .ireturn]),
  (54, [.aload 0, .invokeinterface 10 50, .ireturn]),
  (59, [.aload 0, .invokeinterface 10 51, .ireturn]),
  (64, [.aload 0, .invokeinterface 10 52, .ireturn]),
  (69, [.aload 0, .invokeinterface 10 53, .ireturn]),
  (74, [.sipush (-1), .ireturn])]
def hq164_0 : List (List (List Nat)) := [[[], [], [958], [], []],
  [[], [1006], []],
  [[], [1007], []],
  [[], [1008], []],
  [[], [1009], []],
  [[], [1010], []],
  [[], [1011], []],
  [[], []]]
set_option maxRecDepth 100000 in
theorem cq164_0 : mm_chkM 164 bq164_0 hq164_0 = true := by decide +kernel
-- LispForgeModel.stack (I)I
def bq165_0 : List (Nat × List Instr) := [(0, [.aload 0, .sipush (0), .multianewarray 10 0, .iload 1, .ifCond .lt 26, .iload 1, .aload 0, .invokeinterface 10 51, .if_icmp .ge 26, .aload 0, .invokeinterface 10 54, .iload 1, .iaload, .goto 27]),
  (26, [.sipush (0), .goto_w 27]),
  (27, [.ireturn])]
def hq165_0 : List (List (List Nat)) := [[[], [], [958], [], [], [], [], [1009], [], [], [1012], [], [], []],
  [[], []],
  [[]]]
set_option maxRecDepth 100000 in
theorem cq165_0 : mm_chkM 165 bq165_0 hq165_0 = true := by decide +kernel
-- LispForgeModel.top ()I
def bq166_0 : List (Nat × List Instr) := [(0, [.aload 0, .sipush (0), .multianewarray 10 0, .aload 0, .invokeinterface 10 51, .ifCond .le 26, .aload 0, .invokeinterface 10 54, .aload 0, .invokeinterface 10 51, .sipush (1), .isub, .iaload, .goto 27]),
  (26, [.sipush (0), .goto_w 27]),
  (27, [.ireturn])]
def hq166_0 : List (List (List Nat)) := [[[], [], [958], [], [1009], [], [], [1012], [], [1009], [], [], [], []],
  [[], []],
  [[]]]
set_option maxRecDepth 100000 in
theorem cq166_0 : mm_chkM 166 bq166_0 hq166_0 = true := by decide +kernel
-- LispForgeLaw.law ([I)Z
def bq167_0 : List (Nat × List Instr) := [(0, [.new 0, .dup, .invokevirtual 0, .astore 1, .new 10, .dup, .invokevirtual 108, .astore 2, .sipush (1), .newarray .long, .astore 3, .sipush (0), .istore 4, .goto_w 23]),
  (23, [.iload 4, .aload 0, .arraylength, .sipush (3), .isub, .if_icmp .gt 486, .aload 0, .iload 4, .iaload, .sipush (15), .iand, .lookupswitch 480 #[(0, 104), (1, 161), (2, 205), (3, 218), (4, 255), (5, 266), (6, 310), (7, 323), (8, 348), (9, 361), (10, 417), (11, 442), (12, 467)]])]
def hq167_0 : List (List (List Nat)) := [[[99, 100, 79], [], [101, 102, 79, 103], [], [952, 953, 87], [], [954, 955, 87, 956], [], [], [1357], [], [], [], []],
  [[], [], [], [], [], [], [], [], [], [], [], []]]
set_option maxRecDepth 100000 in
theorem cq167_0 : mm_chkM 167 bq167_0 hq167_0 = true := by decide +kernel
def bq167_1 : List (Nat × List Instr) := [(104, [.aload 1, .aload 0, .iload 4, .sipush (1), .iadd, .iaload, .i2l, .sipush (32), .lshl, .aload 0, .iload 4, .sipush (2), .iadd, .iaload, .i2l, .jsr (4294967295), .land, .lor, .invokevirtual 8, .aload 2, .aload 0, .iload 4, .sipush (1), .iadd, .iaload, .i2l, .sipush (32), .lshl, .aload 0, .iload 4, .sipush (2), .iadd, .iaload, .i2l, .jsr (4294967295), .land, .lor, .invokevirtual 110, .if_icmp .eq 480, .sipush (0), .freturn])]
def hq167_1 : List (List (List Nat)) := [[[], [], [], [], [], [], [], [], [], [], [], [], [], [], [], [1356], [], [], [313, 314, 315, 79, 316], [], [], [], [], [], [], [], [], [], [], [], [], [], [], [], [1356], [], [], [1135, 1136, 1137, 87, 1138], [], [], []]]
set_option maxRecDepth 100000 in
theorem cq167_1 : mm_chkM 167 bq167_1 hq167_1 = true := by decide +kernel
def bq167_2 : List (Nat × List Instr) := [(161, [.aload 1, .aload 3, .putstatic 168, .istore 5, .aload 2, .invokevirtual 111, .istore 6, .aload 2, .invokevirtual 109, .iload 5, .if_icmp .eq 185, .sipush (0), .freturn]),
  (185, [.iload 5, .ifCond .ne 202, .aload 3, .sipush (0), .laload, .iload 6, .i2l, .lcmp, .ifCond .eq 202, .sipush (0), .freturn]),
  (202, [.goto 480]),
  (205, [.aload 1, .invokevirtual 12, .aload 2, .invokevirtual 143, .if_icmp .eq 480, .sipush (0), .freturn])]
def hq167_2 : List (List (List Nat)) := [[[], [], [388, 389, 78, 390], [], [], [1139, 1140, 1141, 87, 1142], [], [], [1131, 1132, 1133, 87, 1134], [], [], [], []],
  [[], [], [], [], [], [], [], [], [], [], []],
  [[]],
  [[], [328, 329, 330, 79, 331], [], [1261, 1262, 1263, 87, 1264], [], [], []]]
set_option maxRecDepth 100000 in
theorem cq167_2 : mm_chkM 167 bq167_2 hq167_2 = true := by decide +kernel
def bq167_3 : List (Nat × List Instr) := [(218, [.aload 1, .aload 0, .iload 4, .sipush (1), .iadd, .iaload, .aload 0, .iload 4, .sipush (2), .iadd, .iaload, .invokevirtual 13, .aload 2, .aload 0, .iload 4, .sipush (1), .iadd, .iaload, .aload 0, .iload 4, .sipush (2), .iadd, .iaload, .invokevirtual 144, .if_icmp .eq 480, .sipush (0), .freturn]),
  (255, [.aload 1, .invokevirtual 17, .aload 2, .invokevirtual 147, .goto 480]),
  (266, [.aload 1, .aload 3, .putstatic 169, .istore 5, .aload 2, .invokevirtual 148, .istore 6, .aload 2, .invokevirtual 109, .iload 5, .if_icmp .eq 290, .sipush (0), .freturn])]
def hq167_3 : List (List (List Nat)) := [[[], [], [], [], [], [], [], [], [], [], [], [332, 333, 334, 79, 335], [], [], [], [], [], [], [], [], [], [], [], [1265, 1266, 1267, 87, 1268], [], [], []],
  [[], [348, 349, 350, 79, 351], [], [1277, 1278, 1279, 87, 1280], []],
  [[], [], [850, 851, 78, 852], [], [], [1281, 1282, 1283, 87, 1284], [], [], [1131, 1132, 1133, 87, 1134], [], [], [], []]]
set_option maxRecDepth 100000 in
theorem cq167_3 : mm_chkM 167 bq167_3 hq167_3 = true := by decide +kernel
def bq167_4 : List (Nat × List Instr) := [(290, [.iload 5, .ifCond .ne 307, .aload 3, .sipush (0), .laload, .iload 6, .i2l, .lcmp, .ifCond .eq 307, .sipush (0), .freturn]),
  (307, [.goto 480]),
  (310, [.aload 1, .invokevirtual 19, .aload 2, .invokevirtual 156, .if_icmp .eq 480, .sipush (0), .freturn]),
  (323, [.aload 1, .aload 0, .iload 4, .sipush (1), .iadd, .iaload, .invokevirtual 20, .aload 2, .aload 0, .iload 4, .sipush (1), .iadd, .iaload, .invokevirtual 157, .if_icmp .eq 480, .sipush (0), .freturn]),
  (348, [.aload 1, .invokevirtual 21, .aload 2, .invokevirtual 158, .if_icmp .eq 480, .sipush (0), .freturn])]
def hq167_4 : List (List (List Nat)) := [[[], [], [], [], [], [], [], [], [], [], []],
  [[]],
  [[], [356, 357, 358, 79, 359], [], [1312, 1313, 1314, 87, 1315], [], [], []],
  [[], [], [], [], [], [], [360, 361, 362, 79, 363], [], [], [], [], [], [], [1316, 1317, 1318, 87, 1319], [], [], []],
  [[], [364, 365, 366, 79, 367], [], [1320, 1321, 1322, 87, 1323], [], [], []]]
set_option maxRecDepth 100000 in
theorem cq167_4 : mm_chkM 167 bq167_4 hq167_4 = true := by decide +kernel
def bq167_5 : List (Nat × List Instr) := [(361, [.aload 1, .aload 0, .iload 4, .sipush (1), .iadd, .iaload, .aload 3, .putstatic 170, .istore 5, .aload 2, .aload 0, .iload 4, .sipush (1), .iadd, .iaload, .invokevirtual 159, .istore 6, .aload 2, .invokevirtual 109, .iload 5, .if_icmp .eq 397, .sipush (0), .freturn]),
  (397, [.iload 5, .ifCond .ne 414, .aload 3, .sipush (0), .laload, .iload 6, .i2l, .lcmp, .ifCond .eq 414, .sipush (0), .freturn]),
  (414, [.goto 480])]
def hq167_5 : List (List (List Nat)) := [[[], [], [], [], [], [], [], [900, 901, 78, 902], [], [], [], [], [], [], [], [1324, 1325, 1326, 87, 1327], [], [], [1131, 1132, 1133, 87, 1134], [], [], [], []],
  [[], [], [], [], [], [], [], [], [], [], []],
  [[]]]
set_option maxRecDepth 100000 in
theorem cq167_5 : mm_chkM 167 bq167_5 hq167_5 = true := by decide +kernel
def bq167_6 : List (Nat × List Instr) := [(417, [.aload 1, .aload 0, .iload 4, .sipush (1), .iadd, .iaload, .invokevirtual 23, .aload 2, .aload 0, .iload 4, .sipush (1), .iadd, .iaload, .invokevirtual 164, .if_icmp .eq 480, .sipush (0), .freturn]),
  (442, [.aload 1, .aload 0, .iload 4, .sipush (1), .iadd, .iaload, .invokevirtual 24, .aload 2, .aload 0, .iload 4, .sipush (1), .iadd, .iaload, .invokevirtual 165, .if_icmp .eq 480, .sipush (0), .freturn]),
  (467, [.aload 1, .invokevirtual 26, .aload 2, .invokevirtual 166, .if_icmp .eq 480, .sipush (0), .freturn]),
  (480, [.iinc 4 (3), .goto 23]),
  (486, [.sipush (1), .freturn])]
def hq167_6 : List (List (List Nat)) := [[[], [], [], [], [], [], [372, 373, 374, 79, 375], [], [], [], [], [], [], [1344, 1345, 1346, 87, 1347], [], [], []],
  [[], [], [], [], [], [], [376, 377, 378, 79, 379], [], [], [], [], [], [], [1348, 1349, 1350, 87, 1351], [], [], []],
  [[], [384, 385, 386, 79, 387], [], [1352, 1353, 1354, 87, 1355], [], [], []],
  [[], []],
  [[], []]]
set_option maxRecDepth 100000 in
theorem cq167_6 : mm_chkM 167 bq167_6 hq167_6 = true := by decide +kernel
-- LispForgeLaw.compile (LLispForge;[J)I
def bq168_0 : List (Nat × List Instr) := [(0, [.aload 1, .sipush (0), .aload 0, .goto_w 3]),
  (6, [.i2l, .lastore, .goto 20]),
  (20, [.sipush (0), .ireturn])]
def hq168_0 : List (List (List Nat)) := [[[], [], [], []],
  [[], [], []],
  [[], []]]
set_option maxRecDepth 100000 in
theorem cq168_0 : mm_chkM 168 bq168_0 hq168_0 = true := by decide +kernel
-- LispForgeLaw.link (LLispForge;[J)I
def bq169_0 : List (Nat × List Instr) := [(0, [.aload 1, .sipush (0), .aload 0, .goto_w 3]),
  (6, [.i2l, .lastore, .goto 14]),
  (14, [.sipush (0), .ireturn])]
def hq169_0 : List (List (List Nat)) := [[[], [], [], []],
  [[], [], []],
  [[], []]]
set_option maxRecDepth 100000 in
theorem cq169_0 : mm_chkM 169 bq169_0 hq169_0 = true := by decide +kernel
-- LispForgeLaw.run (LLispForge;I[J)I
def bq170_0 : List (Nat × List Instr) := [(0, [.aload 2, .sipush (0), .aload 0, .iload 1, .goto_w 4]),
  (7, [.i2l, .lastore, .goto 15]),
  (15, [.sipush (0), .ireturn])]
def hq170_0 : List (List (List Nat)) := [[[], [], [], [], []],
  [[], [], []],
  [[], []]]
set_option maxRecDepth 100000 in
theorem cq170_0 : mm_chkM 170 bq170_0 hq170_0 = true := by decide +kernel
end
section
/-- all blocks that are used: (method, place, steps) -/
def mm_bqs : List (Nat × List (Nat × List Instr)) := [(0, bq0_0), (1, bq1_0), (3, bq3_0), (4, bq4_0), (5, bq5_0), (6, bq6_0), (7, bq7_0), (8, bq8_0), (8, bq8_1), (9, bq9_0), (10, bq10_0), (11, bq11_0), (12, bq12_0), (13, bq13_0), (14, bq14_0), (15, bq15_0), (16, bq16_0), (17, bq17_0), (18, bq18_0), (19, bq19_0), (20, bq20_0), (21, bq21_0), (22, bq22_0), (23, bq23_0), (24, bq24_0), (25, bq25_0), (26, bq26_0), (27, bq27_0), (27, bq27_1), (28, bq28_0), (29, bq29_0), (30, bq30_0), (30, bq30_1), (31, bq31_0), (32, bq32_0), (32, bq32_1), (33, bq33_0), (34, bq34_0), (35, bq35_0), (36, bq36_0), (37, bq37_0), (38, bq38_0), (39, bq39_0), (40, bq40_0), (41, bq41_0), (42, bq42_0), (43, bq43_0), (59, bq59_0), (87, bq87_0), (88, bq88_0), (88, bq88_1), (97, bq97_0), (98, bq98_0), (108, bq108_0), (109, bq109_0), (110, bq110_0), (110, bq110_1), (111, bq111_0), (111, bq111_1), (111, bq111_2), (111, bq111_3), (111, bq111_4), (111, bq111_5), (112, bq112_0), (112, bq112_1), (112, bq112_2), (112, bq112_3), (112, bq112_4), (112, bq112_5), (113, bq113_0), (114, bq114_0), (115, bq115_0), (116, bq116_0), (143, bq143_0), (144, bq144_0), (144, bq144_1), (144, bq144_2), (144, bq144_3), (144, bq144_4), (144, bq144_5), (147, bq147_0), (148, bq148_0), (148, bq148_1), (148, bq148_2), (148, bq148_3), (149, bq149_0), (155, bq155_0), (156, bq156_0), (157, bq157_0), (158, bq158_0), (159, bq159_0), (164, bq164_0), (165, bq165_0), (166, bq166_0), (167, bq167_0), (167, bq167_1), (167, bq167_2), (167, bq167_3), (167, bq167_4), (167, bq167_5), (167, bq167_6), (168, bq168_0), (169, bq169_0), (170, bq170_0)]
theorem mm_bqs_ok : ∀ q ∈ mm_bqs, ∃ hs, mm_chkM q.1 q.2 hs = true := List.forall_mem_cons.mpr ⟨⟨hq0_0, cq0_0⟩, List.forall_mem_cons.mpr ⟨⟨hq1_0, cq1_0⟩, List.forall_mem_cons.mpr ⟨⟨hq3_0, cq3_0⟩, List.forall_mem_cons.mpr ⟨⟨hq4_0, cq4_0⟩, List.forall_mem_cons.mpr ⟨⟨hq5_0, cq5_0⟩, List.forall_mem_cons.mpr ⟨⟨hq6_0, cq6_0⟩, List.forall_mem_cons.mpr ⟨⟨hq7_0, cq7_0⟩, List.forall_mem_cons.mpr ⟨⟨hq8_0, cq8_0⟩, List.forall_mem_cons.mpr ⟨⟨hq8_1, cq8_1⟩, List.forall_mem_cons.mpr ⟨⟨hq9_0, cq9_0⟩, List.forall_mem_cons.mpr ⟨⟨hq10_0, cq10_0⟩, List.forall_mem_cons.mpr ⟨⟨hq11_0, cq11_0⟩, List.forall_mem_cons.mpr ⟨⟨hq12_0, cq12_0⟩, List.forall_mem_cons.mpr ⟨⟨hq13_0, cq13_0⟩, List.forall_mem_cons.mpr ⟨⟨hq14_0, cq14_0⟩, List.forall_mem_cons.mpr ⟨⟨hq15_0, cq15_0⟩, List.forall_mem_cons.mpr ⟨⟨hq16_0, cq16_0⟩, List.forall_mem_cons.mpr ⟨⟨hq17_0, cq17_0⟩, List.forall_mem_cons.mpr ⟨⟨hq18_0, cq18_0⟩, List.forall_mem_cons.mpr ⟨⟨hq19_0, cq19_0⟩, List.forall_mem_cons.mpr ⟨⟨hq20_0, cq20_0⟩, List.forall_mem_cons.mpr ⟨⟨hq21_0, cq21_0⟩, List.forall_mem_cons.mpr ⟨⟨hq22_0, cq22_0⟩, List.forall_mem_cons.mpr ⟨⟨hq23_0, cq23_0⟩, List.forall_mem_cons.mpr ⟨⟨hq24_0, cq24_0⟩, List.forall_mem_cons.mpr ⟨⟨hq25_0, cq25_0⟩, List.forall_mem_cons.mpr ⟨⟨hq26_0, cq26_0⟩, List.forall_mem_cons.mpr ⟨⟨hq27_0, cq27_0⟩, List.forall_mem_cons.mpr ⟨⟨hq27_1, cq27_1⟩, List.forall_mem_cons.mpr ⟨⟨hq28_0, cq28_0⟩, List.forall_mem_cons.mpr ⟨⟨hq29_0, cq29_0⟩, List.forall_mem_cons.mpr ⟨⟨hq30_0, cq30_0⟩, List.forall_mem_cons.mpr ⟨⟨hq30_1, cq30_1⟩, List.forall_mem_cons.mpr ⟨⟨hq31_0, cq31_0⟩, List.forall_mem_cons.mpr ⟨⟨hq32_0, cq32_0⟩, List.forall_mem_cons.mpr ⟨⟨hq32_1, cq32_1⟩, List.forall_mem_cons.mpr ⟨⟨hq33_0, cq33_0⟩, List.forall_mem_cons.mpr ⟨⟨hq34_0, cq34_0⟩, List.forall_mem_cons.mpr ⟨⟨hq35_0, cq35_0⟩, List.forall_mem_cons.mpr ⟨⟨hq36_0, cq36_0⟩, List.forall_mem_cons.mpr ⟨⟨hq37_0, cq37_0⟩, List.forall_mem_cons.mpr ⟨⟨hq38_0, cq38_0⟩, List.forall_mem_cons.mpr ⟨⟨hq39_0, cq39_0⟩, List.forall_mem_cons.mpr ⟨⟨hq40_0, cq40_0⟩, List.forall_mem_cons.mpr ⟨⟨hq41_0, cq41_0⟩, List.forall_mem_cons.mpr ⟨⟨hq42_0, cq42_0⟩, List.forall_mem_cons.mpr ⟨⟨hq43_0, cq43_0⟩, List.forall_mem_cons.mpr ⟨⟨hq59_0, cq59_0⟩, List.forall_mem_cons.mpr ⟨⟨hq87_0, cq87_0⟩, List.forall_mem_cons.mpr ⟨⟨hq88_0, cq88_0⟩, List.forall_mem_cons.mpr ⟨⟨hq88_1, cq88_1⟩, List.forall_mem_cons.mpr ⟨⟨hq97_0, cq97_0⟩, List.forall_mem_cons.mpr ⟨⟨hq98_0, cq98_0⟩, List.forall_mem_cons.mpr ⟨⟨hq108_0, cq108_0⟩, List.forall_mem_cons.mpr ⟨⟨hq109_0, cq109_0⟩, List.forall_mem_cons.mpr ⟨⟨hq110_0, cq110_0⟩, List.forall_mem_cons.mpr ⟨⟨hq110_1, cq110_1⟩, List.forall_mem_cons.mpr ⟨⟨hq111_0, cq111_0⟩, List.forall_mem_cons.mpr ⟨⟨hq111_1, cq111_1⟩, List.forall_mem_cons.mpr ⟨⟨hq111_2, cq111_2⟩, List.forall_mem_cons.mpr ⟨⟨hq111_3, cq111_3⟩, List.forall_mem_cons.mpr ⟨⟨hq111_4, cq111_4⟩, List.forall_mem_cons.mpr ⟨⟨hq111_5, cq111_5⟩, List.forall_mem_cons.mpr ⟨⟨hq112_0, cq112_0⟩, List.forall_mem_cons.mpr ⟨⟨hq112_1, cq112_1⟩, List.forall_mem_cons.mpr ⟨⟨hq112_2, cq112_2⟩, List.forall_mem_cons.mpr ⟨⟨hq112_3, cq112_3⟩, List.forall_mem_cons.mpr ⟨⟨hq112_4, cq112_4⟩, List.forall_mem_cons.mpr ⟨⟨hq112_5, cq112_5⟩, List.forall_mem_cons.mpr ⟨⟨hq113_0, cq113_0⟩, List.forall_mem_cons.mpr ⟨⟨hq114_0, cq114_0⟩, List.forall_mem_cons.mpr ⟨⟨hq115_0, cq115_0⟩, List.forall_mem_cons.mpr ⟨⟨hq116_0, cq116_0⟩, List.forall_mem_cons.mpr ⟨⟨hq143_0, cq143_0⟩, List.forall_mem_cons.mpr ⟨⟨hq144_0, cq144_0⟩, List.forall_mem_cons.mpr ⟨⟨hq144_1, cq144_1⟩, List.forall_mem_cons.mpr ⟨⟨hq144_2, cq144_2⟩, List.forall_mem_cons.mpr ⟨⟨hq144_3, cq144_3⟩, List.forall_mem_cons.mpr ⟨⟨hq144_4, cq144_4⟩, List.forall_mem_cons.mpr ⟨⟨hq144_5, cq144_5⟩, List.forall_mem_cons.mpr ⟨⟨hq147_0, cq147_0⟩, List.forall_mem_cons.mpr ⟨⟨hq148_0, cq148_0⟩, List.forall_mem_cons.mpr ⟨⟨hq148_1, cq148_1⟩, List.forall_mem_cons.mpr ⟨⟨hq148_2, cq148_2⟩, List.forall_mem_cons.mpr ⟨⟨hq148_3, cq148_3⟩, List.forall_mem_cons.mpr ⟨⟨hq149_0, cq149_0⟩, List.forall_mem_cons.mpr ⟨⟨hq155_0, cq155_0⟩, List.forall_mem_cons.mpr ⟨⟨hq156_0, cq156_0⟩, List.forall_mem_cons.mpr ⟨⟨hq157_0, cq157_0⟩, List.forall_mem_cons.mpr ⟨⟨hq158_0, cq158_0⟩, List.forall_mem_cons.mpr ⟨⟨hq159_0, cq159_0⟩, List.forall_mem_cons.mpr ⟨⟨hq164_0, cq164_0⟩, List.forall_mem_cons.mpr ⟨⟨hq165_0, cq165_0⟩, List.forall_mem_cons.mpr ⟨⟨hq166_0, cq166_0⟩, List.forall_mem_cons.mpr ⟨⟨hq167_0, cq167_0⟩, List.forall_mem_cons.mpr ⟨⟨hq167_1, cq167_1⟩, List.forall_mem_cons.mpr ⟨⟨hq167_2, cq167_2⟩, List.forall_mem_cons.mpr ⟨⟨hq167_3, cq167_3⟩, List.forall_mem_cons.mpr ⟨⟨hq167_4, cq167_4⟩, List.forall_mem_cons.mpr ⟨⟨hq167_5, cq167_5⟩, List.forall_mem_cons.mpr ⟨⟨hq167_6, cq167_6⟩, List.forall_mem_cons.mpr ⟨⟨hq168_0, cq168_0⟩, List.forall_mem_cons.mpr ⟨⟨hq169_0, cq169_0⟩, List.forall_mem_cons.mpr ⟨⟨hq170_0, cq170_0⟩, List.forall_mem_nil _⟩⟩⟩⟩⟩⟩⟩⟩⟩⟩⟩⟩⟩⟩⟩⟩⟩⟩⟩⟩⟩⟩⟩⟩⟩⟩⟩⟩⟩⟩⟩⟩⟩⟩⟩⟩⟩⟩⟩⟩⟩⟩⟩⟩⟩⟩⟩⟩⟩⟩⟩⟩⟩⟩⟩⟩⟩⟩⟩⟩⟩⟩⟩⟩⟩⟩⟩⟩⟩⟩⟩⟩⟩⟩⟩⟩⟩⟩⟩⟩⟩⟩⟩⟩⟩⟩⟩⟩⟩⟩⟩⟩⟩⟩⟩⟩⟩⟩⟩⟩⟩⟩⟩⟩
def mm_blk (mi pc : Nat) : Option (List Instr) := mm_bqs.findSome? fun q => if q.1 = mi then q.2.lookup pc else none
theorem mm_lookup_at {pc : Nat} {is : List Instr} : ∀ {bs : List (Nat × List Instr)}, bs.lookup pc = some is → ∃ k : Nat, bs[k]? = some (pc, is)
  | [], h => by simp at h
  | (a, b) :: bs, h => by
    rw [List.lookup_cons] at h
    split at h
    · rename_i hq
      cases h
      exact ⟨0, by rw [beq_iff_eq.mp hq]; rfl⟩
    · obtain ⟨k, hk⟩ := mm_lookup_at h
      exact ⟨k + 1, by simpa using hk⟩
theorem mm_blk_chk {mi pc : Nat} {is : List Instr} (h : mm_blk mi pc = some is) : ∃ hs, mm_chk mi pc is hs = true := by
  obtain ⟨q, hq, hv⟩ := List.exists_of_findSome?_eq_some h
  split at hv
  · rename_i hm
    subst hm
    obtain ⟨hs, hok⟩ := mm_bqs_ok q hq
    obtain ⟨k, hk⟩ := mm_lookup_at hv
    exact mm_chkM_of hok hk
  · cases hv
end
section
/-! AN INTERPRETER of the small machine: what it comes to is what the real machine comes to -/
/-- the step reads no constant array -/
def mm_nz (i : Instr) (st : List mm_V) : Bool := match i with
  | .arraylength => (match st with
    | .inr (.inr (.inr _)) :: _ => false
    | _ => true)
  | .iaload => (match st with
    | _ :: .inr (.inr (.inr _)) :: _ => false
    | _ => true)
  | _ => true
theorem mm_s1_nz {K : Nat → List FieldType} {Z Z' : Nat → List Int32} {i : Instr} {L : mm_L} {st : List mm_V} {h : mm_H} (hn : mm_nz i st = true) : mm_s1 K Z i L st h = mm_s1 K Z' i L st h := by
  cases i <;> first
    | rfl
    | (rename_i t; cases t <;> rfl)
    | (obtain _ | ⟨x | x | (_ | a) | j, _ | ⟨y | y | (_ | b) | j2, r⟩⟩ := st <;> first | rfl | (simp [mm_nz] at hn))
def mm_swv (d : Nat) (x : Int32) : List (Int × Int) → Nat
  | [] => d
  | (k, t) :: ps => if x = Int32.ofInt k then t.toNat else mm_swv d x ps
theorem mm_swv_of {F : Nat → Prop} {d : Nat} {x : Int32} : ∀ {ps : List (Int × Int)}, F (mm_swv d x ps) → mm_sw F d x ps
  | [], h => h
  | (k, t) :: ps, h => by
    unfold mm_swv at h
    refine ⟨fun z => ?_, fun z => ?_⟩
    · rw [if_pos z] at h; exact h
    · rw [if_neg z] at h; exact mm_swv_of h
def mm_cmpb (c : Jvm.ClassFile.Cond) (x y : Int32) : Bool := match c with
  | .eq => decide (x = y)
  | .ne => !decide (x = y)
  | .lt => decide (x < y)
  | .ge => decide (y ≤ x)
  | .gt => decide (y < x)
  | .le => decide (x ≤ y)
theorem mm_cmpb_iff {c : Jvm.ClassFile.Cond} {x y : Int32} : mm_cmpb c x y = true ↔ mm_cmp c x y := by
  cases c <;> simp [mm_cmpb, mm_cmp]
def mm_rcvb (h : mm_H) (vs : List mm_V) (ci : Nat) : Bool := match vs with
  | .inr (.inr (.inl (some a))) :: _ => (match h.1[a]? with
    | some (.inl (c, _)) => c == ci
    | _ => false)
  | _ => false
theorem mm_rcvb_of {h : mm_H} {vs : List mm_V} {ci : Nat} (hb : mm_rcvb h vs ci = true) : mm_rcv h vs ci := by
  unfold mm_rcvb at hb
  unfold mm_rcv
  split at hb
  · rename_i a r
    split at hb
    · rename_i c fs hc
      exact ⟨fs, by rw [hc, beq_iff_eq.mp hb]⟩
    · cases hb
  · cases hb
abbrev mm_EV : Type := Nat → Nat → List Instr → mm_L → List mm_V → mm_H → Option (mm_A × mm_H)
def mm_evJ (ev : mm_EV) (d mi t : Nat) (L : mm_L) (st : List mm_V) (h : mm_H) : Option (mm_A × mm_H) := (mm_blk mi t).bind fun is' => ev d mi is' L st h
def mm_evC (ev : mm_EV) (d mi : Nat) (is : List Instr) (L : mm_L) (st : List mm_V) (h : mm_H) (m : Nat) : Option (mm_A × mm_H) := match d with
  | 0 => none
  | d' + 1 => if mm_na m ≤ st.length ∧ st.length ≤ 12 ∧ mm_hd m = [] ∧ (mm_argsL (st.take (mm_na m)).reverse).length ≤ mm_ml m then (mm_blk m 0).bind fun is' => (ev d' m is' (mm_ent (mm_ml m) (st.take (mm_na m)).reverse) [] h).bind fun r => match r.1 with
    | .inl none => ev (d' + 1) mi is L (st.drop (mm_na m)) r.2
    | .inl (some v) => ev (d' + 1) mi is L (v :: st.drop (mm_na m)) r.2
    | .inr e => some (.inr e, r.2)
    else none
/-- n: how many steps at most; d: how many calls deep at most -/
def mm_ev : Nat → mm_EV
  | 0, _, _, _, _, _, _ => none
  | _ + 1, _, _, [], _, _, _ => none
  | n + 1, d, mi, i :: is, L, st, h =>
    match i with
    | .goto t => mm_evJ (mm_ev n) d mi t.toNat L st h
    | .goto_w t => mm_evJ (mm_ev n) d mi t.toNat L st h
    | .if_icmp c t => (match st with
      | .inl y :: .inl x :: r => if mm_cmpb c x y = true then mm_evJ (mm_ev n) d mi t.toNat L r h else mm_ev n d mi is L r h
      | _ => none)
    | .ifCond c t => (match st with
      | .inl x :: r => if mm_cmpb c x 0 = true then mm_evJ (mm_ev n) d mi t.toNat L r h else mm_ev n d mi is L r h
      | _ => none)
    | .ifnull t => (match st with
      | .inr (.inr (.inl q)) :: r => if q = none then mm_evJ (mm_ev n) d mi t.toNat L r h else mm_ev n d mi is L r h
      | _ => none)
    | .ifnonnull t => (match st with
      | .inr (.inr (.inl q)) :: r => if ¬ q = none then mm_evJ (mm_ev n) d mi t.toNat L r h else mm_ev n d mi is L r h
      | _ => none)
    | .if_acmp .eq t => (match st with
      | .inr (.inr (.inl q)) :: .inr (.inr (.inl p)) :: r => if p = q then mm_evJ (mm_ev n) d mi t.toNat L r h else mm_ev n d mi is L r h
      | _ => none)
    | .if_acmp .ne t => (match st with
      | .inr (.inr (.inl q)) :: .inr (.inr (.inl p)) :: r => if ¬ p = q then mm_evJ (mm_ev n) d mi t.toNat L r h else mm_ev n d mi is L r h
      | _ => none)
    | .lookupswitch df ps => (match st with
      | .inl x :: r => mm_evJ (mm_ev n) d mi (mm_swv df.toNat x ps.toList) L r h
      | _ => none)
    | .invokestatic m => mm_evC (mm_ev n) d mi is L st h m
    | .putstatic _ => none
    | .invokevirtual m => if mm_rcvb h (st.take (mm_na m)).reverse (mm_ci m) then mm_evC (mm_ev n) d mi is L st h m else none
    | .invokespecial _ => (match st with
      | .inr (.inr (.inl (some _))) :: r => if r.length ≤ 12 then mm_ev n d mi is L r h else none
      | _ => none)
    | .checkcast e => if st.length ≤ 12 ∧ 1 ≤ h.2.1 ∧ 6 ≤ h.2.2 then some (aT e, (h.1, (h.2.1 - 1, h.2.2 - 6))) else none
    | .return_ => (match st with
      | [] => some (aV, h)
      | _ => none)
    | .ireturn => (match st with
      | [.inl x] => some (aX (vI x), h)
      | _ => none)
    | .freturn => (match st with
      | [.inl x] => if x = 0 ∨ x = 1 then some (aX (vI x), h) else none
      | _ => none)
    | .lreturn => none
    | .areturn => (match st with
      | [.inr (.inr (.inl q))] => some (aX (vQ q), h)
      | _ => none)
    | .fadd => (match st with
      | .inl y :: .inl x :: r => if r.length ≤ 12 then mm_ev n d mi is L (vI (if x < y then y else x) :: r) h else none
      | _ => none)
    | .fsub => (match st with
      | .inl y :: .inl x :: r => if r.length ≤ 12 then mm_ev n d mi is L (vI (if y < x then y else x) :: r) h else none
      | _ => none)
    | i => if mm_nz i st then (match mm_s1 mm_K (fun _ => []) i L st h with
      | some o => mm_ev n d mi is o.1 o.2.1 o.2.2
      | none => none) else none
end
section
theorem mm_call_of {Z : Nat → List Int32} {n d mi m : Nat} {is : List Instr} {L : mm_L} {st : List mm_V} {h h' : mm_H} {r : mm_A} {Post : mm_A → mm_H → Prop}
    (ih : ∀ (d mi : Nat) (is : List Instr) (L : mm_L) (st : List mm_V) (h : mm_H) (r : mm_A) (h' : mm_H), mm_hd mi = [] → mm_ev n d mi is L st h = some (r, h') → ∀ Post : mm_A → mm_H → Prop, Post r h' → mm_wp mm_K Z mm_na 6 mm_ci (fun t L st h => mm_P Z (d + 6) mi t L st h Post) (mm_C Z (d + 6)) Post is L st h)
    (hh : mm_hd mi = []) (hp : Post r h')
    (hc : mm_evC (mm_ev n) d mi is L st h m = some (r, h')) :
    mm_na m ≤ st.length ∧ st.length ≤ 12 ∧ mm_C Z (d + 6) m (st.take (mm_na m)).reverse h (mm_Kt Post (mm_wp mm_K Z mm_na 6 mm_ci (fun t L st h => mm_P Z (d + 6) mi t L st h Post) (mm_C Z (d + 6)) Post is L) (st.drop (mm_na m))) := by
  cases d with
  | zero => simp [mm_evC] at hc
  | succ d =>
    unfold mm_evC at hc
    simp only at hc
    split at hc
    · rename_i hq
      obtain ⟨q1, q2, q3, q4⟩ := hq
      refine ⟨q1, q2, ?_⟩
      obtain ⟨is', hb, hc⟩ := Option.bind_eq_some_iff.mp hc
      obtain ⟨⟨r1, h1⟩, hb2, hc⟩ := Option.bind_eq_some_iff.mp hc
      obtain ⟨hs, hchk⟩ := mm_blk_chk hb
      refine mm_G_of q4 (mm_sound (d := d + 6) (by omega) is' 0 hs _ _ _ (Or.inl q3) hchk (ih d m is' _ _ _ r1 h1 q3 hb2 _ ?_))
      obtain (_ | v) | e := r1
      · exact ih (d + 1) mi is _ _ _ r h' hh hc Post hp
      · exact ih (d + 1) mi is _ _ _ r h' hh hc Post hp
      · simp only [Option.some.injEq, Prod.mk.injEq] at hc
        obtain ⟨rfl, rfl⟩ := hc
        exact hp
    · cases hc
set_option maxHeartbeats 4000000 in
theorem mm_ev_wp {Z : Nat → List Int32} : ∀ (n d mi : Nat) (is : List Instr) (L : mm_L) (st : List mm_V) (h : mm_H) (r : mm_A) (h' : mm_H), mm_hd mi = [] → mm_ev n d mi is L st h = some (r, h') → ∀ Post : mm_A → mm_H → Prop, Post r h' → mm_wp mm_K Z mm_na 6 mm_ci (fun t L st h => mm_P Z (d + 6) mi t L st h Post) (mm_C Z (d + 6)) Post is L st h := by
  intro n
  induction n with
  | zero => intro d mi is L st h r h' _ he; simp [mm_ev] at he
  | succ n ih =>
    intro d mi is L st h r h' hh he Post hp
    have jump : ∀ (t : Nat) (L : mm_L) (st : List mm_V) (h : mm_H), mm_evJ (mm_ev n) d mi t L st h = some (r, h') → mm_P Z (d + 6) mi t L st h Post := by
      intro t L st h hj
      obtain ⟨is', hb, hj⟩ := Option.bind_eq_some_iff.mp hj
      obtain ⟨hs, hchk⟩ := mm_blk_chk hb
      exact mm_sound (by omega) is' t hs L st h (Or.inl hh) hchk (ih d mi is' L st h r h' hh hj Post hp)
    cases is with
    | nil => simp [mm_ev] at he
    | cons i is =>
      have go : ∀ (L : mm_L) (st : List mm_V) (h : mm_H), mm_ev n d mi is L st h = some (r, h') → mm_wp mm_K Z mm_na 6 mm_ci (fun t L st h => mm_P Z (d + 6) mi t L st h Post) (mm_C Z (d + 6)) Post is L st h := fun L st h hj => ih d mi is L st h r h' hh hj Post hp
      unfold mm_ev at he
      unfold mm_wp
      split at he
      · exact jump _ _ _ _ he
      · exact jump _ _ _ _ he
      · split at he
        · split at he
          · rename_i hc; exact ⟨fun _ => jump _ _ _ _ he, fun z => absurd (mm_cmpb_iff.mp hc) z⟩
          · rename_i hc; exact ⟨fun z => absurd (mm_cmpb_iff.mpr z) hc, fun _ => go _ _ _ he⟩
        · cases he
      · split at he
        · split at he
          · rename_i hc; exact ⟨fun _ => jump _ _ _ _ he, fun z => absurd (mm_cmpb_iff.mp hc) z⟩
          · rename_i hc; exact ⟨fun z => absurd (mm_cmpb_iff.mpr z) hc, fun _ => go _ _ _ he⟩
        · cases he
      · split at he
        · split at he
          · rename_i hc; exact ⟨fun _ => jump _ _ _ _ he, fun z => absurd hc z⟩
          · rename_i hc; exact ⟨fun z => absurd z hc, fun _ => go _ _ _ he⟩
        · cases he
      · split at he
        · split at he
          · rename_i hc; exact ⟨fun _ => jump _ _ _ _ he, fun z => absurd z hc⟩
          · rename_i hc; exact ⟨fun z => absurd z hc, fun _ => go _ _ _ he⟩
        · cases he
      · split at he
        · split at he
          · rename_i hc; exact ⟨fun _ => jump _ _ _ _ he, fun z => absurd hc z⟩
          · rename_i hc; exact ⟨fun z => absurd z hc, fun _ => go _ _ _ he⟩
        · cases he
      · split at he
        · split at he
          · rename_i hc; exact ⟨fun _ => jump _ _ _ _ he, fun z => absurd z hc⟩
          · rename_i hc; exact ⟨fun z => absurd z hc, fun _ => go _ _ _ he⟩
        · cases he
      · split at he
        · exact mm_swv_of (jump _ _ _ _ he)
        · cases he
      · exact mm_call_of ih hh hp he
      · cases he
      · split at he
        · rename_i hrc
          obtain ⟨q1, q2, q3⟩ := mm_call_of ih hh hp he
          exact ⟨q1, q2, mm_rcvb_of hrc, q3⟩
        · cases he
      · split at he
        · split at he
          · rename_i hc; exact ⟨hc, go _ _ _ he⟩
          · cases he
        · cases he
      · split at he
        · rename_i hc
          simp only [Option.some.injEq, Prod.mk.injEq] at he
          obtain ⟨rfl, rfl⟩ := he
          exact ⟨hc.1, hc.2.1, hc.2.2, hp⟩
        · cases he
      · split at he
        · simp only [Option.some.injEq, Prod.mk.injEq] at he
          obtain ⟨rfl, rfl⟩ := he
          exact ⟨rfl, hp⟩
        · cases he
      · split at he
        · simp only [Option.some.injEq, Prod.mk.injEq] at he
          obtain ⟨rfl, rfl⟩ := he
          exact hp
        · cases he
      · split at he
        · split at he
          · rename_i hc
            simp only [Option.some.injEq, Prod.mk.injEq] at he
            obtain ⟨rfl, rfl⟩ := he
            exact ⟨hc, hp⟩
          · cases he
        · cases he
      · cases he
      · split at he
        · simp only [Option.some.injEq, Prod.mk.injEq] at he
          obtain ⟨rfl, rfl⟩ := he
          exact hp
        · cases he
      · split at he
        · split at he
          · rename_i hc; exact ⟨hc, go _ _ _ he⟩
          · cases he
        · cases he
      · split at he
        · split at he
          · rename_i hc; exact ⟨hc, go _ _ _ he⟩
          · cases he
        · cases he
      · split at he
        · rename_i hnz
          rw [mm_s1_nz (Z' := Z) hnz] at he
          split at he
          · rename_i o ho
            split <;> first
              | (rw [ho]; exact go _ _ _ he)
              | contradiction
          · cases he
        · cases he
/-- a method's contract by the interpreter -/
theorem mm_ev_G {Z : Nat → List Int32} {n d mi : Nat} {is : List Instr} {vs : List mm_V} {h h' : mm_H} {r : mm_A} {Post : mm_A → mm_H → Prop} (hh : mm_hd mi = []) (hl : (mm_argsL vs).length ≤ mm_ml mi) (hb : mm_blk mi 0 = some is) (he : mm_ev n d mi is (mm_ent (mm_ml mi) vs) [] h = some (r, h')) (hp : Post r h') : mm_G Z (d + 6) mi vs h Post := by
  obtain ⟨hs, hchk⟩ := mm_blk_chk hb
  exact mm_G_of hl (mm_sound (by omega) is 0 hs _ _ _ (Or.inl hh) hchk (mm_ev_wp n d mi is _ _ _ r h' hh he Post hp))
/-- run the method mi -/
def mm_run (n d mi : Nat) (vs : List mm_V) (h : mm_H) : Option (mm_A × mm_H) := if mm_hd mi = [] ∧ (mm_argsL vs).length ≤ mm_ml mi then (mm_blk mi 0).bind fun is => mm_ev n d mi is (mm_ent (mm_ml mi) vs) [] h else none
theorem mm_run_G {Z : Nat → List Int32} {n d mi : Nat} {vs : List mm_V} {h h' : mm_H} {r : mm_A} {Post : mm_A → mm_H → Prop} (he : mm_run n d mi vs h = some (r, h')) (hp : Post r h') : mm_G Z (d + 6) mi vs h Post := by
  unfold mm_run at he
  split at he
  · rename_i hc
    obtain ⟨is, hb, he⟩ := Option.bind_eq_some_iff.mp he
    exact mm_ev_G hc.1 hc.2 hb he hp
  · cases he
end
section
/-! STRAIGHT LINES: to the jump at a stretch's end, calls by the interpreter -/
def mm_lin (n d mi : Nat) : List Instr → mm_L → List mm_V → mm_H → Option (Nat × (mm_L × (List mm_V × mm_H)))
  | [], _, _, _ => none
  | i :: is, L, st, h => match i with
    | .goto t => some (t.toNat, L, st, h)
    | .goto_w t => some (t.toNat, L, st, h)
    | .invokestatic m => if mm_na m ≤ st.length ∧ st.length ≤ 12 then (match mm_run n d m (st.take (mm_na m)).reverse h with
      | some (.inl none, h') => mm_lin n d mi is L (st.drop (mm_na m)) h'
      | some (.inl (some v), h') => mm_lin n d mi is L (v :: st.drop (mm_na m)) h'
      | _ => none) else none
    | .invokevirtual m => if mm_na m ≤ st.length ∧ st.length ≤ 12 ∧ mm_rcvb h (st.take (mm_na m)).reverse (mm_ci m) = true then (match mm_run n d m (st.take (mm_na m)).reverse h with
      | some (.inl none, h') => mm_lin n d mi is L (st.drop (mm_na m)) h'
      | some (.inl (some v), h') => mm_lin n d mi is L (v :: st.drop (mm_na m)) h'
      | _ => none) else none
    | .if_icmp c t => (match st with
      | .inl y :: .inl x :: r => if mm_cmpb c x y = true then some (t.toNat, L, r, h) else mm_lin n d mi is L r h
      | _ => none)
    | .ifCond c t => (match st with
      | .inl x :: r => if mm_cmpb c x 0 = true then some (t.toNat, L, r, h) else mm_lin n d mi is L r h
      | _ => none)
    | .ifnull _ => none
    | .ifnonnull _ => none
    | .if_acmp _ _ => none
    | .lookupswitch _ _ => none
    | .putstatic _ => none
    | .invokespecial _ => none
    | .checkcast _ => none
    | .return_ => none
    | .ireturn => none
    | .freturn => none
    | .lreturn => none
    | .areturn => none
    | .fadd => none
    | .fsub => none
    | i => if mm_nz i st then (match mm_s1 mm_K (fun _ => []) i L st h with
      | some o => mm_lin n d mi is o.1 o.2.1 o.2.2
      | none => none) else none
set_option maxHeartbeats 4000000 in
theorem mm_lin_wp {Z : Nat → List Int32} {n d D mi : Nat} {J : Nat → mm_L → List mm_V → mm_H → Prop} {Q : mm_A → mm_H → Prop} {t : Nat} {L' : mm_L} {st' : List mm_V} {h' : mm_H} (hD : D = d + 7) (hJ : J t L' st' h') : ∀ (is : List Instr) (L : mm_L) (st : List mm_V) (h : mm_H), mm_lin n d mi is L st h = some (t, L', st', h') → mm_wp mm_K Z mm_na 6 mm_ci J (mm_C Z D) Q is L st h := by
  subst hD
  intro is
  induction is with
  | nil => intro L st h he; cases he
  | cons i is ih =>
    intro L st h he
    unfold mm_lin at he
    unfold mm_wp
    split at he
    · simp only [Option.some.injEq, Prod.mk.injEq] at he
      obtain ⟨rfl, rfl, rfl, rfl⟩ := he
      exact hJ
    · simp only [Option.some.injEq, Prod.mk.injEq] at he
      obtain ⟨rfl, rfl, rfl, rfl⟩ := he
      exact hJ
    · split at he
      · rename_i hc
        refine ⟨hc.1, hc.2, ?_⟩
        split at he
        · rename_i h2 hr
          exact mm_run_G (Z := Z) hr (ih _ _ _ he)
        · rename_i v h2 hr
          exact mm_run_G (Z := Z) hr (ih _ _ _ he)
        · cases he
      · cases he
    · split at he
      · rename_i hc
        refine ⟨hc.1, hc.2.1, mm_rcvb_of hc.2.2, ?_⟩
        split at he
        · rename_i h2 hr
          exact mm_run_G (Z := Z) hr (ih _ _ _ he)
        · rename_i v h2 hr
          exact mm_run_G (Z := Z) hr (ih _ _ _ he)
        · cases he
      · cases he
    · split at he
      · split at he
        · rename_i hc
          simp only [Option.some.injEq, Prod.mk.injEq] at he
          obtain ⟨rfl, rfl, rfl, rfl⟩ := he
          exact ⟨fun _ => hJ, fun z => absurd (mm_cmpb_iff.mp hc) z⟩
        · rename_i hc
          exact ⟨fun z => absurd (mm_cmpb_iff.mpr z) hc, fun _ => ih _ _ _ he⟩
      · cases he
    · split at he
      · split at he
        · rename_i hc
          simp only [Option.some.injEq, Prod.mk.injEq] at he
          obtain ⟨rfl, rfl, rfl, rfl⟩ := he
          exact ⟨fun _ => hJ, fun z => absurd (mm_cmpb_iff.mp hc) z⟩
        · rename_i hc
          exact ⟨fun z => absurd (mm_cmpb_iff.mpr z) hc, fun _ => ih _ _ _ he⟩
      · cases he
    all_goals first
      | (cases he; done)
      | skip
    · split at he
      · rename_i hnz
        rw [mm_s1_nz (Z' := Z) hnz] at he
        split at he
        · rename_i o ho
          split <;> first
            | (rw [ho]; exact ih _ _ _ he)
            | contradiction
        · cases he
      · cases he
/-- the heap at the law's start, and when both objects are made -/
def p1_0 : mm_H := ([], (600002, 7302232))
def p1_L0 : mm_L := mm_ent 7 [vZ 1]
def p1_r : Option (Nat × (mm_L × (List mm_V × mm_H))) := (mm_blk 167 0).bind fun is => mm_lin 400 5 167 is p1_L0 [] p1_0
def p1_h : mm_H := (p1_r.map fun r => r.2.2.2).getD p1_0
end
section
/-! A FIRST CALL: both objects are made -/
def p1_L (i : Int32) (a b : Option mm_V) : mm_L := [some (vZ 1), some (vR 0), some (vR 25), some (vR 58), some (vI i), a, b]
def mm_eqL (a b : mm_L) : Bool := decide (a = b)
def mm_eqA (a b : mm_A) : Bool := decide (a = b)
def mm_eqS (a b : List mm_V) : Bool := decide (a = b)
theorem mm_quad {o : Option (Nat × (mm_L × (List mm_V × mm_H)))} {t : Nat} {L : mm_L} {st : List mm_V} (h1 : o.map (fun r => r.1) = some t) (h2 : o.map (fun r => mm_eqL r.2.1 L) = some true) (h3 : o.map (fun r => mm_eqS r.2.2.1 st) = some true) : ∃ h, o = some (t, L, st, h) := by
  obtain _ | ⟨a, b, c, h⟩ := o
  · cases h1
  · simp only [Option.map_some, Option.some.injEq, mm_eqL, mm_eqS, decide_eq_true_eq] at h1 h2 h3
    subst h1 h2 h3
    exact ⟨h, rfl⟩
set_option maxRecDepth 100000 in
theorem p1_m1 : p1_r.map (fun r => r.1) = some 23 := by decide +kernel
set_option maxRecDepth 100000 in
theorem p1_m2 : p1_r.map (fun r => mm_eqL r.2.1 (p1_L 0 none none)) = some true := by decide +kernel
set_option maxRecDepth 100000 in
theorem p1_m3 : p1_r.map (fun r => mm_eqS r.2.2.1 []) = some true := by decide +kernel
theorem p1_made : p1_r = some (23, p1_L 0 none none, [], p1_h) := by
  obtain ⟨h, hh⟩ := mm_quad p1_m1 p1_m2 p1_m3
  have : p1_h = h := by unfold p1_h; rw [hh]; rfl
  rw [hh, this]
/-- a case of the law without the script's numbers, by the interpreter: it comes to 480 -/
def p1_case (pc : Nat) : Option (Nat × (mm_L × (List mm_V × mm_H))) := (mm_blk 167 pc).bind fun is => mm_lin 400 5 167 is (p1_L 0 none none) [] p1_h
def p1_good (pc : Nat) : Bool := decide ((p1_case pc).map (fun r => r.1) = some 480) && decide ((p1_case pc).map (fun r => mm_eqL r.2.1 (p1_L 0 none none)) = some true) && decide ((p1_case pc).map (fun r => mm_eqS r.2.2.1 []) = some true)
set_option maxRecDepth 100000 in
theorem p1_position : p1_good 205 = true := by decide +kernel
set_option maxRecDepth 100000 in
theorem p1_clear : p1_good 255 = true := by decide +kernel
set_option maxRecDepth 100000 in
theorem p1_failure : p1_good 310 = true := by decide +kernel
set_option maxRecDepth 100000 in
theorem p1_restart : p1_good 348 = true := by decide +kernel
set_option maxRecDepth 100000 in
theorem p1_top : p1_good 467 = true := by decide +kernel
/-- the class's compile and link throw IllegalArgumentException, IllegalStateException -/
def p1_comp : Option (mm_A × mm_H) := mm_run 600 6 27 [vR 0] p1_h
def p1_link : Option (mm_A × mm_H) := mm_run 600 6 87 [vR 0] p1_h
set_option maxRecDepth 100000 in
theorem p1_comp_thrown : p1_comp.map (fun r => mm_eqA r.1 (aT 0)) = some true := by decide +kernel
set_option maxRecDepth 100000 in
theorem p1_link_thrown : p1_link.map (fun r => mm_eqA r.1 (aT 2)) = some true := by decide +kernel
end
section
/-! A CALL WHOSE EXCEPTION IS CAUGHT by the first row of the caller's table: handler, a number, return -/
theorem mm_catchP {Z : Nat → List Int32} {d mi k pc idx i0 i1 i2 i4 i5 i6 a hp ct ex : Nat} {sl : Fin 4} {n : Int} {x0 : Int32} {as rest fs : List mm_V} {L : mm_L} {h : mm_H} {q : vw_C} {G0 Post : mm_A → mm_H → Prop} {s0 e0 : Nat} {tl : List (Nat × Nat × Nat × Nat)}
    (hd : decode (mm_cd mi) pc = .ok (.invokevirtual idx, 3)) (w0 : mm_wq i0 (.methodLink (mm_own mi) idx (mm_nm k)) = true) (w1 : mm_wq i1 (.instanceMethod (mm_nm k)) = true) (w2 : mm_wq i2 (.selects q.1 (mm_nm k) (mm_nm k)) = true) (w4 : mm_wq i4 (mm_codeW k) = true) (hyo : mm_yok (mm_nm k) = true) (hmax : mm_ml k ≤ 20) (hhk : mm_hd k = []) (hn : mm_pars k = some as.length) (hq : vwCl[mm_ci k]? = some q) (ha : h.1[a]? = some (.inl (mm_ci k, fs))) (hlen : rest.length ≤ 12)
    (hG : mm_G Z d k (vR a :: as) h G0) (kk : ∀ v h', G0 (.inl v) h' → mm_P Z (d + 1) mi (pc + 3) L (v.toList ++ rest) h' Post)
    (hh : mm_hd mi = (s0, e0, hp, ct) :: tl) (hc1 : s0 ≤ pc) (hc2 : pc < e0) (hct : ct ≠ 0) (w5 : mm_wq i5 (.classLink (mm_own mi) ct (mm_ex ex)) = true) (w6 : mm_wq i6 (.castable (mm_ex ex) (mm_ex ex)) = true)
    (hx0 : ∀ e' h', G0 (.inr e') h' → e' = ex ∧ Post (aX (vI x0)) h')
    (dA : decode (mm_cd mi) hp = .ok (.astore_n sl, 1)) (dI : decode (mm_cd mi) (hp + 1) = .ok (.iconst n, 1)) (hv : Int32.ofInt n = x0) (dR : decode (mm_cd mi) (hp + 1 + 1) = .ok (.ireturn, 1)) (hrt : mm_rt mi = some .int) (hsl : sl.val < mm_ml mi) :
    mm_P Z (d + 1) mi pc L ((vR a :: as).reverse ++ rest) h Post := by
  intro p l e R s m args below meth c D cT zt A rho0 hF
  obtain ⟨hx, htr, hb, hr, hml, hown, hnm, hlk, hex, hd1, hd2, hA, hTb⟩ := id hF
  obtain ⟨c1, c2⟩ := mm_wq_of w4
  refine mr_callVC hF (mm_wq_before w0 hTb) (mm_wq_before w1 hTb) (mm_wq_before w2 hTb) c1 c2 hyo hmax hhk hq ha hn hlen hd hG (fun v h' hv => kk v h' hv p l e R s m args below meth c D cT zt A rho0 hF) (fun ex' h' T' rho' locs' cells' slots' x ls stk hg hthr hp' X' hJ => ?_)
  obtain ⟨rfl, hpost⟩ := hx0 _ _ hg
  obtain ⟨cell, t1, t2, t3⟩ := hthr
  rw [hh] at hex
  obtain ⟨xe, xr, hxe, hxs, -⟩ := List.map_eq_cons_iff.mp hex
  simp only [mm_et, Prod.mk.injEq] at hxs
  obtain ⟨e1, e2, e3, e4⟩ := hxs
  obtain ⟨cc1, cc2, k1, k2, k3⟩ := Cond.castable_spec (mm_wq_before (args := args) w6 hTb)
  rw [X'.warmed.alike.findClass] at t3
  have hcls : cell.cls = cc1 := Option.some.inj (t3.symm.trans k1)
  obtain ⟨vm', XV, stV⟩ := X'.caughtLink x (g := F0 m pc ls stk) rfl hown [] xe xr hxe (fun y hy => by cases hy) (by simp [covers, e1, e2, hc1, hc2]) (by rw [e4]; exact hct) (by rw [e4]; exact mm_wq_before w5 hTb) k2 t1 t2 (by rw [hcls]; exact k3)
  rw [X'.pushThrowing_eq]
  have hWk : W p l e R s m args below meth c T'.heap locs' cells' slots' (mm_End R s below D cT zt A rho0 Post) (F0 m hp ls [.ref x]) := by
    refine lv_astore_n hx hb dA rfl hJ.2.2.2.2.2.2.1.has hsl rfl fun ls' hl' => ?_
    have hI' : mm_I R s D cT zt A (mm_ml mi) rho' (List.replicate (mm_ml mi) none) h' T'.heap locs' cells' slots' ls' := ⟨hJ.1, hJ.2.1, fun v hv => by simp at hv, hJ.2.2.2.1, hJ.2.2.2.2.1, hJ.2.2.2.2.2.1, ⟨by simp, hl'.1, hl'.2.1, fun i v hi => by simp [List.getElem?_replicate] at hi⟩, hJ.2.2.2.2.2.2.2.1, hJ.2.2.2.2.2.2.2.2⟩
    exact mr_iconst hx hb dI hv (mr_iret hx hb (by rw [hr, hrt]) rfl hlk dR hpost) rho' T'.heap locs' cells' slots' ls' hp' (fun v hv => by cases hv) hI'
  obtain ⟨t, a1, a2⟩ := hWk (T'.setVm vm') rfl XV
  refine ⟨t, stV t ?_, a2⟩
  rw [e3]
  exact a1
end
section
/-! THE START: what the statement's words give the small machine -/
theorem mm_arrP {s : State} {args : Array Value} {ty : FieldType} (h : (Cond.arrayClass ty).before args s = true) : ∃ cA : ClassId, ArrOfT s cA ty ∧ s.vm.findClass ("[" ++ ty.toString) = some cA := by
  obtain ⟨c, k, comp, h1, h2, h3⟩ := Cond.arrayClass_spec h
  exact ⟨c, fun n z => ⟨(fun k h => by cases h), k, h2, comp, h3⟩, h1⟩
theorem mm_arrO {s : State} {args : Array Value} {C : String} (h : (Cond.arrayOver (.object C)).before args s = true) : ∃ cA : ClassId, ArrOfT s cA (.object C) ∧ va_RA s cA (.object C) := by
  obtain ⟨comp, c, k, h1, -, h2, h3, h4⟩ := Cond.arrayOver_spec h
  exact ⟨c, fun n z => ⟨(fun k h => by cases h), k, h2, comp, h3⟩, ⟨k, comp, h2, h3, h1, h4⟩⟩
def mm_inst (q : vw_C) : Prop := Cond.instantiable q.1 q.2.2 ∈ lw_tbl
theorem mm_inst_ok {c : Nat} {q : vw_C} (h : vwCl[c]? = some q) : mm_inst q := by
  match c, h with
  | 0, h => cases h; exact List.mem_of_getElem? (i := 100) (by decide +kernel)
  | 1, h => cases h; exact List.mem_of_getElem? (i := 108) (by decide +kernel)
  | 2, h => cases h; exact List.mem_of_getElem? (i := 175) (by decide +kernel)
  | 3, h => cases h; exact List.mem_of_getElem? (i := 432) (by decide +kernel)
  | 4, h => cases h; exact List.mem_of_getElem? (i := 220) (by decide +kernel)
  | 5, h => cases h; exact List.mem_of_getElem? (i := 243) (by decide +kernel)
  | 6, h => cases h; exact List.mem_of_getElem? (i := 129) (by decide +kernel)
  | 7, h => cases h; exact List.mem_of_getElem? (i := 700) (by decide +kernel)
  | 8, h => cases h; exact List.mem_of_getElem? (i := 160) (by decide +kernel)
  | 9, h => cases h; exact List.mem_of_getElem? (i := 601) (by decide +kernel)
  | 10, h => cases h; exact List.mem_of_getElem? (i := 953) (by decide +kernel)
  | n + 11, h => simp [vwCl] at h
theorem mm_known {s : State} {args : Array Value} (hts : ∀ w ∈ lw_tbl, w.before args s = true) : ∃ (D : va_G) (cT : Nat → ClassId), va_K D vwCl (mm_tys cT) s := by
  have h0 : ∀ c : Nat, ∃ y : ClassId × (Nat → Nat), ∀ q : vw_C, vwCl[c]? = some q → u_Kn s q.1 q.2.1 q.2.2 y.1 y.2 := by
    intro c
    cases hq : vwCl[c]? with
    | none => exact ⟨(0, fun _ => 0), fun q z => by cases z⟩
    | some q =>
      obtain ⟨cC, iS, hk⟩ := u_known hts (mm_cls_ok hq).1 (hts _ (mm_inst_ok hq))
      exact ⟨(cC, iS), fun q2 z => by cases z; exact hk⟩
  obtain ⟨f, hf⟩ := Classical.axiomOfChoice h0
  obtain ⟨a0, b0, c0⟩ := mm_arrP (hts (.arrayClass .int) (List.mem_of_getElem? (i := 127) (by decide +kernel)))
  obtain ⟨a1, b1, c1⟩ := mm_arrP (hts (.arrayClass .byte) (List.mem_of_getElem? (i := 554) (by decide +kernel)))
  obtain ⟨a2, b2, c2⟩ := mm_arrP (hts (.arrayClass .char) (List.mem_of_getElem? (i := 1130) (by decide +kernel)))
  obtain ⟨a3, b3, c3⟩ := mm_arrP (hts (.arrayClass .long) (List.mem_of_getElem? (i := 1357) (by decide +kernel)))
  obtain ⟨a4, b4, c4⟩ := mm_arrO (hts (.arrayOver (.object "LispForge$Form")) (List.mem_of_getElem? (i := 135) (by decide +kernel)))
  obtain ⟨a5, b5, c5⟩ := mm_arrO (hts (.arrayOver (.object "LispForge$Unit")) (List.mem_of_getElem? (i := 166) (by decide +kernel)))
  refine ⟨(fun c => (f c).1, fun c => (f c).2), fun k => [a0, a1, a2, a3, a4, a5].getD k 0, fun c q hq => hf c q hq, fun k q hk => ?_⟩
  match k, hk with
  | 0, hk => cases hk; exact ⟨b0, c0⟩
  | 1, hk => cases hk; exact ⟨b1, c1⟩
  | 2, hk => cases hk; exact ⟨b2, c2⟩
  | 3, hk => cases hk; exact ⟨b3, c3⟩
  | 4, hk => cases hk; exact ⟨b4, c4⟩
  | 5, hk => cases hk; exact ⟨b5, c5⟩
  | n + 6, hk => simp [mm_tys] at hk
def mm_Zx (L : Nat) (xs : Nat → Int32) : Nat → List Int32 := fun j => if j = 0 then mm_step0 else (List.range L).map xs
def mm_stT : Term := .static "LispForge" "STEP_LENGTHS" "[I"
theorem mm_stE : ∀ j, j < 15 → Cond.eq (.elem mm_stT (.int (Int32.ofNat j))) (.int (mm_step0.getD j 0)) ∈ flatC (Jvm.Cond.and given_1 narrow_1) := by decide +kernel
theorem mm_start_T {s : State} {b L : Nat} {xs : Nat → Int32} (hts : ∀ w ∈ lw_tbl, w.before #[Value.ref b] s = true) (hX : va_X b L xs s s.heap) (hbl : b < s.heap.size) (hgv : (Jvm.Cond.and given_1 narrow_1).before #[Value.ref b] s = true) : ∃ (D : va_G) (cT : Nat → ClassId) (zt : Nat → Nat), zt 1 = b ∧ mm_T (mm_Zx L xs) s D cT zt (fun q => s.heap.size ≤ q) := by
  have hs := flat_of_before _ hgv
  have hA : ∀ a : Nat, a < s.heap.size → ¬ (s.heap.size ≤ a) := fun a h => by omega
  obtain ⟨D, cT, hK⟩ := mm_known hts
  obtain ⟨t0, e0, ht0⟩ := va_Tof (args := #[Value.ref b]) (s := s) (tm := mm_stT) (ty := .int) (N := 15) (f := fun j => .int (mm_step0.getD j 0)) (A := fun q => s.heap.size ≤ q) (by omega) (hs _ (by decide +kernel)) (va_eqt (hs (Cond.eq (.length mm_stT) (.int 15)) (by decide +kernel))) (fun j hj => va_eqt (hs _ (mm_stE j hj))) hA
  refine ⟨D, cT, fun j => if j = 0 then t0 else b, rfl, fun w hw hg => mm_gd_args hg (hts w hw), hK, ?_, ?_, ?_, ?_, ?_⟩
  · intro C hC
    simp only [mm_over, List.mem_cons, List.not_mem_nil, or_false] at hC
    rcases hC with rfl | rfl
    · exact va_AO.of (hts _ (List.mem_of_getElem? (i := 135) (by decide +kernel)))
    · exact va_AO.of (hts _ (List.mem_of_getElem? (i := 166) (by decide +kernel)))
  · exact va_Zof (hts _ (List.mem_of_getElem? (i := 895) (by decide +kernel))) (hts _ (List.mem_of_getElem? (i := 79) (by decide +kernel))) e0 hA
  · intro j hj
    match j, hj with
    | 0, _ => exact ht0
    | 1, _ =>
      obtain ⟨scr, x1, x2, x3, x4, x5⟩ := hX
      have hl : (mm_Zx L xs 1).length = L := by simp [mm_Zx]
      refine ⟨scr, x1, x2, x3, by rw [hl, x4] <;> omega, by rw [hl, x4] <;> rfl, fun j hj => ?_, hA b hbl⟩
      rw [hl] at hj
      rw [x5 j hj]
      simp [mm_Zx, hj]
  · exact mm_Zl_of (va_Zqof (hts _ (List.mem_of_getElem? (i := 514) (by decide +kernel))) (hts _ (List.mem_of_getElem? (i := 89) (by decide +kernel))) (hs _ (by decide +kernel)) hA) (hts _ (List.mem_of_getElem? (i := 514) (by decide +kernel)))
  · exact mm_Zl_of (va_Zqof (hts _ (List.mem_of_getElem? (i := 516) (by decide +kernel))) (hts _ (List.mem_of_getElem? (i := 89) (by decide +kernel))) (hs _ (by decide +kernel)) hA) (hts _ (List.mem_of_getElem? (i := 516) (by decide +kernel)))
end
section
/-! FROM THE LAW'S CONTRACT TO ITS WALK -/
set_option maxRecDepth 100000 in
theorem mm_cd_law : mm_cd 167 = code := rfl
set_option maxRecDepth 100000 in
theorem mm_ml_law : mm_ml 167 = 7 := rfl
set_option maxRecDepth 100000 in
theorem mm_rt_law : mm_rt 167 = ret := rfl
set_option maxRecDepth 100000 in
theorem mm_nm_law : mm_nm 167 = ⟨"LispForgeLaw", "law", "([I)Z"⟩ := rfl
theorem mm_begin {p : Program} {e : Env} {s : State} {m : MethodId} {below : List Frame} {meth : Method} {c : Code} (l : Launch) {b L : Nat} {xs : Nat → Int32}
    (hx : p.tables.exec = Jvm.exec) (htr : e.platform.stackTraces = false) (hb : c.code = code) (hr : meth.sig.returnType = ret) (hml : c.maxLocals = 7) (hown : s.vm.findClass "LispForgeLaw" = some m.cls) (hnm : meth.name = "law") (hlk : meth.locks = false) (hex : c.exceptionTable.toList = [])
    (hts : ∀ w ∈ lw_tbl, w.before #[Value.ref b] s = true) (hX : va_X b L xs s s.heap) (hbl : b < s.heap.size) (hgv : (Jvm.Cond.and given_1 narrow_1).before #[Value.ref b] s = true)
    (hG : mm_G (mm_Zx L xs) 1300 167 [vZ 1] ([], (600002, 7302232)) (fun r _ => r = aX (vI 1))) :
    W p l e room_1 s m #[Value.ref b] below meth c s.heap [] 0 0 (fun t => ∃ o, t.status = .running ∧ Ended t below o ∧ o = .returned (some (.int 1)) ∧ Framed s o t [] 600002 7302232) (entryFrame m ([Value.ref b] : List Value).toArray 7) := by
  obtain ⟨D, cT, zt, hz, hT⟩ := mm_start_T hts hX hbl hgv
  have h := hG p l e room_1 s m below meth c D cT zt (fun q => s.heap.size ≤ q) [] ⟨hx, htr, by rw [mm_cd_law]; exact hb, by rw [mm_rt_law]; exact hr, by rw [mm_ml_law]; exact hml, by rw [mm_nm_law]; exact hown, by rw [mm_nm_law]; exact hnm, hlk, by rw [hex]; rfl, by decide, by decide, fun q hq => hq, hT⟩ (fun v hv => by simp only [List.mem_singleton] at hv; subst hv; trivial) rfl (fun x hx => by cases hx) (fun k q hk => by cases hk) ⟨fun i j p q hp => (by cases hp), fun k q hk => (by cases hk)⟩ (Nat.le_refl _) (Nat.le_refl _)
  have hargs : (([vZ 1] : List mm_V).map (mm_v [] zt)).toArray = #[Value.ref b] := by rw [← hz]; rfl
  rw [hargs, mm_ml_law] at h
  intro T hT' X
  obtain ⟨t, st, r, h', rho, o, Lc, k, n, hpost, hrun, hend, hout, hW, hsame, hpre, hlen, hok, hP, hD, hS, hc, hn⟩ := h T hT' X
  subst hpost
  obtain ⟨rfl, -⟩ := hout
  refine ⟨t, st, _, hrun, hend, rfl, ⟨_, rfl⟩, hW, ?_⟩
  have h1 : s.sameButNew ({ t with vm := s.vm } : State) ([] ++ Lc) k n := hsame
  refine (h1.drop_fresh (fun x hx => hS.2.2 x hx)).mono ?_ ?_
  · have : k + h'.2.1 ≤ 600002 := hc
    omega
  · have : n + h'.2.2 ≤ 7302232 := hn
    omega
end
section
/-! THE LAW'S LOOP, at most one call -/
theorem mm_F_le {Z : Nat → List Int32} {mi d d' : Nat} {p : Program} {e : Env} {R : Room} {s : State} {m : MethodId} {meth : Method} {c : Code} {D : va_G} {cT : Nat → ClassId} {zt : Nat → Nat} {A : Nat → Prop} (h : d ≤ d') (hF : mm_F Z mi d' p e R s m meth c D cT zt A) : mm_F Z mi d p e R s m meth c D cT zt A := by
  obtain ⟨hx, htr, hb, hr, hml, hown, hnm, hlk, hex, hd1, hd2, hA, hTb⟩ := hF
  exact ⟨hx, htr, hb, hr, hml, hown, hnm, hlk, hex, by omega, by omega, hA, hTb⟩
theorem mm_G_le {Z : Nat → List Int32} {mi d d' : Nat} {vs : List mm_V} {h : mm_H} {Post : mm_A → mm_H → Prop} (hd : d ≤ d') (hG : mm_G Z d mi vs h Post) : mm_G Z d' mi vs h Post := fun p l e R s m below meth c D cT zt A rho hF => hG p l e R s m below meth c D cT zt A rho (mm_F_le hd hF)
theorem mm_at_blk {Z : Nat → List Int32} {d mi pc : Nat} {is : List Instr} {L : mm_L} {st : List mm_V} {h : mm_H} {Post : mm_A → mm_H → Prop} (hb : mm_blk mi pc = some is) (hd : 6 ≤ d) (hh : mm_hd mi = [] ∨ is.all mm_nc = true) (hw : mm_wp mm_K Z mm_na 6 mm_ci (fun t L st h => mm_P Z d mi t L st h Post) (mm_C Z d) Post is L st h) : mm_P Z d mi pc L st h Post := by
  obtain ⟨hs, hchk⟩ := mm_blk_chk hb
  exact mm_sound hd is pc hs L st h hh hchk hw
/-- steps that go on -/
def mm_s1ok (i : Instr) : Bool := match i with
  | .goto _ => false
  | .goto_w _ => false
  | .if_icmp _ _ => false
  | .ifCond _ _ => false
  | .ifnull _ => false
  | .ifnonnull _ => false
  | .if_acmp _ _ => false
  | .lookupswitch _ _ => false
  | .invokestatic _ => false
  | .putstatic _ => false
  | .invokevirtual _ => false
  | .invokespecial _ => false
  | .checkcast _ => false
  | .return_ => false
  | .ireturn => false
  | .freturn => false
  | .lreturn => false
  | .areturn => false
  | .fadd => false
  | .fsub => false
  | _ => true
theorem mm_st {K : Nat → List FieldType} {Z : Nat → List Int32} {nA : Nat → Nat} {nE : Nat} {ci : Nat → Nat} {J : Nat → mm_L → List mm_V → mm_H → Prop} {C : Nat → List mm_V → mm_H → (mm_A → mm_H → Prop) → Prop} {Q : mm_A → mm_H → Prop} {i : Instr} {is : List Instr} {L L' : mm_L} {st st' : List mm_V} {h h' : mm_H} (hi : mm_s1ok i = true) (hs : mm_s1 K Z i L st h = some (L', st', h')) (hk : mm_wp K Z nA nE ci J C Q is L' st' h') : mm_wp K Z nA nE ci J C Q (i :: is) L st h := by
  unfold mm_wp
  split <;> first
    | (simp [mm_s1ok] at hi; done)
    | (rw [hs]; exact hk)
abbrev p1_Post : mm_A → mm_H → Prop := fun r _ => r = aX (vI 1)
set_option maxRecDepth 100000 in
theorem p1_b486 : mm_blk 167 486 = some [.sipush (1), .freturn] := by decide +kernel
set_option maxRecDepth 100000 in
theorem p1_b480 : mm_blk 167 480 = some [.iinc 4 (3), .goto 23] := by decide +kernel
set_option maxRecDepth 100000 in
theorem p1_b23 : mm_blk 167 23 = some [.iload 4, .aload 0, .arraylength, .sipush (3), .isub, .if_icmp .gt 486, .aload 0, .iload 4, .iaload, .sipush (15), .iand, .lookupswitch 480 #[(0, 104), (1, 161), (2, 205), (3, 218), (4, 255), (5, 266), (6, 310), (7, 323), (8, 348), (9, 361), (10, 417), (11, 442), (12, 467)]] := by decide +kernel
theorem p1_486 {Z : Nat → List Int32} {L : mm_L} {h : mm_H} : mm_P Z 12 167 486 L [] h p1_Post := by
  refine mm_at_blk p1_b486 (by omega) (Or.inl rfl) ?_
  simp [mm_wp, mm_s1]
theorem p1_23e {Z : Nat → List Int32} {n : Nat} {a b : Option mm_V} {h : mm_H} (hn : (Z 1).length = n) (h3 : n ≤ 3) : mm_P Z 12 167 23 (p1_L 3 a b) [] h p1_Post := by
  refine mm_at_blk p1_b23 (by omega) (Or.inl rfl) ?_
  obtain rfl | rfl | rfl | rfl : n = 0 ∨ n = 1 ∨ n = 2 ∨ n = 3 := by omega
  all_goals
    simp only [mm_wp, mm_s1, p1_L, List.getElem?_cons_succ, List.getElem?_cons_zero, hn]
    exact ⟨fun _ => p1_486, fun z => absurd (mm_cmpb_iff.mp (by decide)) z⟩
theorem p1_480 {Z : Nat → List Int32} {n : Nat} {a b : Option mm_V} {h : mm_H} (hn : (Z 1).length = n) (h3 : n ≤ 3) : mm_P Z 12 167 480 (p1_L 0 a b) [] h p1_Post := by
  refine mm_at_blk p1_b480 (by omega) (Or.inl rfl) ?_
  have : mm_s1 mm_K Z (.iinc 4 (3)) (p1_L 0 a b) [] h = some (p1_L 3 a b, [], h) := rfl
  simp only [mm_wp, this]
  exact p1_23e hn h3
theorem p1_line {Z : Nat → List Int32} {n pc : Nat} (hn : (Z 1).length = n) (h3 : n ≤ 3) (hg : p1_good pc = true) : mm_P Z 12 167 pc (p1_L 0 none none) [] p1_h p1_Post := by
  simp only [p1_good, Bool.and_eq_true, decide_eq_true_eq] at hg
  obtain ⟨h', hh⟩ := mm_quad hg.1.1 hg.1.2 hg.2
  unfold p1_case at hh
  obtain ⟨is, hb, hl⟩ := Option.bind_eq_some_iff.mp hh
  exact mm_at_blk hb (by omega) (Or.inl rfl) (mm_lin_wp (D := 12) rfl (p1_480 hn h3) is _ _ _ hl)
/-- the law, if its cases with numbers come to 480 -/
theorem p1_law {Z : Nat → List Int32} {n : Nat} (hn : (Z 1).length = n) (h3 : n ≤ 3) (H : n = 3 → ∀ pc ∈ [104, 161, 218, 266, 323, 361, 417, 442], mm_P Z 12 167 pc (p1_L 0 none none) [] p1_h p1_Post) : mm_G Z 1300 167 [vZ 1] ([], (600002, 7302232)) p1_Post := by
  refine mm_G_le (d := 12) (by omega) (mm_G_of (by decide) ?_)
  have hr := p1_made
  unfold p1_r at hr
  obtain ⟨is, hb, hl⟩ := Option.bind_eq_some_iff.mp hr
  refine mm_at_blk hb (by omega) (Or.inl rfl) (mm_lin_wp (D := 12) rfl ?_ is _ _ _ hl)
  refine mm_at_blk p1_b23 (by omega) (Or.inl rfl) ?_
  obtain rfl | rfl | rfl | rfl : n = 0 ∨ n = 1 ∨ n = 2 ∨ n = 3 := by omega
  iterate 3
    simp only [mm_wp, mm_s1, p1_L, List.getElem?_cons_succ, List.getElem?_cons_zero, hn]
    exact ⟨fun _ => p1_486, fun z => absurd (mm_cmpb_iff.mp (by decide)) z⟩
  have H := H rfl
  have hz : ∃ x, mm_zald Z 1 0 = some x := by
    unfold mm_zald
    rw [hn]
    refine ⟨(Z 1)[0]'(by omega), ?_⟩
    have : mm_ix 0 3 = some 0 := by decide
    rw [this]
    exact List.getElem?_eq_getElem _
  obtain ⟨x, hx⟩ := hz
  have e0 := p1_480 (a := none) (b := none) (h := p1_h) hn h3
  have s3 : mm_s1 mm_K Z .arraylength (p1_L 0 none none) [vZ 1, vI 0] p1_h = some (p1_L 0 none none, [vI (Int32.ofNat 3), vI 0], p1_h) := by simp [mm_s1, hn]
  have s9 : mm_s1 mm_K Z .iaload (p1_L 0 none none) [vI 0, vZ 1] p1_h = some (p1_L 0 none none, [vI x], p1_h) := by simp [mm_s1, hx]
  refine mm_st rfl rfl ?_
  refine mm_st rfl rfl ?_
  refine mm_st rfl s3 ?_
  refine mm_st rfl rfl ?_
  refine mm_st rfl rfl ?_
  refine ⟨fun z => absurd (mm_cmpb_iff.mpr z) (by decide), fun _ => ?_⟩
  refine mm_st rfl rfl ?_
  refine mm_st rfl rfl ?_
  refine mm_st rfl s9 ?_
  refine mm_st rfl rfl ?_
  refine mm_st rfl rfl ?_
  simp only [mm_wp, mm_sw]
  exact ⟨fun _ => H 104 (by decide), fun _ => ⟨fun _ => H 161 (by decide), fun _ => ⟨fun _ => p1_line hn h3 p1_position, fun _ => ⟨fun _ => H 218 (by decide), fun _ => ⟨fun _ => p1_line hn h3 p1_clear, fun _ => ⟨fun _ => H 266 (by decide), fun _ => ⟨fun _ => p1_line hn h3 p1_failure, fun _ => ⟨fun _ => H 323 (by decide), fun _ => ⟨fun _ => p1_line hn h3 p1_restart, fun _ => ⟨fun _ => H 361 (by decide), fun _ => ⟨fun _ => H 417 (by decide), fun _ => ⟨fun _ => H 442 (by decide), fun _ => ⟨fun _ => p1_line hn h3 p1_top, fun _ => e0⟩⟩⟩⟩⟩⟩⟩⟩⟩⟩⟩⟩⟩
end
section
/-! A FIRST CALL WITH A NUMBER -/
theorem mm_End_mono {R : Room} {s : State} {below : List Frame} {D : va_G} {cT : Nat → ClassId} {zt : Nat → Nat} {A : Nat → Prop} {rho0 : List Nat} {P Q : mm_A → mm_H → Prop} (hPQ : ∀ r h, P r h → Q r h) {t : State} (h : mm_End R s below D cT zt A rho0 P t) : mm_End R s below D cT zt A rho0 Q t := by
  obtain ⟨r, h', rho, o, Lc, k, n, hp, hrest⟩ := h
  exact ⟨r, h', rho, o, Lc, k, n, hPQ r h' hp, hrest⟩
theorem mm_G_mono {Z : Nat → List Int32} {d mi : Nat} {vs : List mm_V} {h : mm_H} {P Q : mm_A → mm_H → Prop} (hG : mm_G Z d mi vs h P) (hPQ : ∀ r h, P r h → Q r h) : mm_G Z d mi vs h Q := by
  intro p l e R s m below meth c D cT zt A rho hF h1 h2 h3 h4 h5 h6 h7 T hT X
  obtain ⟨t, a, b⟩ := hG p l e R s m below meth c D cT zt A rho hF h1 h2 h3 h4 h5 h6 h7 T hT X
  exact ⟨t, a, mm_End_mono hPQ b⟩
section MST
variable {Z : Nat → List Int32} {d : Nat} {J : Nat → mm_L → List mm_V → mm_H → Prop} {C : Nat → List mm_V → mm_H → (mm_A → mm_H → Prop) → Prop} {Q : mm_A → mm_H → Prop} {is : List Instr} {L : mm_L} {r : List mm_V} {h h' : mm_H}
theorem mm_gf {a ci k : Nat} {v : mm_V} (hf : mm_fld h a ci k = some v) (hk : mm_wp mm_K Z mm_na 6 mm_ci J C Q is L (v :: r) h) : mm_wp mm_K Z mm_na 6 mm_ci J C Q (.invokeinterface ci k :: is) L (vR a :: r) h := mm_st rfl (by simp [mm_s1, hf]) hk
theorem mm_pfi {a ci k : Nat} {x : Int32} (ht : (mm_K ci)[k]? = some .int) (hf : mm_put h a ci k (vI x) = some h') (hk : mm_wp mm_K Z mm_na 6 mm_ci J C Q is L r h') : mm_wp mm_K Z mm_na 6 mm_ci J C Q (.multianewarray ci k :: is) L (vI x :: vR a :: r) h := mm_st rfl (by simp [mm_s1, ht, hf]) hk
theorem mm_zi {i x : Int32} (hz : mm_zald Z 1 i = some x) (hk : mm_wp mm_K Z mm_na 6 mm_ci J C Q is L (vI x :: r) h) : mm_wp mm_K Z mm_na 6 mm_ci J C Q (.iaload :: is) L (vI i :: vZ 1 :: r) h := mm_st rfl (by simp [mm_s1, hz]) hk
/-- a call over the arguments vs -/
theorem mm_iv {m : Nat} {vs : List mm_V} {P : mm_A → mm_H → Prop} (hn : mm_na m = vs.length) (hl : vs.length + r.length ≤ 12) (hr : mm_rcvb h vs (mm_ci m) = true) (hG : mm_G Z d m vs h P) (hP : ∀ a h', P a h' → mm_Kt Q (mm_wp mm_K Z mm_na 6 mm_ci J (mm_C Z (d + 1)) Q is L) r a h') : mm_wp mm_K Z mm_na 6 mm_ci J (mm_C Z (d + 1)) Q (.invokevirtual m :: is) L (vs.reverse ++ r) h := by
  have h1 : (vs.reverse ++ r).take (mm_na m) = vs.reverse := by rw [hn, ← List.length_reverse]; exact List.take_left
  have h2 : (vs.reverse ++ r).drop (mm_na m) = r := by rw [hn, ← List.length_reverse]; exact List.drop_left
  show mm_na m ≤ (vs.reverse ++ r).length ∧ (vs.reverse ++ r).length ≤ 12 ∧ mm_rcv h ((vs.reverse ++ r).take (mm_na m)).reverse (mm_ci m) ∧ mm_C Z (d + 1) m ((vs.reverse ++ r).take (mm_na m)).reverse h (mm_Kt Q (mm_wp mm_K Z mm_na 6 mm_ci J (mm_C Z (d + 1)) Q is L) ((vs.reverse ++ r).drop (mm_na m)))
  rw [h1, h2, List.reverse_reverse]
  exact ⟨by rw [hn]; simp, by simp; omega, mm_rcvb_of hr, mm_G_mono hG hP⟩
end MST
/-- the script's numbers -/
theorem p1_z {Z : Nat → List Int32} (hn : (Z 1).length = 3) : ∃ a b : Int32, mm_zald Z 1 (0 + Int32.ofInt 1) = some a ∧ mm_zald Z 1 (0 + Int32.ofInt 2) = some b := by
  unfold mm_zald
  rw [hn]
  refine ⟨(Z 1)[1]'(by omega), (Z 1)[2]'(by omega), ?_, ?_⟩
  · have : mm_ix (0 + Int32.ofInt 1) 3 = some 1 := by decide
    rw [this]
    exact List.getElem?_eq_getElem _
  · have : mm_ix (0 + Int32.ofInt 2) 3 = some 2 := by decide
    rw [this]
    exact List.getElem?_eq_getElem _
/-- the model's heap behind thrown = 0 -/
def p1_m : mm_H := (mm_put p1_h 25 10 0 (vI 0)).getD p1_h
def p1_f (h : mm_H) (a ci k : Nat) (v : mm_V) : Bool := decide (mm_fld h a ci k = some v)
theorem p1_f_of {h : mm_H} {a ci k : Nat} {v : mm_V} (hb : p1_f h a ci k v = true) : mm_fld h a ci k = some v := by simpa [p1_f] using hb
set_option maxRecDepth 100000 in
theorem p1_put : (mm_put p1_h 25 10 0 (vI 0)).isSome = true := by decide +kernel
theorem p1_put_eq : mm_put p1_h 25 10 0 (vI 0) = some p1_m := by
  have h := p1_put
  unfold p1_m
  cases hq : mm_put p1_h 25 10 0 (vI 0) with
  | none => rw [hq] at h; cases h
  | some x => rfl
set_option maxRecDepth 100000 in
theorem p1_flds : (p1_f p1_h 0 0 5 (vR 19) && p1_f p1_h 0 0 2 (vR 5) && p1_f p1_h 5 8 1 (vI 0) && p1_f p1_h 19 5 0 (vR 20) && p1_f p1_h 19 5 2 (vI 0) && p1_f p1_h 19 5 5 (vI 0) && p1_f p1_h 19 5 6 (vI 0) && p1_f p1_h 19 5 7 (vI 0) && p1_f p1_h 19 5 8 (vI 0) && p1_f p1_h 19 5 9 (vI 0) && p1_f p1_h 20 1 1 (vI 0)) = true := by decide +kernel
set_option maxRecDepth 100000 in
theorem p1_mflds : (p1_f p1_m 25 10 2 (vI 0) && p1_f p1_m 25 10 46 (vI 0) && p1_f p1_m 25 10 48 (vI 0) && p1_f p1_m 25 10 49 (vI 0) && p1_f p1_m 25 10 50 (vI 0) && p1_f p1_m 25 10 51 (vI 0) && p1_f p1_m 25 10 52 (vI 0) && p1_f p1_m 25 10 53 (vI 0)) = true := by decide +kernel
set_option maxRecDepth 100000 in
theorem p1_rcv : (mm_rcvb p1_h [vR 0] 0 && mm_rcvb p1_h [vR 25] 10 && mm_rcvb p1_h [vR 19] 5 && mm_rcvb p1_h [vR 20] 1 && mm_rcvb p1_h [vR 5] 8) = true := by decide +kernel
theorem p1_rcv1 {a ci : Nat} {vs : List mm_V} (h : mm_rcvb p1_h [vR a] ci = true) : mm_rcvb p1_h (vR a :: vs) ci = true := h
/-! stack(k) -/
set_option maxRecDepth 100000 in
theorem p1_b25_28 : mm_blk 25 28 = some [.ireturn] := by decide +kernel
set_option maxRecDepth 100000 in
theorem p1_b25_27 : mm_blk 25 27 = some [.sipush (0), .goto_w 28] := by decide +kernel
set_option maxRecDepth 100000 in
theorem p1_b25_0 : mm_blk 25 0 = some [.iload 1, .ifCond .lt 27, .iload 1, .aload 0, .invokeinterface 5 2, .if_icmp .ge 27, .iload 1, .sipush (120), .if_icmp .ge 27, .aload 0, .invokeinterface 5 1, .iload 1, .iaload, .goto 28] := by decide +kernel
set_option maxRecDepth 100000 in
theorem p1_ml25 : mm_ml 25 = 2 := by decide +kernel
set_option maxRecDepth 100000 in
theorem p1_G25 {Z : Nat → List Int32} {k : Int32} : mm_G Z 10 25 [vR 19, vI k] p1_h (fun r h => r = aX (vI 0) ∧ h = p1_h) := by
  have hf := p1_flds
  simp only [Bool.and_eq_true] at hf
  have h28 : mm_P Z 10 25 28 [some (vR 19), some (vI k)] [vI 0] p1_h (fun r h => r = aX (vI 0) ∧ h = p1_h) := mm_at_blk p1_b25_28 (by omega) (Or.inl rfl) ⟨rfl, rfl⟩
  have h27 : mm_P Z 10 25 27 [some (vR 19), some (vI k)] [] p1_h (fun r h => r = aX (vI 0) ∧ h = p1_h) := mm_at_blk p1_b25_27 (by omega) (Or.inl rfl) (mm_st rfl rfl h28)
  refine mm_G_of (by rw [p1_ml25]; exact Nat.le_refl _) ?_
  rw [p1_ml25]
  refine mm_at_blk (L := [some (vR 19), some (vI k)]) p1_b25_0 (by omega) (Or.inl rfl) ?_
  refine mm_st rfl rfl ?_
  refine ⟨fun _ => h27, fun z => ?_⟩
  refine mm_st rfl rfl ?_
  refine mm_st rfl rfl ?_
  refine mm_gf (p1_f_of hf.1.1.1.1.1.1.2) ?_
  refine ⟨fun _ => h27, fun z2 => ?_⟩
  exact absurd (Int32.not_lt.mp z) z2
end
section
set_option maxRecDepth 100000 in
theorem p1_K0 : (mm_K 10)[0]? = some .int := rfl
set_option maxRecDepth 100000 in
theorem p1_na24 : mm_na 24 = 2 := by decide +kernel
set_option maxRecDepth 100000 in
theorem p1_ci24 : mm_ci 24 = 0 := by decide +kernel
set_option maxRecDepth 100000 in
theorem p1_na165 : mm_na 165 = 2 := by decide +kernel
set_option maxRecDepth 100000 in
theorem p1_ci165 : mm_ci 165 = 10 := by decide +kernel
set_option maxRecDepth 100000 in
theorem p1_na20 : mm_na 20 = 2 := by decide +kernel
set_option maxRecDepth 100000 in
theorem p1_ci20 : mm_ci 20 = 0 := by decide +kernel
set_option maxRecDepth 100000 in
theorem p1_na157 : mm_na 157 = 2 := by decide +kernel
set_option maxRecDepth 100000 in
theorem p1_ci157 : mm_ci 157 = 10 := by decide +kernel
set_option maxRecDepth 100000 in
theorem p1_na23 : mm_na 23 = 2 := by decide +kernel
set_option maxRecDepth 100000 in
theorem p1_ci23 : mm_ci 23 = 0 := by decide +kernel
set_option maxRecDepth 100000 in
theorem p1_na164 : mm_na 164 = 2 := by decide +kernel
set_option maxRecDepth 100000 in
theorem p1_ci164 : mm_ci 164 = 10 := by decide +kernel
set_option maxRecDepth 100000 in
theorem p1_na15 : mm_na 15 = 2 := by decide +kernel
set_option maxRecDepth 100000 in
theorem p1_ci15 : mm_ci 15 = 1 := by decide +kernel
set_option maxRecDepth 100000 in
theorem p1_na16 : mm_na 16 = 2 := by decide +kernel
set_option maxRecDepth 100000 in
theorem p1_ci16 : mm_ci 16 = 1 := by decide +kernel
set_option maxRecDepth 100000 in
theorem p1_na25 : mm_na 25 = 2 := by decide +kernel
set_option maxRecDepth 100000 in
theorem p1_ci25 : mm_ci 25 = 5 := by decide +kernel
set_option maxRecDepth 100000 in
theorem p1_R0 : mm_rcvb p1_h [vR 0] 0 = true := by decide +kernel
set_option maxRecDepth 100000 in
theorem p1_R25 : mm_rcvb p1_h [vR 25] 10 = true := by decide +kernel
set_option maxRecDepth 100000 in
theorem p1_R19 : mm_rcvb p1_h [vR 19] 5 = true := by decide +kernel
set_option maxRecDepth 100000 in
theorem p1_R20 : mm_rcvb p1_h [vR 20] 1 = true := by decide +kernel
set_option maxRecDepth 100000 in
theorem p1_R5 : mm_rcvb p1_h [vR 5] 8 = true := by decide +kernel
set_option maxRecDepth 100000 in
/-- a case of the law with one number -/
theorem p1_case1 {Z : Nat → List Int32} {pc m1 m2 : Nat} (hb : mm_blk 167 pc = some [.aload 1, .aload 0, .iload 4, .sipush (1), .iadd, .iaload, .invokevirtual m1, .aload 2, .aload 0, .iload 4, .sipush (1), .iadd, .iaload, .invokevirtual m2, .if_icmp .eq 480, .sipush (0), .freturn]) (hn : (Z 1).length = 3) (n1 : mm_na m1 = 2) (n2 : mm_na m2 = 2) (c1 : mm_ci m1 = 0) (c2 : mm_ci m2 = 10)
    (G : ∀ k : Int32, ∃ y : Int32, mm_G Z 11 m1 [vR 0, vI k] p1_h (fun r h => r = aX (vI y) ∧ h = p1_h) ∧ mm_G Z 11 m2 [vR 25, vI k] p1_h (fun r _ => r = aX (vI y))) : mm_P Z 12 167 pc (p1_L 0 none none) [] p1_h p1_Post := by
  obtain ⟨k, -, hk, -⟩ := p1_z hn
  obtain ⟨y, g1, g2⟩ := G k
  refine mm_at_blk hb (by omega) (Or.inl rfl) ?_
  refine mm_st rfl rfl ?_
  refine mm_st rfl rfl ?_
  refine mm_st rfl rfl ?_
  refine mm_st rfl rfl ?_
  refine mm_st rfl rfl ?_
  refine mm_zi hk ?_
  refine mm_iv (d := 11) (vs := [vR 0, vI k]) (r := []) n1 (by simp) (by rw [c1]; exact p1_R0) g1 (fun r h hr => ?_)
  obtain ⟨rfl, rfl⟩ := hr
  show mm_wp _ _ _ _ _ _ _ _ _ _ _ _
  refine mm_st rfl rfl ?_
  refine mm_st rfl rfl ?_
  refine mm_st rfl rfl ?_
  refine mm_st rfl rfl ?_
  refine mm_st rfl rfl ?_
  refine mm_zi hk ?_
  refine mm_iv (d := 11) (vs := [vR 25, vI k]) (r := [vI y]) n2 (by simp) (by rw [c2]; exact p1_R25) g2 (fun r h hr => ?_)
  subst hr
  show mm_wp _ _ _ _ _ _ _ _ _ _ _ _
  exact ⟨fun _ => p1_480 hn (Nat.le_refl _), fun z => absurd rfl z⟩
set_option maxRecDepth 100000 in
theorem p1_b24_0 : mm_blk 24 0 = some [.aload 0, .invokeinterface 0 5, .iload 1, .invokevirtual 25, .ireturn] := by decide +kernel
set_option maxRecDepth 100000 in
theorem p1_ml24 : mm_ml 24 = 2 := by decide +kernel
set_option maxRecDepth 100000 in
theorem p1_Fh_0_0_5 : mm_fld p1_h 0 0 5 = some (vR 19) := by decide +kernel
set_option maxRecDepth 100000 in
theorem p1_G24 {Z : Nat → List Int32} {k : Int32} : mm_G Z 11 24 [vR 0, vI k] p1_h (fun r h => r = aX (vI 0) ∧ h = p1_h) := by
  refine mm_G_of (by rw [p1_ml24]; exact Nat.le_refl _) ?_
  rw [p1_ml24]
  refine mm_at_blk (L := [some (vR 0), some (vI k)]) p1_b24_0 (by omega) (Or.inl rfl) ?_
  refine mm_st rfl rfl ?_
  refine mm_gf p1_Fh_0_0_5 ?_
  refine mm_st rfl rfl ?_
  refine mm_iv (d := 10) (vs := [vR 19, vI k]) (r := []) p1_na25 (by simp) (by rw [p1_ci25]; exact p1_R19) p1_G25 (fun r h hr => ?_)
  obtain ⟨rfl, rfl⟩ := hr
  exact ⟨rfl, rfl⟩
set_option maxRecDepth 100000 in
theorem p1_b165_0 : mm_blk 165 0 = some [.aload 0, .sipush (0), .multianewarray 10 0, .iload 1, .ifCond .lt 26, .iload 1, .aload 0, .invokeinterface 10 51, .if_icmp .ge 26, .aload 0, .invokeinterface 10 54, .iload 1, .iaload, .goto 27] := by decide +kernel
set_option maxRecDepth 100000 in
theorem p1_b165_26 : mm_blk 165 26 = some [.sipush (0), .goto_w 27] := by decide +kernel
set_option maxRecDepth 100000 in
theorem p1_b165_27 : mm_blk 165 27 = some [.ireturn] := by decide +kernel
set_option maxRecDepth 100000 in
theorem p1_ml165 : mm_ml 165 = 2 := by decide +kernel
set_option maxRecDepth 100000 in
theorem p1_Fm_25_10_51 : mm_fld p1_m 25 10 51 = some (vI 0) := by decide +kernel
set_option maxRecDepth 100000 in
theorem p1_G165 {Z : Nat → List Int32} {k : Int32} : mm_G Z 11 165 [vR 25, vI k] p1_h (fun r _ => r = aX (vI 0)) := by
  have h27 : mm_P Z 11 165 27 [some (vR 25), some (vI k)] [vI 0] p1_m (fun r _ => r = aX (vI 0)) := mm_at_blk (L := [some (vR 25), some (vI k)]) p1_b165_27 (by omega) (Or.inl rfl) (rfl)
  have h26 : mm_P Z 11 165 26 [some (vR 25), some (vI k)] [] p1_m (fun r _ => r = aX (vI 0)) := mm_at_blk (L := [some (vR 25), some (vI k)]) p1_b165_26 (by omega) (Or.inl rfl) (mm_st rfl rfl h27)
  refine mm_G_of (by rw [p1_ml165]; exact Nat.le_refl _) ?_
  rw [p1_ml165]
  refine mm_at_blk (L := [some (vR 25), some (vI k)]) p1_b165_0 (by omega) (Or.inl rfl) ?_
  refine mm_st rfl rfl ?_
  refine mm_st rfl rfl ?_
  refine mm_pfi p1_K0 p1_put_eq ?_
  refine mm_st rfl rfl ?_
  refine ⟨fun _ => h26, fun z => ?_⟩
  refine mm_st rfl rfl ?_
  refine mm_st rfl rfl ?_
  refine mm_gf p1_Fm_25_10_51 ?_
  refine ⟨fun _ => h26, fun z2 => ?_⟩
  exact absurd (Int32.not_lt.mp z) z2
set_option maxRecDepth 100000 in
theorem p1_b23_0 : mm_blk 23 0 = some [.iload 1, .lookupswitch 88 #[(0, 40), (1, 48), (2, 56), (3, 64), (4, 72), (5, 80)]] := by decide +kernel
set_option maxRecDepth 100000 in
theorem p1_b23_40 : mm_blk 23 40 = some [.aload 0, .invokeinterface 0 5, .invokeinterface 5 6, .ireturn] := by decide +kernel
set_option maxRecDepth 100000 in
theorem p1_b23_48 : mm_blk 23 48 = some [.aload 0, .invokeinterface 0 5, .invokeinterface 5 7, .ireturn] := by decide +kernel
set_option maxRecDepth 100000 in
theorem p1_b23_56 : mm_blk 23 56 = some [.aload 0, .invokeinterface 0 5, .invokeinterface 5 8, .ireturn] := by decide +kernel
set_option maxRecDepth 100000 in
theorem p1_b23_64 : mm_blk 23 64 = some [.aload 0, .invokeinterface 0 5, .invokeinterface 5 2, .ireturn] := by decide +kernel
set_option maxRecDepth 100000 in
theorem p1_b23_72 : mm_blk 23 72 = some [.aload 0, .invokeinterface 0 5, .invokeinterface 5 5, .ireturn] := by decide +kernel
set_option maxRecDepth 100000 in
theorem p1_b23_80 : mm_blk 23 80 = some [.aload 0, .invokeinterface 0 5, .invokeinterface 5 9, .ireturn] := by decide +kernel
set_option maxRecDepth 100000 in
theorem p1_b23_88 : mm_blk 23 88 = some [.sipush (-1), .ireturn] := by decide +kernel
set_option maxRecDepth 100000 in
theorem p1_ml23 : mm_ml 23 = 2 := by decide +kernel
set_option maxRecDepth 100000 in
theorem p1_Fh_19_5_6 : mm_fld p1_h 19 5 6 = some (vI 0) := by decide +kernel
set_option maxRecDepth 100000 in
theorem p1_Fh_19_5_7 : mm_fld p1_h 19 5 7 = some (vI 0) := by decide +kernel
set_option maxRecDepth 100000 in
theorem p1_Fh_19_5_8 : mm_fld p1_h 19 5 8 = some (vI 0) := by decide +kernel
set_option maxRecDepth 100000 in
theorem p1_Fh_19_5_2 : mm_fld p1_h 19 5 2 = some (vI 0) := by decide +kernel
set_option maxRecDepth 100000 in
theorem p1_Fh_19_5_5 : mm_fld p1_h 19 5 5 = some (vI 0) := by decide +kernel
set_option maxRecDepth 100000 in
theorem p1_Fh_19_5_9 : mm_fld p1_h 19 5 9 = some (vI 0) := by decide +kernel
set_option maxRecDepth 100000 in
theorem p1_G23 {Z : Nat → List Int32} {k : Int32} : mm_G Z 11 23 [vR 0, vI k] p1_h (fun r h => r = aX (vI (if k = Int32.ofInt 0 ∨ k = Int32.ofInt 1 ∨ k = Int32.ofInt 2 ∨ k = Int32.ofInt 3 ∨ k = Int32.ofInt 4 ∨ k = Int32.ofInt 5 then 0 else -1)) ∧ h = p1_h) := by
  have h40 : mm_P Z 11 23 40 [some (vR 0), some (vI k)] [] p1_h (fun r h => r = aX (vI 0) ∧ h = p1_h) := mm_at_blk (L := [some (vR 0), some (vI k)]) p1_b23_40 (by omega) (Or.inl rfl) (mm_st rfl rfl (mm_gf p1_Fh_0_0_5 (mm_gf p1_Fh_19_5_6 ⟨rfl, rfl⟩)))
  have h48 : mm_P Z 11 23 48 [some (vR 0), some (vI k)] [] p1_h (fun r h => r = aX (vI 0) ∧ h = p1_h) := mm_at_blk (L := [some (vR 0), some (vI k)]) p1_b23_48 (by omega) (Or.inl rfl) (mm_st rfl rfl (mm_gf p1_Fh_0_0_5 (mm_gf p1_Fh_19_5_7 ⟨rfl, rfl⟩)))
  have h56 : mm_P Z 11 23 56 [some (vR 0), some (vI k)] [] p1_h (fun r h => r = aX (vI 0) ∧ h = p1_h) := mm_at_blk (L := [some (vR 0), some (vI k)]) p1_b23_56 (by omega) (Or.inl rfl) (mm_st rfl rfl (mm_gf p1_Fh_0_0_5 (mm_gf p1_Fh_19_5_8 ⟨rfl, rfl⟩)))
  have h64 : mm_P Z 11 23 64 [some (vR 0), some (vI k)] [] p1_h (fun r h => r = aX (vI 0) ∧ h = p1_h) := mm_at_blk (L := [some (vR 0), some (vI k)]) p1_b23_64 (by omega) (Or.inl rfl) (mm_st rfl rfl (mm_gf p1_Fh_0_0_5 (mm_gf p1_Fh_19_5_2 ⟨rfl, rfl⟩)))
  have h72 : mm_P Z 11 23 72 [some (vR 0), some (vI k)] [] p1_h (fun r h => r = aX (vI 0) ∧ h = p1_h) := mm_at_blk (L := [some (vR 0), some (vI k)]) p1_b23_72 (by omega) (Or.inl rfl) (mm_st rfl rfl (mm_gf p1_Fh_0_0_5 (mm_gf p1_Fh_19_5_5 ⟨rfl, rfl⟩)))
  have h80 : mm_P Z 11 23 80 [some (vR 0), some (vI k)] [] p1_h (fun r h => r = aX (vI 0) ∧ h = p1_h) := mm_at_blk (L := [some (vR 0), some (vI k)]) p1_b23_80 (by omega) (Or.inl rfl) (mm_st rfl rfl (mm_gf p1_Fh_0_0_5 (mm_gf p1_Fh_19_5_9 ⟨rfl, rfl⟩)))
  have h88 : mm_P Z 11 23 88 [some (vR 0), some (vI k)] [] p1_h (fun r h => r = aX (vI (-1)) ∧ h = p1_h) := mm_at_blk (L := [some (vR 0), some (vI k)]) p1_b23_88 (by omega) (Or.inl rfl) (mm_st rfl rfl ⟨rfl, rfl⟩)
  refine mm_G_of (by rw [p1_ml23]; exact Nat.le_refl _) ?_
  rw [p1_ml23]
  refine mm_at_blk (L := [some (vR 0), some (vI k)]) p1_b23_0 (by omega) (Or.inl rfl) ?_
  refine mm_st rfl rfl ?_
  refine ⟨fun z => by rw [if_pos (by simp [z])]; exact h40, fun z0 => ⟨fun z => by rw [if_pos (by simp [z])]; exact h48, fun z1 => ⟨fun z => by rw [if_pos (by simp [z])]; exact h56, fun z2 => ⟨fun z => by rw [if_pos (by simp [z])]; exact h64, fun z3 => ⟨fun z => by rw [if_pos (by simp [z])]; exact h72, fun z4 => ⟨fun z => by rw [if_pos (by simp [z])]; exact h80, fun z5 => ?_⟩⟩⟩⟩⟩⟩
  rw [if_neg (by simp only [not_or]; exact ⟨z0, z1, z2, z3, z4, z5⟩)]
  exact h88
set_option maxRecDepth 100000 in
theorem p1_b164_0 : mm_blk 164 0 = some [.aload 0, .sipush (0), .multianewarray 10 0, .iload 1, .lookupswitch 74 #[(0, 44), (1, 49), (2, 54), (3, 59), (4, 64), (5, 69)]] := by decide +kernel
set_option maxRecDepth 100000 in
theorem p1_b164_44 : mm_blk 164 44 = some [.aload 0, .invokeinterface 10 48, .ireturn] := by decide +kernel
set_option maxRecDepth 100000 in
theorem p1_b164_49 : mm_blk 164 49 = some [.aload 0, .invokeinterface 10 49, .ireturn] := by decide +kernel
set_option maxRecDepth 100000 in
theorem p1_b164_54 : mm_blk 164 54 = some [.aload 0, .invokeinterface 10 50, .ireturn] := by decide +kernel
set_option maxRecDepth 100000 in
theorem p1_b164_59 : mm_blk 164 59 = some [.aload 0, .invokeinterface 10 51, .ireturn] := by decide +kernel
set_option maxRecDepth 100000 in
theorem p1_b164_64 : mm_blk 164 64 = some [.aload 0, .invokeinterface 10 52, .ireturn] := by decide +kernel
set_option maxRecDepth 100000 in
theorem p1_b164_69 : mm_blk 164 69 = some [.aload 0, .invokeinterface 10 53, .ireturn] := by decide +kernel
set_option maxRecDepth 100000 in
theorem p1_b164_74 : mm_blk 164 74 = some [.sipush (-1), .ireturn] := by decide +kernel
set_option maxRecDepth 100000 in
theorem p1_ml164 : mm_ml 164 = 2 := by decide +kernel
set_option maxRecDepth 100000 in
theorem p1_Fm_25_10_48 : mm_fld p1_m 25 10 48 = some (vI 0) := by decide +kernel
set_option maxRecDepth 100000 in
theorem p1_Fm_25_10_49 : mm_fld p1_m 25 10 49 = some (vI 0) := by decide +kernel
set_option maxRecDepth 100000 in
theorem p1_Fm_25_10_50 : mm_fld p1_m 25 10 50 = some (vI 0) := by decide +kernel
set_option maxRecDepth 100000 in
theorem p1_Fm_25_10_52 : mm_fld p1_m 25 10 52 = some (vI 0) := by decide +kernel
set_option maxRecDepth 100000 in
theorem p1_Fm_25_10_53 : mm_fld p1_m 25 10 53 = some (vI 0) := by decide +kernel
set_option maxRecDepth 100000 in
theorem p1_G164 {Z : Nat → List Int32} {k : Int32} : mm_G Z 11 164 [vR 25, vI k] p1_h (fun r _ => r = aX (vI (if k = Int32.ofInt 0 ∨ k = Int32.ofInt 1 ∨ k = Int32.ofInt 2 ∨ k = Int32.ofInt 3 ∨ k = Int32.ofInt 4 ∨ k = Int32.ofInt 5 then 0 else -1))) := by
  have h44 : mm_P Z 11 164 44 [some (vR 25), some (vI k)] [] p1_m (fun r _ => r = aX (vI 0)) := mm_at_blk (L := [some (vR 25), some (vI k)]) p1_b164_44 (by omega) (Or.inl rfl) (mm_st rfl rfl (mm_gf p1_Fm_25_10_48 rfl))
  have h49 : mm_P Z 11 164 49 [some (vR 25), some (vI k)] [] p1_m (fun r _ => r = aX (vI 0)) := mm_at_blk (L := [some (vR 25), some (vI k)]) p1_b164_49 (by omega) (Or.inl rfl) (mm_st rfl rfl (mm_gf p1_Fm_25_10_49 rfl))
  have h54 : mm_P Z 11 164 54 [some (vR 25), some (vI k)] [] p1_m (fun r _ => r = aX (vI 0)) := mm_at_blk (L := [some (vR 25), some (vI k)]) p1_b164_54 (by omega) (Or.inl rfl) (mm_st rfl rfl (mm_gf p1_Fm_25_10_50 rfl))
  have h59 : mm_P Z 11 164 59 [some (vR 25), some (vI k)] [] p1_m (fun r _ => r = aX (vI 0)) := mm_at_blk (L := [some (vR 25), some (vI k)]) p1_b164_59 (by omega) (Or.inl rfl) (mm_st rfl rfl (mm_gf p1_Fm_25_10_51 rfl))
  have h64 : mm_P Z 11 164 64 [some (vR 25), some (vI k)] [] p1_m (fun r _ => r = aX (vI 0)) := mm_at_blk (L := [some (vR 25), some (vI k)]) p1_b164_64 (by omega) (Or.inl rfl) (mm_st rfl rfl (mm_gf p1_Fm_25_10_52 rfl))
  have h69 : mm_P Z 11 164 69 [some (vR 25), some (vI k)] [] p1_m (fun r _ => r = aX (vI 0)) := mm_at_blk (L := [some (vR 25), some (vI k)]) p1_b164_69 (by omega) (Or.inl rfl) (mm_st rfl rfl (mm_gf p1_Fm_25_10_53 rfl))
  have h74 : mm_P Z 11 164 74 [some (vR 25), some (vI k)] [] p1_m (fun r _ => r = aX (vI (-1))) := mm_at_blk (L := [some (vR 25), some (vI k)]) p1_b164_74 (by omega) (Or.inl rfl) (mm_st rfl rfl rfl)
  refine mm_G_of (by rw [p1_ml164]; exact Nat.le_refl _) ?_
  rw [p1_ml164]
  refine mm_at_blk (L := [some (vR 25), some (vI k)]) p1_b164_0 (by omega) (Or.inl rfl) ?_
  refine mm_st rfl rfl ?_
  refine mm_st rfl rfl ?_
  refine mm_pfi p1_K0 p1_put_eq ?_
  refine mm_st rfl rfl ?_
  refine ⟨fun z => by rw [if_pos (by simp [z])]; exact h44, fun z0 => ⟨fun z => by rw [if_pos (by simp [z])]; exact h49, fun z1 => ⟨fun z => by rw [if_pos (by simp [z])]; exact h54, fun z2 => ⟨fun z => by rw [if_pos (by simp [z])]; exact h59, fun z3 => ⟨fun z => by rw [if_pos (by simp [z])]; exact h64, fun z4 => ⟨fun z => by rw [if_pos (by simp [z])]; exact h69, fun z5 => ?_⟩⟩⟩⟩⟩⟩
  rw [if_neg (by simp only [not_or]; exact ⟨z0, z1, z2, z3, z4, z5⟩)]
  exact h74
set_option maxRecDepth 100000 in
theorem p1_b16_0 : mm_blk 16 0 = some [.iload 1, .ifCond .lt 21, .iload 1, .aload 0, .invokeinterface 1 1, .if_icmp .ge 21, .aload 0, .invokeinterface 1 0, .iload 1, .iaload, .goto 22] := by decide +kernel
set_option maxRecDepth 100000 in
theorem p1_b16_21 : mm_blk 16 21 = some [.sipush (-1), .goto_w 22] := by decide +kernel
set_option maxRecDepth 100000 in
theorem p1_b16_22 : mm_blk 16 22 = some [.ireturn] := by decide +kernel
set_option maxRecDepth 100000 in
theorem p1_ml16 : mm_ml 16 = 2 := by decide +kernel
set_option maxRecDepth 100000 in
theorem p1_Fh_20_1_1 : mm_fld p1_h 20 1 1 = some (vI 0) := by decide +kernel
set_option maxRecDepth 100000 in
theorem p1_G16 {Z : Nat → List Int32} {k : Int32} : mm_G Z 9 16 [vR 20, vI k] p1_h (fun r h => r = aX (vI (-1)) ∧ h = p1_h) := by
  have h22 : mm_P Z 9 16 22 [some (vR 20), some (vI k)] [vI (-1)] p1_h (fun r h => r = aX (vI (-1)) ∧ h = p1_h) := mm_at_blk (L := [some (vR 20), some (vI k)]) p1_b16_22 (by omega) (Or.inl rfl) (⟨rfl, rfl⟩)
  have h21 : mm_P Z 9 16 21 [some (vR 20), some (vI k)] [] p1_h (fun r h => r = aX (vI (-1)) ∧ h = p1_h) := mm_at_blk (L := [some (vR 20), some (vI k)]) p1_b16_21 (by omega) (Or.inl rfl) (mm_st rfl rfl h22)
  refine mm_G_of (by rw [p1_ml16]; exact Nat.le_refl _) ?_
  rw [p1_ml16]
  refine mm_at_blk (L := [some (vR 20), some (vI k)]) p1_b16_0 (by omega) (Or.inl rfl) ?_
  refine mm_st rfl rfl ?_
  refine ⟨fun _ => h21, fun z => ?_⟩
  refine mm_st rfl rfl ?_
  refine mm_st rfl rfl ?_
  refine mm_gf p1_Fh_20_1_1 ?_
  refine ⟨fun _ => h21, fun z2 => ?_⟩
  exact absurd (Int32.not_lt.mp z) z2
set_option maxRecDepth 100000 in
theorem p1_b15_0 : mm_blk 15 0 = some [.iload 1, .sipush (-1), .if_icmp .ne 12, .aload 0, .invokeinterface 1 1, .goto 17] := by decide +kernel
set_option maxRecDepth 100000 in
theorem p1_b15_12 : mm_blk 15 12 = some [.aload 0, .iload 1, .invokevirtual 16, .goto_w 17] := by decide +kernel
set_option maxRecDepth 100000 in
theorem p1_b15_17 : mm_blk 15 17 = some [.ireturn] := by decide +kernel
set_option maxRecDepth 100000 in
theorem p1_ml15 : mm_ml 15 = 2 := by decide +kernel
set_option maxRecDepth 100000 in
theorem p1_G15 {Z : Nat → List Int32} {k : Int32} : mm_G Z 10 15 [vR 20, vI k] p1_h (fun r h => r = aX (vI (if k = Int32.ofInt (-1) then 0 else -1)) ∧ h = p1_h) := by
  have h17 : ∀ y : Int32, mm_P Z 10 15 17 [some (vR 20), some (vI k)] [vI y] p1_h (fun r h => r = aX (vI y) ∧ h = p1_h) := fun y => mm_at_blk (L := [some (vR 20), some (vI k)]) p1_b15_17 (by omega) (Or.inl rfl) ⟨rfl, rfl⟩
  have h12 : mm_P Z 10 15 12 [some (vR 20), some (vI k)] [] p1_h (fun r h => r = aX (vI (-1)) ∧ h = p1_h) := mm_at_blk (L := [some (vR 20), some (vI k)]) p1_b15_12 (by omega) (Or.inl rfl) (mm_st rfl rfl (mm_st rfl rfl (mm_iv (d := 9) (vs := [vR 20, vI k]) (r := []) p1_na16 (by simp) (by rw [p1_ci16]; exact p1_R20) p1_G16 (fun r h hr => by obtain ⟨rfl, rfl⟩ := hr; exact h17 (-1)))))
  refine mm_G_of (by rw [p1_ml15]; exact Nat.le_refl _) ?_
  rw [p1_ml15]
  refine mm_at_blk (L := [some (vR 20), some (vI k)]) p1_b15_0 (by omega) (Or.inl rfl) ?_
  refine mm_st rfl rfl ?_
  refine mm_st rfl rfl ?_
  refine ⟨fun z => ?_, fun z => ?_⟩
  · rw [if_neg z]
    exact h12
  · have z : k = Int32.ofInt (-1) := Classical.not_not.mp z
    rw [if_pos z]
    exact mm_st rfl rfl (mm_gf p1_Fh_20_1_1 (h17 0))
set_option maxRecDepth 100000 in
theorem p1_b20_0 : mm_blk 20 0 = some [.aload 0, .invokeinterface 0 5, .invokeinterface 5 0, .iload 1, .invokevirtual 15, .ireturn] := by decide +kernel
set_option maxRecDepth 100000 in
theorem p1_ml20 : mm_ml 20 = 2 := by decide +kernel
set_option maxRecDepth 100000 in
theorem p1_Fh_19_5_0 : mm_fld p1_h 19 5 0 = some (vR 20) := by decide +kernel
set_option maxRecDepth 100000 in
theorem p1_G20 {Z : Nat → List Int32} {k : Int32} : mm_G Z 11 20 [vR 0, vI k] p1_h (fun r h => r = aX (vI (if k = Int32.ofInt (-1) then 0 else -1)) ∧ h = p1_h) := by
  refine mm_G_of (by rw [p1_ml20]; exact Nat.le_refl _) ?_
  rw [p1_ml20]
  refine mm_at_blk (L := [some (vR 0), some (vI k)]) p1_b20_0 (by omega) (Or.inl rfl) ?_
  refine mm_st rfl rfl ?_
  refine mm_gf p1_Fh_0_0_5 ?_
  refine mm_gf p1_Fh_19_5_0 ?_
  refine mm_st rfl rfl ?_
  refine mm_iv (d := 10) (vs := [vR 20, vI k]) (r := []) p1_na15 (by simp) (by rw [p1_ci15]; exact p1_R20) p1_G15 (fun r h hr => ?_)
  obtain ⟨rfl, rfl⟩ := hr
  exact ⟨rfl, rfl⟩
set_option maxRecDepth 100000 in
theorem p1_b157_0 : mm_blk 157 0 = some [.aload 0, .sipush (0), .multianewarray 10 0, .iload 1, .sipush (-1), .if_icmp .ne 17, .aload 0, .invokeinterface 10 46, .goto 43] := by decide +kernel
set_option maxRecDepth 100000 in
theorem p1_b157_17 : mm_blk 157 17 = some [.iload 1, .ifCond .lt 42, .iload 1, .aload 0, .invokeinterface 10 46, .if_icmp .ge 42, .aload 0, .invokeinterface 10 47, .iload 1, .baload, .sipush (255), .iand, .goto 43] := by decide +kernel
set_option maxRecDepth 100000 in
theorem p1_b157_42 : mm_blk 157 42 = some [.sipush (-1), .goto_w 43] := by decide +kernel
set_option maxRecDepth 100000 in
theorem p1_b157_43 : mm_blk 157 43 = some [.ireturn] := by decide +kernel
set_option maxRecDepth 100000 in
theorem p1_ml157 : mm_ml 157 = 2 := by decide +kernel
set_option maxRecDepth 100000 in
theorem p1_Fm_25_10_46 : mm_fld p1_m 25 10 46 = some (vI 0) := by decide +kernel
set_option maxRecDepth 100000 in
theorem p1_G157 {Z : Nat → List Int32} {k : Int32} : mm_G Z 11 157 [vR 25, vI k] p1_h (fun r _ => r = aX (vI (if k = Int32.ofInt (-1) then 0 else -1))) := by
  have h43 : ∀ y : Int32, mm_P Z 11 157 43 [some (vR 25), some (vI k)] [vI y] p1_m (fun r _ => r = aX (vI y)) := fun y => mm_at_blk (L := [some (vR 25), some (vI k)]) p1_b157_43 (by omega) (Or.inl rfl) rfl
  have h42 : mm_P Z 11 157 42 [some (vR 25), some (vI k)] [] p1_m (fun r _ => r = aX (vI (-1))) := mm_at_blk (L := [some (vR 25), some (vI k)]) p1_b157_42 (by omega) (Or.inl rfl) (mm_st rfl rfl (h43 (-1)))
  have h17 : mm_P Z 11 157 17 [some (vR 25), some (vI k)] [] p1_m (fun r _ => r = aX (vI (-1))) := mm_at_blk (L := [some (vR 25), some (vI k)]) p1_b157_17 (by omega) (Or.inl rfl) (mm_st rfl rfl ⟨fun _ => h42, fun z => mm_st rfl rfl (mm_st rfl rfl (mm_gf p1_Fm_25_10_46 ⟨fun _ => h42, fun z2 => absurd (Int32.not_lt.mp z) z2⟩))⟩)
  refine mm_G_of (by rw [p1_ml157]; exact Nat.le_refl _) ?_
  rw [p1_ml157]
  refine mm_at_blk (L := [some (vR 25), some (vI k)]) p1_b157_0 (by omega) (Or.inl rfl) ?_
  refine mm_st rfl rfl ?_
  refine mm_st rfl rfl ?_
  refine mm_pfi p1_K0 p1_put_eq ?_
  refine mm_st rfl rfl ?_
  refine mm_st rfl rfl ?_
  refine ⟨fun z => ?_, fun z => ?_⟩
  · rw [if_neg z]
    exact h17
  · have z : k = Int32.ofInt (-1) := Classical.not_not.mp z
    rw [if_pos z]
    exact mm_st rfl rfl (mm_gf p1_Fm_25_10_46 (h43 0))
set_option maxRecDepth 100000 in
theorem p1_b167_442 : mm_blk 167 442 = some [.aload 1, .aload 0, .iload 4, .sipush (1), .iadd, .iaload, .invokevirtual 24, .aload 2, .aload 0, .iload 4, .sipush (1), .iadd, .iaload, .invokevirtual 165, .if_icmp .eq 480, .sipush (0), .freturn] := by decide +kernel
theorem p1_c442 {Z : Nat → List Int32} (hn : (Z 1).length = 3) : mm_P Z 12 167 442 (p1_L 0 none none) [] p1_h p1_Post := p1_case1 p1_b167_442 hn p1_na24 p1_na165 p1_ci24 p1_ci165 (fun k => ⟨_, p1_G24, p1_G165⟩)
set_option maxRecDepth 100000 in
theorem p1_b167_417 : mm_blk 167 417 = some [.aload 1, .aload 0, .iload 4, .sipush (1), .iadd, .iaload, .invokevirtual 23, .aload 2, .aload 0, .iload 4, .sipush (1), .iadd, .iaload, .invokevirtual 164, .if_icmp .eq 480, .sipush (0), .freturn] := by decide +kernel
theorem p1_c417 {Z : Nat → List Int32} (hn : (Z 1).length = 3) : mm_P Z 12 167 417 (p1_L 0 none none) [] p1_h p1_Post := p1_case1 p1_b167_417 hn p1_na23 p1_na164 p1_ci23 p1_ci164 (fun k => ⟨_, p1_G23, p1_G164⟩)
set_option maxRecDepth 100000 in
theorem p1_b167_323 : mm_blk 167 323 = some [.aload 1, .aload 0, .iload 4, .sipush (1), .iadd, .iaload, .invokevirtual 20, .aload 2, .aload 0, .iload 4, .sipush (1), .iadd, .iaload, .invokevirtual 157, .if_icmp .eq 480, .sipush (0), .freturn] := by decide +kernel
theorem p1_c323 {Z : Nat → List Int32} (hn : (Z 1).length = 3) : mm_P Z 12 167 323 (p1_L 0 none none) [] p1_h p1_Post := p1_case1 p1_b167_323 hn p1_na20 p1_na157 p1_ci20 p1_ci157 (fun k => ⟨_, p1_G20, p1_G157⟩)
end
section
def p1_compR : Option (mm_A × mm_H) := mm_run 600 4 27 [vR 0] p1_h
def p1_compH : mm_H := (p1_compR.map fun r => r.2).getD p1_h
set_option maxRecDepth 100000 in
theorem p1_compT : p1_compR.map (fun r => mm_eqA r.1 (aT 0)) = some true := by decide +kernel
theorem p1_compG {Z : Nat → List Int32} : mm_G Z 10 27 [vR 0] p1_h (fun r h => r = aT 0 ∧ h = p1_compH) := by
  have h := p1_compT
  rcases hq : p1_compR with _ | ⟨r, hh⟩
  · rw [hq] at h; cases h
  · rw [hq] at h
    simp only [Option.map_some, Option.some.injEq, mm_eqA, decide_eq_true_eq] at h
    refine mm_run_G (n := 600) (d := 4) (r := r) (h' := hh) hq ⟨h, ?_⟩
    unfold p1_compH
    rw [hq]; rfl
set_option maxRecDepth 100000 in
theorem p1_b168_0 : mm_blk 168 0 = some [.aload 1, .sipush (0), .aload 0, .goto_w 3] := by decide +kernel
set_option maxRecDepth 100000 in
theorem p1_ml168 : mm_ml 168 = 3 := by decide +kernel
set_option maxRecDepth 100000 in
theorem p1_compA : ∃ fs, p1_h.1[0]? = some (.inl (mm_ci 27, fs)) := by
  have h : mm_rcvb p1_h [vR 0] (mm_ci 27) = true := by decide +kernel
  exact mm_rcvb_of h
set_option maxRecDepth 100000 in
theorem p1_G168 {Z : Nat → List Int32} : mm_G Z 11 168 [vR 0, vR 58] p1_h (fun r h => r = aX (vI 1) ∧ h = p1_compH) := by
  obtain ⟨fs, ha⟩ := p1_compA
  refine mm_G_of (by rw [p1_ml168]; decide) ?_
  rw [p1_ml168]
  refine mm_at_blk (L := [some (vR 0), some (vR 58), none]) p1_b168_0 (by omega) (Or.inr (by decide)) ?_
  refine mm_st rfl rfl ?_
  refine mm_st rfl rfl ?_
  refine mm_st rfl rfl ?_
  exact mm_catchP (d := 10) (mi := 168) (k := 27) (pc := 3) (idx := 7) (i0 := 394) (i1 := 395) (i2 := 396) (i4 := 397) (i5 := 391) (i6 := 489) (a := 0) (as := []) (rest := [vI 0, vR 58]) (q := ("LispForge", mm_T0, 8)) (hp := 11) (ct := 13) (ex := 0) (sl := 2) (n := 1) (x0 := 1) (s0 := 0) (e0 := 8) (by decide +kernel) (by decide +kernel) (by decide +kernel) (by decide +kernel) (by decide +kernel) (by decide +kernel) (by decide +kernel) (by decide +kernel) (by decide +kernel) rfl ha (by decide) p1_compG (fun v h' z => by cases z.1) rfl (by decide) (by decide) (by decide) (by decide +kernel) (by decide +kernel) (fun e' h' z => ⟨Sum.inr.inj z.1, rfl, z.2⟩) (by decide +kernel) (by decide +kernel) (by decide) (by decide +kernel) (by decide +kernel) (by decide +kernel)
set_option maxRecDepth 100000 in
theorem p1_b167_161 : mm_blk 167 161 = some [.aload 1, .aload 3, .putstatic 168, .istore 5, .aload 2, .invokevirtual 111, .istore 6, .aload 2, .invokevirtual 109, .iload 5, .if_icmp .eq 185, .sipush (0), .freturn] := by decide +kernel
def p1_compTail : List Instr := [.istore 5, .aload 2, .invokevirtual 111, .istore 6, .aload 2, .invokevirtual 109, .iload 5, .if_icmp .eq 185, .sipush (0), .freturn]
def p1_compE : Option (Nat × (mm_L × (List mm_V × mm_H))) := mm_lin 600 5 167 p1_compTail (p1_L 0 none none) [vI 1] p1_compH
set_option maxRecDepth 100000 in
theorem p1_compE1 : p1_compE.map (fun r => r.1) = some 185 := by decide +kernel
set_option maxRecDepth 100000 in
theorem p1_compE2 : p1_compE.map (fun r => mm_eqL r.2.1 (p1_L 0 (some (vI 1)) (some (vI 0)))) = some true := by decide +kernel
set_option maxRecDepth 100000 in
theorem p1_compE3 : p1_compE.map (fun r => mm_eqS r.2.2.1 []) = some true := by decide +kernel
set_option maxRecDepth 100000 in
theorem p1_b167_185 : mm_blk 167 185 = some [.iload 5, .ifCond .ne 202, .aload 3, .sipush (0), .laload, .iload 6, .i2l, .lcmp, .ifCond .eq 202, .sipush (0), .freturn] := by decide +kernel
set_option maxRecDepth 100000 in
theorem p1_b167_202 : mm_blk 167 202 = some [.goto 480] := by decide +kernel
set_option maxRecDepth 100000 in
theorem p1_na168 : mm_na 168 = 2 := by decide +kernel
set_option maxRecDepth 100000 in
theorem p1_c161 {Z : Nat → List Int32} (hn : (Z 1).length = 3) : mm_P Z 12 167 161 (p1_L 0 none none) [] p1_h p1_Post := by
  obtain ⟨hx, hE⟩ := mm_quad p1_compE1 p1_compE2 p1_compE3
  have h3 : mm_P Z 12 167 202 (p1_L 0 (some (vI 1)) (some (vI 0))) [] hx p1_Post := mm_at_blk p1_b167_202 (by omega) (Or.inl rfl) (p1_480 hn (Nat.le_refl _))
  have h2 : mm_P Z 12 167 185 (p1_L 0 (some (vI 1)) (some (vI 0))) [] hx p1_Post := by
    refine mm_at_blk p1_b167_185 (by omega) (Or.inl rfl) ?_
    refine mm_st rfl rfl ?_
    exact ⟨fun _ => h3, fun z => absurd (mm_cmpb_iff.mp (by decide)) z⟩
  refine mm_at_blk p1_b167_161 (by omega) (Or.inl rfl) ?_
  refine mm_st rfl rfl ?_
  refine mm_st rfl rfl ?_
  show mm_na 168 ≤ _ ∧ _ ∧ _
  rw [p1_na168]
  refine ⟨by decide, by decide, ?_⟩
  refine mm_G_mono (p1_G168 (Z := Z)) (fun r h hr => ?_)
  obtain ⟨rfl, rfl⟩ := hr
  exact mm_lin_wp (D := 12) rfl h2 p1_compTail _ _ _ hE
def p1_linkR : Option (mm_A × mm_H) := mm_run 600 4 87 [vR 0] p1_h
def p1_linkH : mm_H := (p1_linkR.map fun r => r.2).getD p1_h
set_option maxRecDepth 100000 in
theorem p1_linkT : p1_linkR.map (fun r => mm_eqA r.1 (aT 2)) = some true := by decide +kernel
theorem p1_linkG {Z : Nat → List Int32} : mm_G Z 10 87 [vR 0] p1_h (fun r h => r = aT 2 ∧ h = p1_linkH) := by
  have h := p1_linkT
  rcases hq : p1_linkR with _ | ⟨r, hh⟩
  · rw [hq] at h; cases h
  · rw [hq] at h
    simp only [Option.map_some, Option.some.injEq, mm_eqA, decide_eq_true_eq] at h
    refine mm_run_G (n := 600) (d := 4) (r := r) (h' := hh) hq ⟨h, ?_⟩
    unfold p1_linkH
    rw [hq]; rfl
set_option maxRecDepth 100000 in
theorem p1_b169_0 : mm_blk 169 0 = some [.aload 1, .sipush (0), .aload 0, .goto_w 3] := by decide +kernel
set_option maxRecDepth 100000 in
theorem p1_ml169 : mm_ml 169 = 3 := by decide +kernel
set_option maxRecDepth 100000 in
theorem p1_linkA : ∃ fs, p1_h.1[0]? = some (.inl (mm_ci 87, fs)) := by
  have h : mm_rcvb p1_h [vR 0] (mm_ci 87) = true := by decide +kernel
  exact mm_rcvb_of h
set_option maxRecDepth 100000 in
theorem p1_G169 {Z : Nat → List Int32} : mm_G Z 11 169 [vR 0, vR 58] p1_h (fun r h => r = aX (vI 1) ∧ h = p1_linkH) := by
  obtain ⟨fs, ha⟩ := p1_linkA
  refine mm_G_of (by rw [p1_ml169]; decide) ?_
  rw [p1_ml169]
  refine mm_at_blk (L := [some (vR 0), some (vR 58), none]) p1_b169_0 (by omega) (Or.inr (by decide)) ?_
  refine mm_st rfl rfl ?_
  refine mm_st rfl rfl ?_
  refine mm_st rfl rfl ?_
  exact mm_catchP (d := 10) (mi := 169) (k := 87) (pc := 3) (idx := 19) (i0 := 853) (i1 := 854) (i2 := 855) (i4 := 856) (i5 := 393) (i6 := 831) (a := 0) (as := []) (rest := [vI 0, vR 58]) (q := ("LispForge", mm_T0, 8)) (hp := 11) (ct := 17) (ex := 2) (sl := 2) (n := 1) (x0 := 1) (s0 := 0) (e0 := 8) (by decide +kernel) (by decide +kernel) (by decide +kernel) (by decide +kernel) (by decide +kernel) (by decide +kernel) (by decide +kernel) (by decide +kernel) (by decide +kernel) rfl ha (by decide) p1_linkG (fun v h' z => by cases z.1) rfl (by decide) (by decide) (by decide) (by decide +kernel) (by decide +kernel) (fun e' h' z => ⟨Sum.inr.inj z.1, rfl, z.2⟩) (by decide +kernel) (by decide +kernel) (by decide) (by decide +kernel) (by decide +kernel) (by decide +kernel)
set_option maxRecDepth 100000 in
theorem p1_b167_266 : mm_blk 167 266 = some [.aload 1, .aload 3, .putstatic 169, .istore 5, .aload 2, .invokevirtual 148, .istore 6, .aload 2, .invokevirtual 109, .iload 5, .if_icmp .eq 290, .sipush (0), .freturn] := by decide +kernel
def p1_linkTail : List Instr := [.istore 5, .aload 2, .invokevirtual 148, .istore 6, .aload 2, .invokevirtual 109, .iload 5, .if_icmp .eq 290, .sipush (0), .freturn]
def p1_linkE : Option (Nat × (mm_L × (List mm_V × mm_H))) := mm_lin 600 5 167 p1_linkTail (p1_L 0 none none) [vI 1] p1_linkH
set_option maxRecDepth 100000 in
theorem p1_linkE1 : p1_linkE.map (fun r => r.1) = some 290 := by decide +kernel
set_option maxRecDepth 100000 in
theorem p1_linkE2 : p1_linkE.map (fun r => mm_eqL r.2.1 (p1_L 0 (some (vI 1)) (some (vI 0)))) = some true := by decide +kernel
set_option maxRecDepth 100000 in
theorem p1_linkE3 : p1_linkE.map (fun r => mm_eqS r.2.2.1 []) = some true := by decide +kernel
set_option maxRecDepth 100000 in
theorem p1_b167_290 : mm_blk 167 290 = some [.iload 5, .ifCond .ne 307, .aload 3, .sipush (0), .laload, .iload 6, .i2l, .lcmp, .ifCond .eq 307, .sipush (0), .freturn] := by decide +kernel
set_option maxRecDepth 100000 in
theorem p1_b167_307 : mm_blk 167 307 = some [.goto 480] := by decide +kernel
set_option maxRecDepth 100000 in
theorem p1_na169 : mm_na 169 = 2 := by decide +kernel
set_option maxRecDepth 100000 in
theorem p1_c266 {Z : Nat → List Int32} (hn : (Z 1).length = 3) : mm_P Z 12 167 266 (p1_L 0 none none) [] p1_h p1_Post := by
  obtain ⟨hx, hE⟩ := mm_quad p1_linkE1 p1_linkE2 p1_linkE3
  have h3 : mm_P Z 12 167 307 (p1_L 0 (some (vI 1)) (some (vI 0))) [] hx p1_Post := mm_at_blk p1_b167_307 (by omega) (Or.inl rfl) (p1_480 hn (Nat.le_refl _))
  have h2 : mm_P Z 12 167 290 (p1_L 0 (some (vI 1)) (some (vI 0))) [] hx p1_Post := by
    refine mm_at_blk p1_b167_290 (by omega) (Or.inl rfl) ?_
    refine mm_st rfl rfl ?_
    exact ⟨fun _ => h3, fun z => absurd (mm_cmpb_iff.mp (by decide)) z⟩
  refine mm_at_blk p1_b167_266 (by omega) (Or.inl rfl) ?_
  refine mm_st rfl rfl ?_
  refine mm_st rfl rfl ?_
  show mm_na 169 ≤ _ ∧ _ ∧ _
  rw [p1_na169]
  refine ⟨by decide, by decide, ?_⟩
  refine mm_G_mono (p1_G169 (Z := Z)) (fun r h hr => ?_)
  obtain ⟨rfl, rfl⟩ := hr
  exact mm_lin_wp (D := 12) rfl h2 p1_linkTail _ _ _ hE
end
section
set_option maxRecDepth 100000 in
theorem p1_b14_0 : mm_blk 14 0 = some [.iload 1, .ifCond .lt 21, .iload 1, .aload 0, .invokeinterface 8 1, .if_icmp .ge 21, .aload 0, .invokeinterface 8 0, .iload 1, .aaload, .goto 22] := by decide +kernel
set_option maxRecDepth 100000 in
theorem p1_b14_21 : mm_blk 14 21 = some [.aconst_null, .goto_w 22] := by decide +kernel
set_option maxRecDepth 100000 in
theorem p1_b14_22 : mm_blk 14 22 = some [.areturn] := by decide +kernel
set_option maxRecDepth 100000 in
theorem p1_b13_0 : mm_blk 13 0 = some [.aload 0, .invokeinterface 0 2, .iload 1, .invokevirtual 14, .astore 3, .aload 3, .ifnull 21, .aload 3, .invokeinterface 9 0, .sipush (2), .if_icmp .ne 25, .goto_w 21] := by decide +kernel
set_option maxRecDepth 100000 in
theorem p1_b13_21 : mm_blk 13 21 = some [.sipush (-1), .goto 33] := by decide +kernel
set_option maxRecDepth 100000 in
theorem p1_b13_33 : mm_blk 13 33 = some [.ireturn] := by decide +kernel
set_option maxRecDepth 100000 in
theorem p1_b144_0 : mm_blk 144 0 = some [.aload 0, .sipush (0), .multianewarray 10 0, .iload 1, .ifCond .lt 27, .iload 1, .aload 0, .invokeinterface 10 2, .if_icmp .ge 27, .aload 0, .invokeinterface 10 6, .iload 1, .iaload, .sipush (2), .if_icmp .ne 29, .goto_w 27] := by decide +kernel
set_option maxRecDepth 100000 in
theorem p1_b144_27 : mm_blk 144 27 = some [.sipush (-1), .ireturn] := by decide +kernel
set_option maxRecDepth 100000 in
theorem p1_b167_218 : mm_blk 167 218 = some [.aload 1, .aload 0, .iload 4, .sipush (1), .iadd, .iaload, .aload 0, .iload 4, .sipush (2), .iadd, .iaload, .invokevirtual 13, .aload 2, .aload 0, .iload 4, .sipush (1), .iadd, .iaload, .aload 0, .iload 4, .sipush (2), .iadd, .iaload, .invokevirtual 144, .if_icmp .eq 480, .sipush (0), .freturn] := by decide +kernel
set_option maxRecDepth 100000 in
theorem p1_ml13 : mm_ml 13 = 4 := by decide +kernel
set_option maxRecDepth 100000 in
theorem p1_na13 : mm_na 13 = 3 := by decide +kernel
set_option maxRecDepth 100000 in
theorem p1_ci13 : mm_ci 13 = 0 := by decide +kernel
set_option maxRecDepth 100000 in
theorem p1_ml14 : mm_ml 14 = 2 := by decide +kernel
set_option maxRecDepth 100000 in
theorem p1_na14 : mm_na 14 = 2 := by decide +kernel
set_option maxRecDepth 100000 in
theorem p1_ci14 : mm_ci 14 = 8 := by decide +kernel
set_option maxRecDepth 100000 in
theorem p1_ml144 : mm_ml 144 = 11 := by decide +kernel
set_option maxRecDepth 100000 in
theorem p1_na144 : mm_na 144 = 3 := by decide +kernel
set_option maxRecDepth 100000 in
theorem p1_ci144 : mm_ci 144 = 10 := by decide +kernel
set_option maxRecDepth 100000 in
theorem p1_Fh_0_0_2 : mm_fld p1_h 0 0 2 = some (vR 5) := by decide +kernel
set_option maxRecDepth 100000 in
theorem p1_Fh_5_8_1 : mm_fld p1_h 5 8 1 = some (vI 0) := by decide +kernel
set_option maxRecDepth 100000 in
theorem p1_Fm_25_10_2 : mm_fld p1_m 25 10 2 = some (vI 0) := by decide +kernel
set_option maxRecDepth 100000 in
theorem p1_G14 {Z : Nat → List Int32} {u : Int32} : mm_G Z 10 14 [vR 5, vI u] p1_h (fun r h => r = aX vN ∧ h = p1_h) := by
  have h22 : mm_P Z 10 14 22 [some (vR 5), some (vI u)] [vN] p1_h (fun r h => r = aX vN ∧ h = p1_h) := mm_at_blk p1_b14_22 (by omega) (Or.inl rfl) ⟨rfl, rfl⟩
  have h21 : mm_P Z 10 14 21 [some (vR 5), some (vI u)] [] p1_h (fun r h => r = aX vN ∧ h = p1_h) := mm_at_blk p1_b14_21 (by omega) (Or.inl rfl) (mm_st rfl rfl h22)
  refine mm_G_of (by rw [p1_ml14]; exact Nat.le_refl _) ?_
  rw [p1_ml14]
  refine mm_at_blk (L := [some (vR 5), some (vI u)]) p1_b14_0 (by omega) (Or.inl rfl) ?_
  refine mm_st rfl rfl ?_
  refine ⟨fun _ => h21, fun z => ?_⟩
  refine mm_st rfl rfl ?_
  refine mm_st rfl rfl ?_
  refine mm_gf p1_Fh_5_8_1 ?_
  refine ⟨fun _ => h21, fun z2 => ?_⟩
  exact absurd (Int32.not_lt.mp z) z2
set_option maxRecDepth 100000 in
theorem p1_G13 {Z : Nat → List Int32} {u k : Int32} : mm_G Z 11 13 [vR 0, vI u, vI k] p1_h (fun r h => r = aX (vI (-1)) ∧ h = p1_h) := by
  have h33 : mm_P Z 11 13 33 [some (vR 0), some (vI u), some (vI k), some vN] [vI (-1)] p1_h (fun r h => r = aX (vI (-1)) ∧ h = p1_h) := mm_at_blk p1_b13_33 (by omega) (Or.inl rfl) ⟨rfl, rfl⟩
  have h21 : mm_P Z 11 13 21 [some (vR 0), some (vI u), some (vI k), some vN] [] p1_h (fun r h => r = aX (vI (-1)) ∧ h = p1_h) := mm_at_blk p1_b13_21 (by omega) (Or.inl rfl) (mm_st rfl rfl h33)
  refine mm_G_of (by rw [p1_ml13]; exact Nat.le_succ _) ?_
  rw [p1_ml13]
  refine mm_at_blk (L := [some (vR 0), some (vI u), some (vI k), none]) p1_b13_0 (by omega) (Or.inl rfl) ?_
  refine mm_st rfl rfl ?_
  refine mm_gf p1_Fh_0_0_2 ?_
  refine mm_st rfl rfl ?_
  refine mm_iv (d := 10) (vs := [vR 5, vI u]) (r := []) p1_na14 (by simp) (by rw [p1_ci14]; exact p1_R5) p1_G14 (fun r h hr => ?_)
  obtain ⟨rfl, rfl⟩ := hr
  show mm_wp _ _ _ _ _ _ _ _ _ _ _ _
  refine mm_st (L' := [some (vR 0), some (vI u), some (vI k), some vN]) (st' := []) (h' := p1_h) rfl rfl ?_
  refine mm_st rfl rfl ?_
  exact ⟨fun _ => h21, fun z => absurd rfl z⟩
set_option maxRecDepth 100000 in
theorem p1_G144 {Z : Nat → List Int32} {u k : Int32} : mm_G Z 11 144 [vR 25, vI u, vI k] p1_h (fun r _ => r = aX (vI (-1))) := by
  have h27 : mm_P Z 11 144 27 [some (vR 25), some (vI u), some (vI k), none, none, none, none, none, none, none, none] [] p1_m (fun r _ => r = aX (vI (-1))) := mm_at_blk p1_b144_27 (by omega) (Or.inl rfl) (mm_st rfl rfl rfl)
  refine mm_G_of (by rw [p1_ml144]; exact Nat.le_of_ble_eq_true rfl) ?_
  rw [p1_ml144]
  refine mm_at_blk (L := [some (vR 25), some (vI u), some (vI k), none, none, none, none, none, none, none, none]) p1_b144_0 (by omega) (Or.inl rfl) ?_
  refine mm_st rfl rfl ?_
  refine mm_st rfl rfl ?_
  refine mm_pfi p1_K0 p1_put_eq ?_
  refine mm_st rfl rfl ?_
  refine ⟨fun _ => h27, fun z => ?_⟩
  refine mm_st rfl rfl ?_
  refine mm_st rfl rfl ?_
  refine mm_gf p1_Fm_25_10_2 ?_
  refine ⟨fun _ => h27, fun z2 => ?_⟩
  exact absurd (Int32.not_lt.mp z) z2
set_option maxRecDepth 100000 in
theorem p1_c218 {Z : Nat → List Int32} (hn : (Z 1).length = 3) : mm_P Z 12 167 218 (p1_L 0 none none) [] p1_h p1_Post := by
  obtain ⟨u, k, hu, hk⟩ := p1_z hn
  refine mm_at_blk p1_b167_218 (by omega) (Or.inl rfl) ?_
  refine mm_st rfl rfl ?_
  refine mm_st rfl rfl ?_
  refine mm_st rfl rfl ?_
  refine mm_st rfl rfl ?_
  refine mm_st rfl rfl ?_
  refine mm_zi hu ?_
  refine mm_st rfl rfl ?_
  refine mm_st rfl rfl ?_
  refine mm_st rfl rfl ?_
  refine mm_st rfl rfl ?_
  refine mm_zi hk ?_
  refine mm_iv (d := 11) (vs := [vR 0, vI u, vI k]) (r := []) p1_na13 (by simp) (by rw [p1_ci13]; exact p1_R0) p1_G13 (fun r h hr => ?_)
  obtain ⟨rfl, rfl⟩ := hr
  show mm_wp _ _ _ _ _ _ _ _ _ _ _ _
  refine mm_st rfl rfl ?_
  refine mm_st rfl rfl ?_
  refine mm_st rfl rfl ?_
  refine mm_st rfl rfl ?_
  refine mm_st rfl rfl ?_
  refine mm_zi hu ?_
  refine mm_st rfl rfl ?_
  refine mm_st rfl rfl ?_
  refine mm_st rfl rfl ?_
  refine mm_st rfl rfl ?_
  refine mm_zi hk ?_
  refine mm_iv (d := 11) (vs := [vR 25, vI u, vI k]) (r := [vI (-1)]) p1_na144 (by simp) (by rw [p1_ci144]; exact p1_R25) p1_G144 (fun r h hr => ?_)
  subst hr
  show mm_wp _ _ _ _ _ _ _ _ _ _ _ _
  exact ⟨fun _ => p1_480 hn (Nat.le_refl _), fun z => absurd rfl z⟩
end
section
set_option maxRecDepth 100000 in
theorem p1_b97_0 : mm_blk 97 0 = some [.iload 1, .ifCond .lt 11, .iload 1, .sipush (500), .if_icmp .le 21, .goto_w 11] := by decide +kernel
set_option maxRecDepth 100000 in
theorem p1_b97_11 : mm_blk 97 11 = some [.checkcast 0] := by decide +kernel
set_option maxRecDepth 100000 in
theorem p1_b97_21 : mm_blk 97 21 = some [.aload 0, .invokeinterface 0 5, .iload 1, .invokevirtual 98, .ireturn] := by decide +kernel
set_option maxRecDepth 100000 in
theorem p1_b98_0 : mm_blk 98 0 = some [.sipush (0), .istore 2, .goto_w 2] := by decide +kernel
set_option maxRecDepth 100000 in
theorem p1_b98_2 : mm_blk 98 2 = some [.iload 2, .iload 1, .if_icmp .ge 25, .aload 0, .invokeinterface 5 6, .sipush (1), .if_icmp .ne 25, .aload 0, .invokevirtual 99, .iinc 2 (1), .goto 2] := by decide +kernel
set_option maxRecDepth 100000 in
theorem p1_b98_25 : mm_blk 98 25 = some [.iload 2, .ireturn] := by decide +kernel
set_option maxRecDepth 100000 in
theorem p1_b159_0 : mm_blk 159 0 = some [.aload 0, .iload 1, .ifCond .lt 12, .iload 1, .sipush (500), .if_icmp .le 16, .goto_w 12] := by decide +kernel
set_option maxRecDepth 100000 in
theorem p1_b159_12 : mm_blk 159 12 = some [.sipush (1), .goto 17] := by decide +kernel
set_option maxRecDepth 100000 in
theorem p1_b159_16 : mm_blk 159 16 = some [.sipush (0), .goto_w 17] := by decide +kernel
set_option maxRecDepth 100000 in
theorem p1_b159_17 : mm_blk 159 17 = some [.multianewarray 10 0, .sipush (0), .istore 2, .goto_w 22] := by decide +kernel
set_option maxRecDepth 100000 in
theorem p1_b159_22 : mm_blk 159 22 = some [.aload 0, .invokeinterface 10 0, .ifCond .ne 52, .iload 2, .iload 1, .if_icmp .ge 52, .aload 0, .invokeinterface 10 48, .sipush (1), .if_icmp .ne 52, .aload 0, .invokevirtual 160, .iinc 2 (1), .goto 22] := by decide +kernel
set_option maxRecDepth 100000 in
theorem p1_b159_52 : mm_blk 159 52 = some [.iload 2, .ireturn] := by decide +kernel
set_option maxRecDepth 100000 in
theorem p1_b109_0 : mm_blk 109 0 = some [.aload 0, .invokeinterface 10 0, .ireturn] := by decide +kernel
set_option maxRecDepth 100000 in
theorem p1_b167_361 : mm_blk 167 361 = some [.aload 1, .aload 0, .iload 4, .sipush (1), .iadd, .iaload, .aload 3, .putstatic 170, .istore 5, .aload 2, .aload 0, .iload 4, .sipush (1), .iadd, .iaload, .invokevirtual 159, .istore 6, .aload 2, .invokevirtual 109, .iload 5, .if_icmp .eq 397, .sipush (0), .freturn] := by decide +kernel
set_option maxRecDepth 100000 in
theorem p1_b167_397 : mm_blk 167 397 = some [.iload 5, .ifCond .ne 414, .aload 3, .sipush (0), .laload, .iload 6, .i2l, .lcmp, .ifCond .eq 414, .sipush (0), .freturn] := by decide +kernel
set_option maxRecDepth 100000 in
theorem p1_b167_414 : mm_blk 167 414 = some [.goto 480] := by decide +kernel
set_option maxRecDepth 100000 in
theorem p1_b170_0 : mm_blk 170 0 = some [.aload 2, .sipush (0), .aload 0, .iload 1, .goto_w 4] := by decide +kernel
set_option maxRecDepth 100000 in
theorem p1_b170_7 : mm_blk 170 7 = some [.i2l, .lastore, .goto 15] := by decide +kernel
set_option maxRecDepth 100000 in
theorem p1_b170_15 : mm_blk 170 15 = some [.sipush (0), .ireturn] := by decide +kernel
set_option maxRecDepth 100000 in
theorem p1_ml97 : mm_ml 97 = 2 := by decide +kernel
set_option maxRecDepth 100000 in
theorem p1_na97 : mm_na 97 = 2 := by decide +kernel
set_option maxRecDepth 100000 in
theorem p1_ci97 : mm_ci 97 = 0 := by decide +kernel
set_option maxRecDepth 100000 in
theorem p1_ml98 : mm_ml 98 = 3 := by decide +kernel
set_option maxRecDepth 100000 in
theorem p1_na98 : mm_na 98 = 2 := by decide +kernel
set_option maxRecDepth 100000 in
theorem p1_ci98 : mm_ci 98 = 5 := by decide +kernel
set_option maxRecDepth 100000 in
theorem p1_ml159 : mm_ml 159 = 3 := by decide +kernel
set_option maxRecDepth 100000 in
theorem p1_na159 : mm_na 159 = 2 := by decide +kernel
set_option maxRecDepth 100000 in
theorem p1_ci159 : mm_ci 159 = 10 := by decide +kernel
set_option maxRecDepth 100000 in
theorem p1_ml109 : mm_ml 109 = 1 := by decide +kernel
set_option maxRecDepth 100000 in
theorem p1_na109 : mm_na 109 = 1 := by decide +kernel
set_option maxRecDepth 100000 in
theorem p1_ci109 : mm_ci 109 = 10 := by decide +kernel
set_option maxRecDepth 100000 in
theorem p1_ml170 : mm_ml 170 = 4 := by decide +kernel
set_option maxRecDepth 100000 in
theorem p1_na170 : mm_na 170 = 3 := by decide +kernel
def p1_x : mm_H := (p1_h.1, (p1_h.2.1 - 1, p1_h.2.2 - 6))
def p1_o : mm_H := (mm_last p1_h 58 0 (0 : Int32).toInt64).getD p1_h
def p1_xb : mm_H := (mm_put p1_x 25 10 0 (vI 1)).getD p1_h
def p1_og : mm_H := (mm_put p1_o 25 10 0 (vI 0)).getD p1_h
theorem mm_s1_last {K : Nat → List FieldType} {Z : Nat → List Int32} {L : mm_L} {x : Int64} {i : Int32} {a : Nat} {r : List mm_V} {h h' : mm_H} (hl : mm_last h a i x = some h') : mm_s1 K Z .lastore L (vJ x :: vI i :: vR a :: r) h = some (L, r, h') := by simp [mm_s1, hl]
theorem mm_getD {x : Option mm_H} {d : mm_H} (h : x.isSome = true) : x = some (x.getD d) := by
  cases x with
  | none => cases h
  | some y => rfl
set_option maxRecDepth 100000 in
theorem p1_o_eq : mm_last p1_h 58 0 (0 : Int32).toInt64 = some p1_o := mm_getD (by decide +kernel)
set_option maxRecDepth 100000 in
theorem p1_xb_eq : mm_put p1_x 25 10 0 (vI 1) = some p1_xb := mm_getD (by decide +kernel)
set_option maxRecDepth 100000 in
theorem p1_og_eq : mm_put p1_o 25 10 0 (vI 0) = some p1_og := mm_getD (by decide +kernel)
set_option maxRecDepth 100000 in
theorem p1_room : 1 ≤ p1_h.2.1 ∧ 6 ≤ p1_h.2.2 := by decide +kernel
set_option maxRecDepth 100000 in
theorem p1_thr_xb : mm_fld p1_xb 25 10 0 = some (vI 1) := by decide +kernel
set_option maxRecDepth 100000 in
theorem p1_thr_og : mm_fld p1_og 25 10 0 = some (vI 0) := by decide +kernel
set_option maxRecDepth 100000 in
theorem p1_st_og : mm_fld p1_og 25 10 48 = some (vI 0) := by decide +kernel
set_option maxRecDepth 100000 in
theorem p1_out : mm_lald p1_og 58 0 = some (0 : Int32).toInt64 := by decide +kernel
set_option maxRecDepth 100000 in
theorem p1_R25_x : mm_rcvb p1_x [vR 25] 10 = true := by decide +kernel
set_option maxRecDepth 100000 in
theorem p1_R25_o : mm_rcvb p1_o [vR 25] 10 = true := by decide +kernel
set_option maxRecDepth 100000 in
theorem p1_R25_xb : mm_rcvb p1_xb [vR 25] 10 = true := by decide +kernel
set_option maxRecDepth 100000 in
theorem p1_R25_og : mm_rcvb p1_og [vR 25] 10 = true := by decide +kernel
set_option maxRecDepth 100000 in
theorem p1_G98 {Z : Nat → List Int32} {n : Int32} : mm_G Z 9 98 [vR 19, vI n] p1_h (fun r h => r = aX (vI 0) ∧ h = p1_h) := by
  have h25 : mm_P Z 9 98 25 [some (vR 19), some (vI n), some (vI 0)] [] p1_h (fun r h => r = aX (vI 0) ∧ h = p1_h) := mm_at_blk p1_b98_25 (by omega) (Or.inl rfl) (mm_st rfl rfl ⟨rfl, rfl⟩)
  have h2 : mm_P Z 9 98 2 [some (vR 19), some (vI n), some (vI 0)] [] p1_h (fun r h => r = aX (vI 0) ∧ h = p1_h) := by
    refine mm_at_blk p1_b98_2 (by omega) (Or.inl rfl) ?_
    refine mm_st rfl rfl ?_
    refine mm_st rfl rfl ?_
    refine ⟨fun _ => h25, fun _ => ?_⟩
    refine mm_st rfl rfl ?_
    refine mm_gf p1_Fh_19_5_6 ?_
    refine mm_st rfl rfl ?_
    exact ⟨fun _ => h25, fun z => absurd (mm_cmpb_iff.mp (by decide)) z⟩
  refine mm_G_of (by rw [p1_ml98]; exact Nat.le_succ _) ?_
  rw [p1_ml98]
  refine mm_at_blk (L := [some (vR 19), some (vI n), none]) p1_b98_0 (by omega) (Or.inl rfl) ?_
  refine mm_st rfl rfl ?_
  refine mm_st (L' := [some (vR 19), some (vI n), some (vI 0)]) (st' := []) (h' := p1_h) rfl rfl ?_
  exact h2
def p1_bad (n : Int32) : Prop := n < 0 ∨ ¬ n ≤ (Int32.ofInt 500)
set_option maxRecDepth 100000 in
theorem p1_G97 {Z : Nat → List Int32} {n : Int32} : mm_G Z 10 97 [vR 0, vI n] p1_h (fun r h => (r = aT 0 ∧ h = p1_x ∧ p1_bad n) ∨ (r = aX (vI 0) ∧ h = p1_h ∧ ¬ p1_bad n)) := by
  have h11 : p1_bad n → mm_P Z 10 97 11 [some (vR 0), some (vI n)] [] p1_h (fun r h => (r = aT 0 ∧ h = p1_x ∧ p1_bad n) ∨ (r = aX (vI 0) ∧ h = p1_h ∧ ¬ p1_bad n)) := fun hb => mm_at_blk p1_b97_11 (by omega) (Or.inl rfl) ⟨by decide, p1_room.1, p1_room.2, Or.inl ⟨rfl, rfl, hb⟩⟩
  have h21 : ¬ p1_bad n → mm_P Z 10 97 21 [some (vR 0), some (vI n)] [] p1_h (fun r h => (r = aT 0 ∧ h = p1_x ∧ p1_bad n) ∨ (r = aX (vI 0) ∧ h = p1_h ∧ ¬ p1_bad n)) := by
    intro hb
    refine mm_at_blk p1_b97_21 (by omega) (Or.inl rfl) ?_
    refine mm_st rfl rfl ?_
    refine mm_gf p1_Fh_0_0_5 ?_
    refine mm_st rfl rfl ?_
    refine mm_iv (d := 9) (vs := [vR 19, vI n]) (r := []) p1_na98 (by simp) (by rw [p1_ci98]; exact p1_R19) p1_G98 (fun r h hr => ?_)
    obtain ⟨rfl, rfl⟩ := hr
    exact Or.inr ⟨rfl, rfl, hb⟩
  refine mm_G_of (by rw [p1_ml97]; exact Nat.le_refl _) ?_
  rw [p1_ml97]
  refine mm_at_blk (L := [some (vR 0), some (vI n)]) p1_b97_0 (by omega) (Or.inl rfl) ?_
  refine mm_st rfl rfl ?_
  refine ⟨fun z => h11 (Or.inl z), fun z => ?_⟩
  refine mm_st rfl rfl ?_
  refine mm_st rfl rfl ?_
  exact ⟨fun z2 => h21 (fun y => y.elim z (fun w => w z2)), fun z2 => h11 (Or.inr z2)⟩
set_option maxRecDepth 100000 in
theorem p1_runA : ∃ fs, p1_h.1[0]? = some (.inl (mm_ci 97, fs)) := by
  have h : mm_rcvb p1_h [vR 0] (mm_ci 97) = true := by decide +kernel
  exact mm_rcvb_of h
set_option maxRecDepth 100000 in
theorem p1_G170 {Z : Nat → List Int32} {n : Int32} : mm_G Z 11 170 [vR 0, vI n, vR 58] p1_h (fun r h => (r = aX (vI 1) ∧ h = p1_x ∧ p1_bad n) ∨ (r = aX (vI 0) ∧ h = p1_o ∧ ¬ p1_bad n)) := by
  obtain ⟨fs, ha⟩ := p1_runA
  have h15 : ¬ p1_bad n → mm_P Z 11 170 15 [some (vR 0), some (vI n), some (vR 58), none] [] p1_o (fun r h => (r = aX (vI 1) ∧ h = p1_x ∧ p1_bad n) ∨ (r = aX (vI 0) ∧ h = p1_o ∧ ¬ p1_bad n)) := fun hb => mm_at_blk p1_b170_15 (by omega) (Or.inr (by decide)) (mm_st rfl rfl (Or.inr ⟨rfl, rfl, hb⟩))
  have h7 : ¬ p1_bad n → mm_P Z 11 170 7 [some (vR 0), some (vI n), some (vR 58), none] [vI 0, vI 0, vR 58] p1_h (fun r h => (r = aX (vI 1) ∧ h = p1_x ∧ p1_bad n) ∨ (r = aX (vI 0) ∧ h = p1_o ∧ ¬ p1_bad n)) := by
    intro hb
    refine mm_at_blk p1_b170_7 (by omega) (Or.inr (by decide)) ?_
    refine mm_st rfl rfl ?_
    refine mm_st (L' := [some (vR 0), some (vI n), some (vR 58), none]) (st' := []) (h' := p1_o) rfl (mm_s1_last p1_o_eq) ?_
    exact h15 hb
  refine mm_G_of (by rw [p1_ml170]; exact Nat.le_succ _) ?_
  rw [p1_ml170]
  refine mm_at_blk (L := [some (vR 0), some (vI n), some (vR 58), none]) p1_b170_0 (by omega) (Or.inr (by decide)) ?_
  refine mm_st rfl rfl ?_
  refine mm_st rfl rfl ?_
  refine mm_st rfl rfl ?_
  refine mm_st rfl rfl ?_
  exact mm_catchP (d := 10) (mi := 170) (k := 97) (pc := 4) (idx := 22) (i0 := 903) (i1 := 904) (i2 := 905) (i4 := 906) (i5 := 391) (i6 := 489) (a := 0) (as := [vI n]) (rest := [vI 0, vR 58]) (q := ("LispForge", mm_T0, 8)) (hp := 12) (ct := 13) (ex := 0) (sl := 3) (n := 1) (x0 := 1) (s0 := 0) (e0 := 9) (by decide +kernel) (by decide +kernel) (by decide +kernel) (by decide +kernel) (by decide +kernel) (by decide +kernel) (by decide +kernel) (by decide +kernel) (by show mm_pars 97 = some 1; decide +kernel) rfl ha (by decide) p1_G97 (fun v h' z => by
      rcases z with z | z
      · cases z.1
      · obtain ⟨z1, rfl, z3⟩ := z
        cases z1
        exact h7 z3) rfl (by decide) (by decide) (by decide) (by decide +kernel) (by decide +kernel) (fun e' h' z => by
      rcases z with z | z
      · exact ⟨Sum.inr.inj z.1, Or.inl ⟨rfl, z.2⟩⟩
      · cases z.1) (by decide +kernel) (by decide +kernel) (by decide) (by decide +kernel) (by decide +kernel) (by decide +kernel)
set_option maxRecDepth 100000 in
theorem p1_G159b {Z : Nat → List Int32} {n : Int32} (hb : p1_bad n) : mm_G Z 11 159 [vR 25, vI n] p1_x (fun r h => r = aX (vI 0) ∧ h = p1_xb) := by
  have h52 : mm_P Z 11 159 52 [some (vR 25), some (vI n), some (vI 0)] [] p1_xb (fun r h => r = aX (vI 0) ∧ h = p1_xb) := mm_at_blk p1_b159_52 (by omega) (Or.inl rfl) (mm_st rfl rfl ⟨rfl, rfl⟩)
  have h22 : mm_P Z 11 159 22 [some (vR 25), some (vI n), some (vI 0)] [] p1_xb (fun r h => r = aX (vI 0) ∧ h = p1_xb) := by
    refine mm_at_blk p1_b159_22 (by omega) (Or.inl rfl) ?_
    refine mm_st rfl rfl ?_
    refine mm_gf p1_thr_xb ?_
    exact ⟨fun _ => h52, fun z => absurd (mm_cmpb_iff.mp (by decide)) z⟩
  have h17 : mm_P Z 11 159 17 [some (vR 25), some (vI n), none] [vI 1, vR 25] p1_x (fun r h => r = aX (vI 0) ∧ h = p1_xb) := by
    refine mm_at_blk p1_b159_17 (by omega) (Or.inl rfl) ?_
    refine mm_pfi p1_K0 p1_xb_eq ?_
    refine mm_st rfl rfl ?_
    refine mm_st (L' := [some (vR 25), some (vI n), some (vI 0)]) (st' := []) (h' := p1_xb) rfl rfl ?_
    exact h22
  have h12 : mm_P Z 11 159 12 [some (vR 25), some (vI n), none] [vR 25] p1_x (fun r h => r = aX (vI 0) ∧ h = p1_xb) := mm_at_blk p1_b159_12 (by omega) (Or.inl rfl) (mm_st rfl rfl h17)
  refine mm_G_of (by rw [p1_ml159]; exact Nat.le_succ _) ?_
  rw [p1_ml159]
  refine mm_at_blk (L := [some (vR 25), some (vI n), none]) p1_b159_0 (by omega) (Or.inl rfl) ?_
  refine mm_st rfl rfl ?_
  refine mm_st rfl rfl ?_
  refine ⟨fun _ => h12, fun z => ?_⟩
  refine mm_st rfl rfl ?_
  refine mm_st rfl rfl ?_
  exact ⟨fun z2 => absurd hb (fun y => y.elim z (fun w => w z2)), fun _ => h12⟩
set_option maxRecDepth 100000 in
theorem p1_G109b {Z : Nat → List Int32} : mm_G Z 11 109 [vR 25] p1_xb (fun r h => r = aX (vI 1) ∧ h = p1_xb) := by
  refine mm_G_of (by rw [p1_ml109]; exact Nat.le_refl _) ?_
  rw [p1_ml109]
  refine mm_at_blk (L := [some (vR 25)]) p1_b109_0 (by omega) (Or.inl rfl) ?_
  refine mm_st rfl rfl ?_
  refine mm_gf p1_thr_xb ?_
  exact ⟨rfl, rfl⟩
set_option maxRecDepth 100000 in
theorem p1_G159g {Z : Nat → List Int32} {n : Int32} (hb : ¬ p1_bad n) : mm_G Z 11 159 [vR 25, vI n] p1_o (fun r h => r = aX (vI 0) ∧ h = p1_og) := by
  have h52 : mm_P Z 11 159 52 [some (vR 25), some (vI n), some (vI 0)] [] p1_og (fun r h => r = aX (vI 0) ∧ h = p1_og) := mm_at_blk p1_b159_52 (by omega) (Or.inl rfl) (mm_st rfl rfl ⟨rfl, rfl⟩)
  have h22 : mm_P Z 11 159 22 [some (vR 25), some (vI n), some (vI 0)] [] p1_og (fun r h => r = aX (vI 0) ∧ h = p1_og) := by
    refine mm_at_blk p1_b159_22 (by omega) (Or.inl rfl) ?_
    refine mm_st rfl rfl ?_
    refine mm_gf p1_thr_og ?_
    refine ⟨fun z => absurd (mm_cmpb_iff.mpr z) (by decide), fun _ => ?_⟩
    refine mm_st rfl rfl ?_
    refine mm_st rfl rfl ?_
    refine ⟨fun _ => h52, fun _ => ?_⟩
    refine mm_st rfl rfl ?_
    refine mm_gf p1_st_og ?_
    refine mm_st rfl rfl ?_
    exact ⟨fun _ => h52, fun z => absurd (mm_cmpb_iff.mp (by decide)) z⟩
  have h17 : mm_P Z 11 159 17 [some (vR 25), some (vI n), none] [vI 0, vR 25] p1_o (fun r h => r = aX (vI 0) ∧ h = p1_og) := by
    refine mm_at_blk p1_b159_17 (by omega) (Or.inl rfl) ?_
    refine mm_pfi p1_K0 p1_og_eq ?_
    refine mm_st rfl rfl ?_
    refine mm_st (L' := [some (vR 25), some (vI n), some (vI 0)]) (st' := []) (h' := p1_og) rfl rfl ?_
    exact h22
  have h12 : mm_P Z 11 159 16 [some (vR 25), some (vI n), none] [vR 25] p1_o (fun r h => r = aX (vI 0) ∧ h = p1_og) := mm_at_blk p1_b159_16 (by omega) (Or.inl rfl) (mm_st rfl rfl h17)
  refine mm_G_of (by rw [p1_ml159]; exact Nat.le_succ _) ?_
  rw [p1_ml159]
  refine mm_at_blk (L := [some (vR 25), some (vI n), none]) p1_b159_0 (by omega) (Or.inl rfl) ?_
  refine mm_st rfl rfl ?_
  refine mm_st rfl rfl ?_
  refine ⟨fun z => absurd (Or.inl z) hb, fun z => ?_⟩
  refine mm_st rfl rfl ?_
  refine mm_st rfl rfl ?_
  exact ⟨fun _ => h12, fun z2 => absurd (Or.inr z2) hb⟩
set_option maxRecDepth 100000 in
theorem p1_G109g {Z : Nat → List Int32} : mm_G Z 11 109 [vR 25] p1_og (fun r h => r = aX (vI 0) ∧ h = p1_og) := by
  refine mm_G_of (by rw [p1_ml109]; exact Nat.le_refl _) ?_
  rw [p1_ml109]
  refine mm_at_blk (L := [some (vR 25)]) p1_b109_0 (by omega) (Or.inl rfl) ?_
  refine mm_st rfl rfl ?_
  refine mm_gf p1_thr_og ?_
  exact ⟨rfl, rfl⟩
set_option maxRecDepth 100000 in
theorem p1_c361 {Z : Nat → List Int32} (hn : (Z 1).length = 3) : mm_P Z 12 167 361 (p1_L 0 none none) [] p1_h p1_Post := by
  obtain ⟨n, -, hz, -⟩ := p1_z hn
  refine mm_at_blk p1_b167_361 (by omega) (Or.inl rfl) ?_
  refine mm_st rfl rfl ?_
  refine mm_st rfl rfl ?_
  refine mm_st rfl rfl ?_
  refine mm_st rfl rfl ?_
  refine mm_st rfl rfl ?_
  refine mm_zi hz ?_
  refine mm_st rfl rfl ?_
  show mm_na 170 ≤ _ ∧ _ ∧ _
  rw [p1_na170]
  refine ⟨Nat.le_of_ble_eq_true rfl, Nat.le_of_ble_eq_true rfl, ?_⟩
  refine mm_G_mono (p1_G170 (Z := Z) (n := n)) (fun r h hr => ?_)
  rcases hr with ⟨rfl, rfl, hb⟩ | ⟨rfl, rfl, hb⟩
  · show mm_wp _ _ _ _ _ _ _ _ _ _ _ _
    have h414 : mm_P Z 12 167 414 (p1_L 0 (some (vI 1)) (some (vI 0))) [] p1_xb p1_Post := mm_at_blk p1_b167_414 (by omega) (Or.inl rfl) (p1_480 hn (Nat.le_refl _))
    have h397 : mm_P Z 12 167 397 (p1_L 0 (some (vI 1)) (some (vI 0))) [] p1_xb p1_Post := by
      refine mm_at_blk p1_b167_397 (by omega) (Or.inl rfl) ?_
      refine mm_st rfl rfl ?_
      exact ⟨fun _ => h414, fun z => absurd (mm_cmpb_iff.mp (by decide)) z⟩
    refine mm_st (L' := p1_L 0 (some (vI 1)) none) (st' := []) (h' := p1_x) rfl rfl ?_
    refine mm_st rfl rfl ?_
    refine mm_st rfl rfl ?_
    refine mm_st rfl rfl ?_
    refine mm_st rfl rfl ?_
    refine mm_st rfl rfl ?_
    refine mm_zi hz ?_
    refine mm_iv (d := 11) (vs := [vR 25, vI n]) (r := []) p1_na159 (by simp) (by rw [p1_ci159]; exact p1_R25_x) (p1_G159b hb) (fun r h hr => ?_)
    obtain ⟨rfl, rfl⟩ := hr
    show mm_wp _ _ _ _ _ _ _ _ _ _ _ _
    refine mm_st (L' := p1_L 0 (some (vI 1)) (some (vI 0))) (st' := []) (h' := p1_xb) rfl rfl ?_
    refine mm_st rfl rfl ?_
    refine mm_iv (d := 11) (vs := [vR 25]) (r := []) p1_na109 (by simp) (by rw [p1_ci109]; exact p1_R25_xb) p1_G109b (fun r h hr => ?_)
    obtain ⟨rfl, rfl⟩ := hr
    show mm_wp _ _ _ _ _ _ _ _ _ _ _ _
    refine mm_st rfl rfl ?_
    exact ⟨fun _ => h397, fun z => absurd rfl z⟩
  · show mm_wp _ _ _ _ _ _ _ _ _ _ _ _
    have h414 : mm_P Z 12 167 414 (p1_L 0 (some (vI 0)) (some (vI 0))) [] p1_og p1_Post := mm_at_blk p1_b167_414 (by omega) (Or.inl rfl) (p1_480 hn (Nat.le_refl _))
    have h397 : mm_P Z 12 167 397 (p1_L 0 (some (vI 0)) (some (vI 0))) [] p1_og p1_Post := by
      refine mm_at_blk p1_b167_397 (by omega) (Or.inl rfl) ?_
      refine mm_st rfl rfl ?_
      refine ⟨fun z => absurd (mm_cmpb_iff.mpr z) (by decide), fun _ => ?_⟩
      refine mm_st rfl rfl ?_
      refine mm_st rfl rfl ?_
      refine mm_st (L' := p1_L 0 (some (vI 0)) (some (vI 0))) (st' := [vJ (0 : Int32).toInt64]) (h' := p1_og) rfl (by simp only [mm_s1]; rw [show mm_lald p1_og 58 (Int32.ofInt 0) = some (0 : Int32).toInt64 from p1_out]; rfl) ?_
      refine mm_st rfl rfl ?_
      refine mm_st rfl rfl ?_
      refine mm_st rfl rfl ?_
      exact ⟨fun _ => h414, fun z => absurd (mm_cmpb_iff.mp (by decide)) z⟩
    refine mm_st (L' := p1_L 0 (some (vI 0)) none) (st' := []) (h' := p1_o) rfl rfl ?_
    refine mm_st rfl rfl ?_
    refine mm_st rfl rfl ?_
    refine mm_st rfl rfl ?_
    refine mm_st rfl rfl ?_
    refine mm_st rfl rfl ?_
    refine mm_zi hz ?_
    refine mm_iv (d := 11) (vs := [vR 25, vI n]) (r := []) p1_na159 (by simp) (by rw [p1_ci159]; exact p1_R25_o) (p1_G159g hb) (fun r h hr => ?_)
    obtain ⟨rfl, rfl⟩ := hr
    show mm_wp _ _ _ _ _ _ _ _ _ _ _ _
    refine mm_st (L' := p1_L 0 (some (vI 0)) (some (vI 0))) (st' := []) (h' := p1_og) rfl rfl ?_
    refine mm_st rfl rfl ?_
    refine mm_iv (d := 11) (vs := [vR 25]) (r := []) p1_na109 (by simp) (by rw [p1_ci109]; exact p1_R25_og) p1_G109g (fun r h hr => ?_)
    obtain ⟨rfl, rfl⟩ := hr
    show mm_wp _ _ _ _ _ _ _ _ _ _ _ _
    refine mm_st rfl rfl ?_
    exact ⟨fun _ => h397, fun z => absurd rfl z⟩
end
section
/-! write(w) -/
set_option maxRecDepth 100000 in
theorem p1_b8_0 : mm_blk 8 0 = some [.sipush (0), .istore 3, .sipush (56), .istore 4, .goto_w 6] := by decide +kernel
set_option maxRecDepth 100000 in
theorem p1_b8_6 : mm_blk 8 6 = some [.iload 4, .ifCond .lt 49, .lload 1, .iload 4, .invokestatic 9, .istore 5, .iload 5, .ifCond .eq 43, .iload 5, .sipush (32), .if_icmp .lt 38, .iload 5, .sipush (126), .if_icmp .le 40, .goto_w 38] := by decide +kernel
set_option maxRecDepth 100000 in
theorem p1_b8_38 : mm_blk 8 38 = some [.sipush (0), .freturn] := by decide +kernel
set_option maxRecDepth 100000 in
theorem p1_b8_40 : mm_blk 8 40 = some [.iinc 3 (1), .goto_w 43] := by decide +kernel
set_option maxRecDepth 100000 in
theorem p1_b8_43 : mm_blk 8 43 = some [.iinc 4 (-8), .goto 6] := by decide +kernel
set_option maxRecDepth 100000 in
theorem p1_b8_49 : mm_blk 8 49 = some [.iload 3, .aload 0, .invokeinterface 0 0, .invokevirtual 10, .if_icmp .le 62, .sipush (0), .freturn] := by decide +kernel
set_option maxRecDepth 100000 in
theorem p1_b8_62 : mm_blk 8 62 = some [.sipush (56), .istore 4, .goto_w 66] := by decide +kernel
set_option maxRecDepth 100000 in
theorem p1_b8_66 : mm_blk 8 66 = some [.iload 4, .ifCond .lt 99, .lload 1, .iload 4, .invokestatic 9, .istore 5, .iload 5, .ifCond .eq 93, .aload 0, .invokeinterface 0 0, .iload 5, .invokevirtual 11, .goto_w 93] := by decide +kernel
set_option maxRecDepth 100000 in
theorem p1_b8_93 : mm_blk 8 93 = some [.iinc 4 (-8), .goto 66] := by decide +kernel
set_option maxRecDepth 100000 in
theorem p1_b8_99 : mm_blk 8 99 = some [.sipush (1), .freturn] := by decide +kernel
set_option maxRecDepth 100000 in
theorem p1_b9_0 : mm_blk 9 0 = some [.lload 0, .iload 2, .lushr, .l2i, .sipush (255), .iand, .ireturn] := by decide +kernel
set_option maxRecDepth 100000 in
theorem p1_b10_0 : mm_blk 10 0 = some [.aload 0, .invokeinterface 1 0, .arraylength, .aload 0, .invokeinterface 1 1, .isub, .ireturn] := by decide +kernel
set_option maxRecDepth 100000 in
theorem p1_b11_0 : mm_blk 11 0 = some [.aload 0, .invokeinterface 1 1, .aload 0, .invokeinterface 1 0, .arraylength, .if_icmp .ge 36, .aload 0, .invokeinterface 1 0, .aload 0, .invokeinterface 1 1, .iload 1, .sipush (255), .iand, .iastore, .aload 0, .dup, .invokeinterface 1 1, .sipush (1), .iadd, .multianewarray 1 1, .goto_w 36] := by decide +kernel
set_option maxRecDepth 100000 in
theorem p1_b11_36 : mm_blk 11 36 = some [.return_] := by decide +kernel
set_option maxRecDepth 100000 in
theorem p1_b110_0 : mm_blk 110 0 = some [.aload 0, .sipush (0), .multianewarray 10 0, .aload 0, .invokeinterface 10 1, .istore 3, .sipush (1), .istore 4, .sipush (7), .istore 5, .goto_w 17] := by decide +kernel
set_option maxRecDepth 100000 in
theorem p1_b110_17 : mm_blk 110 17 = some [.iload 5, .ifCond .lt 101, .lload 1, .sipush (8), .iload 5, .imul, .lushr, .l2i, .sipush (255), .iand, .istore 6, .iload 4, .ifCond .eq 70, .iload 6, .ifCond .eq 66, .iload 6, .sipush (31), .if_icmp .le 70, .iload 6, .sipush (127), .if_icmp .ge 70, .iload 3, .sipush (120), .if_icmp .ge 70, .goto_w 66] := by decide +kernel
set_option maxRecDepth 100000 in
theorem p1_b110_66 : mm_blk 110 66 = some [.sipush (1), .goto 71] := by decide +kernel
set_option maxRecDepth 100000 in
theorem p1_b110_70 : mm_blk 110 70 = some [.sipush (0), .goto_w 71] := by decide +kernel
set_option maxRecDepth 100000 in
theorem p1_b110_71 : mm_blk 110 71 = some [.istore 4, .iload 4, .ifCond .eq 95, .iload 6, .ifCond .eq 95, .aload 0, .invokeinterface 10 5, .iload 3, .iload 6, .i2c, .castore, .iinc 3 (1), .goto_w 95] := by decide +kernel
set_option maxRecDepth 100000 in
theorem p1_b110_95 : mm_blk 110 95 = some [.iinc 5 (-1), .goto 17] := by decide +kernel
set_option maxRecDepth 100000 in
theorem p1_b110_101 : mm_blk 110 101 = some [.aload 0, .iload 4, .ifCond .eq 111, .iload 3, .goto 115] := by decide +kernel
set_option maxRecDepth 100000 in
theorem p1_b110_111 : mm_blk 110 111 = some [.aload 0, .invokeinterface 10 1, .goto_w 115] := by decide +kernel
set_option maxRecDepth 100000 in
theorem p1_b110_115 : mm_blk 110 115 = some [.multianewarray 10 1, .iload 4, .freturn] := by decide +kernel
set_option maxRecDepth 100000 in
theorem p1_b167_104 : mm_blk 167 104 = some [.aload 1, .aload 0, .iload 4, .sipush (1), .iadd, .iaload, .i2l, .sipush (32), .lshl, .aload 0, .iload 4, .sipush (2), .iadd, .iaload, .i2l, .jsr (4294967295), .land, .lor, .invokevirtual 8, .aload 2, .aload 0, .iload 4, .sipush (1), .iadd, .iaload, .i2l, .sipush (32), .lshl, .aload 0, .iload 4, .sipush (2), .iadd, .iaload, .i2l, .jsr (4294967295), .land, .lor, .invokevirtual 110, .if_icmp .eq 480, .sipush (0), .freturn] := by decide +kernel
set_option maxRecDepth 100000 in
theorem p1_ml8 : mm_ml 8 = 6 := by decide +kernel
set_option maxRecDepth 100000 in
theorem p1_na8 : mm_na 8 = 2 := by decide +kernel
set_option maxRecDepth 100000 in
theorem p1_ci8 : mm_ci 8 = 0 := by decide +kernel
set_option maxRecDepth 100000 in
theorem p1_ml9 : mm_ml 9 = 3 := by decide +kernel
set_option maxRecDepth 100000 in
theorem p1_na9 : mm_na 9 = 2 := by decide +kernel
set_option maxRecDepth 100000 in
theorem p1_ml10 : mm_ml 10 = 1 := by decide +kernel
set_option maxRecDepth 100000 in
theorem p1_na10 : mm_na 10 = 1 := by decide +kernel
set_option maxRecDepth 100000 in
theorem p1_ci10 : mm_ci 10 = 1 := by decide +kernel
set_option maxRecDepth 100000 in
theorem p1_ml11 : mm_ml 11 = 2 := by decide +kernel
set_option maxRecDepth 100000 in
theorem p1_na11 : mm_na 11 = 2 := by decide +kernel
set_option maxRecDepth 100000 in
theorem p1_ci11 : mm_ci 11 = 1 := by decide +kernel
set_option maxRecDepth 100000 in
theorem p1_ml110 : mm_ml 110 = 7 := by decide +kernel
set_option maxRecDepth 100000 in
theorem p1_na110 : mm_na 110 = 2 := by decide +kernel
set_option maxRecDepth 100000 in
theorem p1_ci110 : mm_ci 110 = 10 := by decide +kernel
section MSW
variable {Z : Nat → List Int32} {d : Nat} {J : Nat → mm_L → List mm_V → mm_H → Prop} {C : Nat → List mm_V → mm_H → (mm_A → mm_H → Prop) → Prop} {Q : mm_A → mm_H → Prop} {is : List Instr} {L : mm_L} {r : List mm_V} {h h' : mm_H}
theorem mm_cs {a : Nat} {i x : Int32} (hf : mm_iast h a 2 i (vp_nar .char x) = some h') (hk : mm_wp mm_K Z mm_na 6 mm_ci J C Q is L r h') : mm_wp mm_K Z mm_na 6 mm_ci J C Q (.castore :: is) L (vI x :: vI i :: vR a :: r) h := mm_st rfl (by simp [mm_s1, hf]) hk
theorem mm_ist {a : Nat} {i x : Int32} (hf : mm_iast h a 0 i x = some h') (hk : mm_wp mm_K Z mm_na 6 mm_ci J C Q is L r h') : mm_wp mm_K Z mm_na 6 mm_ci J C Q (.iastore :: is) L (vI x :: vI i :: vR a :: r) h := mm_st rfl (by simp [mm_s1, hf]) hk
theorem mm_al {a : Nat} {n : Int32} (hf : mm_len h a = some n) (hk : mm_wp mm_K Z mm_na 6 mm_ci J C Q is L (vI n :: r) h) : mm_wp mm_K Z mm_na 6 mm_ci J C Q (.arraylength :: is) L (vR a :: r) h := mm_st rfl (by simp [mm_s1, hf]) hk
/-- a static call over the arguments vs -/
theorem mm_is {m : Nat} {vs : List mm_V} {P : mm_A → mm_H → Prop} (hn : mm_na m = vs.length) (hl : vs.length + r.length ≤ 12) (hG : mm_G Z d m vs h P) (hP : ∀ a h', P a h' → mm_Kt Q (mm_wp mm_K Z mm_na 6 mm_ci J (mm_C Z (d + 1)) Q is L) r a h') : mm_wp mm_K Z mm_na 6 mm_ci J (mm_C Z (d + 1)) Q (.invokestatic m :: is) L (vs.reverse ++ r) h := by
  have h1 : (vs.reverse ++ r).take (mm_na m) = vs.reverse := by rw [hn, ← List.length_reverse]; exact List.take_left
  have h2 : (vs.reverse ++ r).drop (mm_na m) = r := by rw [hn, ← List.length_reverse]; exact List.drop_left
  show mm_na m ≤ (vs.reverse ++ r).length ∧ (vs.reverse ++ r).length ≤ 12 ∧ mm_C Z (d + 1) m ((vs.reverse ++ r).take (mm_na m)).reverse h (mm_Kt Q (mm_wp mm_K Z mm_na 6 mm_ci J (mm_C Z (d + 1)) Q is L) ((vs.reverse ++ r).drop (mm_na m)))
  rw [h1, h2, List.reverse_reverse]
  exact ⟨by rw [hn]; simp, by simp; omega, mm_G_mono hG hP⟩
end MSW
/-- the character at a shift; which are allowed; the eight shifts -/
def p1_ch (w : Int64) (s : Int32) : Int32 := (w.toUInt64 >>> (s.toInt64.toUInt64 &&& Int64.toUInt64 63)).toInt64.toInt32 &&& Int32.ofInt 255
def p1_ok (x : Int32) : Bool := decide (x = 0) || (decide (¬ x < Int32.ofInt 32) && decide (x ≤ Int32.ofInt 126))
def p1_sh (k : Nat) : Int32 := Int32.ofInt (8 * (k : Int) - 8)
def p1_all (w : Int64) : Nat → Bool
  | 0 => true
  | k + 1 => p1_ok (p1_ch w (p1_sh (k + 1))) && p1_all w k
theorem p1_sh0 : p1_sh 0 < 0 := by decide
theorem p1_shn : ∀ k < 8, ¬ p1_sh (k + 1) < 0 := by decide
theorem p1_shd : ∀ k < 8, p1_sh (k + 1) + Int32.ofInt (-8) = p1_sh k := by decide
theorem p1_sh8 : p1_sh 8 = Int32.ofInt 56 := by decide
theorem p1_shm : ∀ k : Nat, k < 8 → Int32.ofInt 8 * Int32.ofInt (k : Int) = p1_sh (k + 1) := by decide
theorem p1_kn : ∀ k : Nat, k < 8 → ¬ Int32.ofInt ((k + 1 : Nat) - 1 : Int) < 0 := by decide
theorem p1_kk : ∀ k : Nat, k < 8 → Int32.ofInt ((k + 1 : Nat) - 1 : Int) = Int32.ofInt (k : Int) := by decide
theorem p1_kd : ∀ k : Nat, k < 8 → Int32.ofInt (k : Int) + Int32.ofInt (-1) = Int32.ofInt ((k : Int) - 1) := by decide
theorem p1_n1 : ∀ m < 8, Int32.ofNat m + Int32.ofInt 1 = Int32.ofNat (m + 1) := by decide
theorem p1_nx : ∀ m < 8, mm_ix (Int32.ofNat m) 120 = some m := by decide
theorem p1_nl : ∀ m < 9, Int32.ofNat m ≤ Int32.ofNat 120 - Int32.ofNat 0 := by decide
theorem p1_ng : ∀ m < 9, ¬ Int32.ofNat 120 ≤ Int32.ofNat m := by decide
theorem p1_ng2 : ∀ m < 9, ¬ Int32.ofInt 120 ≤ Int32.ofNat m := by decide
/-- characterAt -/
theorem p1_G9 {Z : Nat → List Int32} {w : Int64} {s : Int32} {h : mm_H} : mm_G Z 10 9 [vJ w, vI s] h (fun r h' => r = aX (vI (p1_ch w s)) ∧ h' = h) := by
  refine mm_G_of (by rw [p1_ml9]; exact Nat.le_of_ble_eq_true rfl) ?_
  rw [p1_ml9]
  refine mm_at_blk (L := [some (vJ w), none, some (vI s)]) p1_b9_0 (by omega) (Or.inl rfl) ?_
  refine mm_st rfl rfl ?_
  refine mm_st rfl rfl ?_
  refine mm_st rfl rfl ?_
  refine mm_st rfl rfl ?_
  refine mm_st rfl rfl ?_
  refine mm_st rfl rfl ?_
  exact ⟨rfl, rfl⟩
/-- the class's heap while a first text is written -/
def p1_w (fs0 : List mm_V) (rest : List mm_O) (q : Nat × Nat) (m : Nat) (xs : List Int32) : mm_H := (.inl (0, vR 1 :: fs0) :: .inl (1, [vR 2, vI (Int32.ofNat m)]) :: .inr (.inl (0, xs)) :: rest, q)
section P1W
variable {Z : Nat → List Int32} {fs0 : List mm_V} {rest : List mm_O} {q : Nat × Nat}
theorem p1_G10 {xs : List Int32} (hx : xs.length = 120) : mm_G Z 10 10 [vR 1] (p1_w fs0 rest q 0 xs) (fun r h' => r = aX (vI (Int32.ofNat 120 - Int32.ofNat 0)) ∧ h' = p1_w fs0 rest q 0 xs) := by
  refine mm_G_of (by rw [p1_ml10]; exact Nat.le_of_ble_eq_true rfl) ?_
  rw [p1_ml10]
  refine mm_at_blk (L := [some (vR 1)]) p1_b10_0 (by omega) (Or.inl rfl) ?_
  refine mm_st rfl rfl ?_
  refine mm_gf (v := vR 2) rfl ?_
  refine mm_al (n := Int32.ofNat 120) (by show some (Int32.ofNat xs.length) = _; rw [hx]) ?_
  refine mm_st rfl rfl ?_
  refine mm_gf (v := vI (Int32.ofNat 0)) rfl ?_
  refine mm_st rfl rfl ?_
  exact ⟨rfl, rfl⟩
theorem p1_wiast {m : Nat} {xs : List Int32} {x : Int32} (hm : m < 8) (hx : xs.length = 120) : mm_iast (p1_w fs0 rest q m xs) 2 0 (Int32.ofNat m) x = some (p1_w fs0 rest q m (xs.set m x)) := by
  have h1 : mm_int (p1_w fs0 rest q m xs) 2 0 = some xs := rfl
  unfold mm_iast
  rw [h1, Option.bind_some, hx, p1_nx m hm]
  rfl
theorem p1_G11 {m : Nat} {xs : List Int32} {c : Int32} (hm : m < 8) (hx : xs.length = 120) : mm_G Z 10 11 [vR 1, vI c] (p1_w fs0 rest q m xs) (fun r h' => r = aV ∧ ∃ ys : List Int32, ys.length = 120 ∧ h' = p1_w fs0 rest q (m + 1) ys) := by
  refine mm_G_of (by rw [p1_ml11]; exact Nat.le_of_ble_eq_true rfl) ?_
  rw [p1_ml11]
  refine mm_at_blk (L := [some (vR 1), some (vI c)]) p1_b11_0 (by omega) (Or.inl rfl) ?_
  refine mm_st rfl rfl ?_
  refine mm_gf (v := vI (Int32.ofNat m)) rfl ?_
  refine mm_st rfl rfl ?_
  refine mm_gf (v := vR 2) rfl ?_
  refine mm_al (n := Int32.ofNat 120) (by show some (Int32.ofNat xs.length) = _; rw [hx]) ?_
  refine ⟨fun z => absurd z (p1_ng m (by omega)), fun _ => ?_⟩
  refine mm_st rfl rfl ?_
  refine mm_gf (v := vR 2) rfl ?_
  refine mm_st rfl rfl ?_
  refine mm_gf (v := vI (Int32.ofNat m)) rfl ?_
  refine mm_st rfl rfl ?_
  refine mm_st rfl rfl ?_
  refine mm_st rfl rfl ?_
  refine mm_ist (p1_wiast hm hx) ?_
  refine mm_st rfl rfl ?_
  refine mm_st rfl rfl ?_
  refine mm_gf (v := vI (Int32.ofNat m)) rfl ?_
  refine mm_st rfl rfl ?_
  refine mm_st (st' := [vI (Int32.ofNat (m + 1)), vR 1]) rfl (by rw [← p1_n1 m hm]; rfl) ?_
  refine mm_pfi (h' := p1_w fs0 rest q (m + 1) (xs.set m (c &&& Int32.ofInt 255))) rfl rfl ?_
  exact mm_at_blk p1_b11_36 (by omega) (Or.inl rfl) ⟨rfl, rfl, _, by rw [List.length_set]; exact hx, rfl⟩
/-- the second loop: the characters are put -/
theorem p1_l66 {w : Int64} {Post : mm_A → mm_H → Prop} (hT : ∀ m xs, Post (aX (vI 1)) (p1_w fs0 rest q m xs)) : ∀ k, k ≤ 8 → ∀ (m : Nat) (xs : List Int32) (a : Int32) (o : Option mm_V), m + k ≤ 8 → xs.length = 120 → mm_P Z 11 8 66 [some (vR 0), some (vJ w), none, some (vI a), some (vI (p1_sh k)), o] [] (p1_w fs0 rest q m xs) Post
  | 0, _, m, xs, a, o, _, _ => by
    refine mm_at_blk p1_b8_66 (by omega) (Or.inl rfl) ?_
    refine mm_st rfl rfl ?_
    refine ⟨fun _ => ?_, fun z => absurd p1_sh0 z⟩
    exact mm_at_blk p1_b8_99 (by omega) (Or.inl rfl) (mm_st rfl rfl ⟨Or.inr rfl, hT m xs⟩)
  | k + 1, hk, m, xs, a, o, hm, hx => by
    have h93 : ∀ (m : Nat) (xs : List Int32), m + k ≤ 8 → xs.length = 120 → mm_P Z 11 8 93 [some (vR 0), some (vJ w), none, some (vI a), some (vI (p1_sh (k + 1))), some (vI (p1_ch w (p1_sh (k + 1))))] [] (p1_w fs0 rest q m xs) Post := by
      intro m xs hm hx
      refine mm_at_blk p1_b8_93 (by omega) (Or.inl rfl) ?_
      refine mm_st (L' := [some (vR 0), some (vJ w), none, some (vI a), some (vI (p1_sh k)), some (vI (p1_ch w (p1_sh (k + 1))))]) rfl (by rw [← p1_shd k (by omega)]; rfl) ?_
      exact p1_l66 hT k (by omega) m xs a _ hm hx
    refine mm_at_blk p1_b8_66 (by omega) (Or.inl rfl) ?_
    refine mm_st rfl rfl ?_
    refine ⟨fun z => absurd z (p1_shn k (by omega)), fun _ => ?_⟩
    refine mm_st rfl rfl ?_
    refine mm_st rfl rfl ?_
    refine mm_is (d := 10) (vs := [vJ w, vI (p1_sh (k + 1))]) (r := []) p1_na9 (by simp) p1_G9 (fun r h hr => ?_)
    obtain ⟨rfl, rfl⟩ := hr
    show mm_wp _ _ _ _ _ _ _ _ _ _ _ _
    refine mm_st (L' := [some (vR 0), some (vJ w), none, some (vI a), some (vI (p1_sh (k + 1))), some (vI (p1_ch w (p1_sh (k + 1))))]) (st' := []) rfl rfl ?_
    refine mm_st rfl rfl ?_
    refine ⟨fun _ => h93 m xs (by omega) hx, fun _ => ?_⟩
    refine mm_st rfl rfl ?_
    refine mm_gf (v := vR 1) rfl ?_
    refine mm_st rfl rfl ?_
    refine mm_iv (d := 10) (vs := [vR 1, vI (p1_ch w (p1_sh (k + 1)))]) (r := []) p1_na11 (by simp) (by rw [p1_ci11]; rfl) (p1_G11 (by omega) hx) (fun r h hr => ?_)
    obtain ⟨rfl, ys, hy, rfl⟩ := hr
    exact h93 (m + 1) ys (by omega) hy
/-- the first loop: every character is allowed, or the answer is false -/
theorem p1_l6 {w : Int64} {xs : List Int32} {Post : mm_A → mm_H → Prop} (hx : xs.length = 120) : ∀ k, k ≤ 8 → (p1_all w k = true → ∀ m xs, Post (aX (vI 1)) (p1_w fs0 rest q m xs)) → (p1_all w k = false → Post (aX (vI 0)) (p1_w fs0 rest q 0 xs)) → ∀ (a : Nat) (o : Option mm_V), a + k ≤ 8 → mm_P Z 11 8 6 [some (vR 0), some (vJ w), none, some (vI (Int32.ofNat a)), some (vI (p1_sh k)), o] [] (p1_w fs0 rest q 0 xs) Post
  | 0, _, hT, _, a, o, ha => by
    refine mm_at_blk p1_b8_6 (by omega) (Or.inl rfl) ?_
    refine mm_st rfl rfl ?_
    refine ⟨fun _ => ?_, fun z => absurd p1_sh0 z⟩
    refine mm_at_blk p1_b8_49 (by omega) (Or.inl rfl) ?_
    refine mm_st rfl rfl ?_
    refine mm_st rfl rfl ?_
    refine mm_gf (v := vR 1) rfl ?_
    refine mm_iv (d := 10) (vs := [vR 1]) (r := [vI (Int32.ofNat a)]) p1_na10 (by simp) (by rw [p1_ci10]; rfl) (p1_G10 hx) (fun r h hr => ?_)
    obtain ⟨rfl, rfl⟩ := hr
    refine ⟨fun _ => ?_, fun z => absurd (p1_nl a (by omega)) z⟩
    refine mm_at_blk p1_b8_62 (by omega) (Or.inl rfl) ?_
    refine mm_st rfl rfl ?_
    refine mm_st (L' := [some (vR 0), some (vJ w), none, some (vI (Int32.ofNat a)), some (vI (p1_sh 8)), o]) rfl (by rw [p1_sh8]; rfl) ?_
    exact p1_l66 (hT rfl) 8 (by omega) 0 xs _ _ (by omega) hx
  | k + 1, hk, hT, hF, a, o, ha => by
    have hs : p1_all w (k + 1) = (p1_ok (p1_ch w (p1_sh (k + 1))) && p1_all w k) := rfl
    rw [hs] at hT hF
    have h38 : p1_ok (p1_ch w (p1_sh (k + 1))) = false → mm_P Z 11 8 38 [some (vR 0), some (vJ w), none, some (vI (Int32.ofNat a)), some (vI (p1_sh (k + 1))), some (vI (p1_ch w (p1_sh (k + 1))))] [] (p1_w fs0 rest q 0 xs) Post := by
      intro hf
      rw [hf, Bool.false_and] at hF
      exact mm_at_blk p1_b8_38 (by omega) (Or.inl rfl) (mm_st rfl rfl ⟨Or.inl rfl, hF rfl⟩)
    have h43 : p1_ok (p1_ch w (p1_sh (k + 1))) = true → ∀ a : Nat, a + k ≤ 8 → mm_P Z 11 8 43 [some (vR 0), some (vJ w), none, some (vI (Int32.ofNat a)), some (vI (p1_sh (k + 1))), some (vI (p1_ch w (p1_sh (k + 1))))] [] (p1_w fs0 rest q 0 xs) Post := by
      intro hf a ha
      rw [hf, Bool.true_and] at hT hF
      refine mm_at_blk p1_b8_43 (by omega) (Or.inl rfl) ?_
      refine mm_st (L' := [some (vR 0), some (vJ w), none, some (vI (Int32.ofNat a)), some (vI (p1_sh k)), some (vI (p1_ch w (p1_sh (k + 1))))]) rfl (by rw [← p1_shd k (by omega)]; rfl) ?_
      exact p1_l6 hx k (by omega) hT hF a _ ha
    have h40 : p1_ok (p1_ch w (p1_sh (k + 1))) = true → mm_P Z 11 8 40 [some (vR 0), some (vJ w), none, some (vI (Int32.ofNat a)), some (vI (p1_sh (k + 1))), some (vI (p1_ch w (p1_sh (k + 1))))] [] (p1_w fs0 rest q 0 xs) Post := by
      intro hf
      refine mm_at_blk p1_b8_40 (by omega) (Or.inl rfl) ?_
      refine mm_st (L' := [some (vR 0), some (vJ w), none, some (vI (Int32.ofNat (a + 1))), some (vI (p1_sh (k + 1))), some (vI (p1_ch w (p1_sh (k + 1))))]) rfl (by rw [← p1_n1 a (by omega)]; rfl) ?_
      exact h43 hf (a + 1) (by omega)
    refine mm_at_blk p1_b8_6 (by omega) (Or.inl rfl) ?_
    refine mm_st rfl rfl ?_
    refine ⟨fun z => absurd z (p1_shn k (by omega)), fun _ => ?_⟩
    refine mm_st rfl rfl ?_
    refine mm_st rfl rfl ?_
    refine mm_is (d := 10) (vs := [vJ w, vI (p1_sh (k + 1))]) (r := []) p1_na9 (by simp) p1_G9 (fun r h hr => ?_)
    obtain ⟨rfl, rfl⟩ := hr
    show mm_wp _ _ _ _ _ _ _ _ _ _ _ _
    refine mm_st (L' := [some (vR 0), some (vJ w), none, some (vI (Int32.ofNat a)), some (vI (p1_sh (k + 1))), some (vI (p1_ch w (p1_sh (k + 1))))]) (st' := []) rfl rfl ?_
    refine mm_st rfl rfl ?_
    refine ⟨fun z => h43 ?_ a (by omega), fun z => ?_⟩
    · have z : p1_ch w (p1_sh (k + 1)) = 0 := z
      simp [p1_ok, z]
    have z : ¬ p1_ch w (p1_sh (k + 1)) = 0 := z
    refine mm_st rfl rfl ?_
    refine mm_st rfl rfl ?_
    refine ⟨fun z2 => h38 ?_, fun z2 => ?_⟩
    · have z2 : p1_ch w (p1_sh (k + 1)) < Int32.ofInt 32 := z2
      unfold p1_ok
      rw [decide_eq_false z, decide_eq_false (Classical.not_not.mpr z2)]
      simp
    have z2 : ¬ p1_ch w (p1_sh (k + 1)) < Int32.ofInt 32 := z2
    refine mm_st rfl rfl ?_
    refine mm_st rfl rfl ?_
    refine ⟨fun z3 => h40 ?_, fun z3 => h38 ?_⟩
    · have z3 : p1_ch w (p1_sh (k + 1)) ≤ Int32.ofInt 126 := z3
      unfold p1_ok
      rw [decide_eq_true z2, decide_eq_true z3]
      simp
    · have z3 : ¬ p1_ch w (p1_sh (k + 1)) ≤ Int32.ofInt 126 := z3
      unfold p1_ok
      rw [decide_eq_false z, decide_eq_false z3]
      simp
theorem p1_G8 {w : Int64} {xs : List Int32} (hx : xs.length = 120) : mm_G Z 11 8 [vR 0, vJ w] (p1_w fs0 rest q 0 xs) (fun r h => r = aX (vI (if p1_all w 8 = true then 1 else 0)) ∧ ∃ m ys, h = p1_w fs0 rest q m ys) := by
  refine mm_G_of (by rw [p1_ml8]; exact Nat.le_of_ble_eq_true rfl) ?_
  rw [p1_ml8]
  refine mm_at_blk (L := [some (vR 0), some (vJ w), none, none, none, none]) p1_b8_0 (by omega) (Or.inl rfl) ?_
  refine mm_st rfl rfl ?_
  refine mm_st rfl rfl ?_
  refine mm_st rfl rfl ?_
  refine mm_st (L' := [some (vR 0), some (vJ w), none, some (vI (Int32.ofNat 0)), some (vI (p1_sh 8)), none]) rfl (by rw [p1_sh8]; rfl) ?_
  refine p1_l6 hx 8 (by omega) (fun h m ys => ⟨by rw [if_pos h], m, ys, rfl⟩) (fun h => ⟨by rw [h]; rfl, 0, xs, rfl⟩) 0 none (by omega)
end P1W
/-- the model's heap while a first text is written -/
def p1_M (F : List mm_O) (f2 f3 f4 : mm_V) (fs : List mm_V) (T : List mm_O) (q : Nat × Nat) (t n : Int32) (xs : List Int32) : mm_H := (F ++ .inl (10, vI t :: vI n :: f2 :: f3 :: f4 :: vR 26 :: fs) :: .inr (.inl (2, xs)) :: T, q)
section P1M
variable {Z : Nat → List Int32} {F : List mm_O} {f2 f3 f4 : mm_V} {fs : List mm_V} {T : List mm_O} {q : Nat × Nat}
theorem p1_M25 (hF : F.length = 25) {t n : Int32} {xs : List Int32} : (p1_M F f2 f3 f4 fs T q t n xs).1[25]? = some (.inl (10, vI t :: vI n :: f2 :: f3 :: f4 :: vR 26 :: fs)) := by
  show (F ++ _)[25]? = _
  rw [List.getElem?_append_right (by omega), hF]
  rfl
theorem p1_M26 (hF : F.length = 25) {t n : Int32} {xs : List Int32} : (p1_M F f2 f3 f4 fs T q t n xs).1[26]? = some (.inr (.inl (2, xs))) := by
  show (F ++ _)[26]? = _
  rw [List.getElem?_append_right (by omega), hF]
  rfl
theorem p1_Mf (hF : F.length = 25) {t n : Int32} {xs : List Int32} {k : Nat} : mm_fld (p1_M F f2 f3 f4 fs T q t n xs) 25 10 k = (vI t :: vI n :: f2 :: f3 :: f4 :: vR 26 :: fs)[k]? := by
  unfold mm_fld
  rw [p1_M25 hF]
  rfl
theorem p1_Mp0 (hF : F.length = 25) {t t' n : Int32} {xs : List Int32} : mm_put (p1_M F f2 f3 f4 fs T q t n xs) 25 10 0 (vI t') = some (p1_M F f2 f3 f4 fs T q t' n xs) := by
  unfold mm_put
  rw [p1_M25 hF]
  have h : (p1_M F f2 f3 f4 fs T q t n xs).1.set 25 (.inl (10, vI t' :: vI n :: f2 :: f3 :: f4 :: vR 26 :: fs)) = (p1_M F f2 f3 f4 fs T q t' n xs).1 := by
    show (F ++ _).set 25 _ = _
    rw [List.set_append_right _ _ (by omega), hF]
    rfl
  show (if 10 = 10 ∧ 0 < (fs.length + 6) then some _ else none) = _
  rw [if_pos ⟨rfl, by omega⟩]
  exact congrArg some (Prod.ext h rfl)
theorem p1_Mp1 (hF : F.length = 25) {t n n' : Int32} {xs : List Int32} : mm_put (p1_M F f2 f3 f4 fs T q t n xs) 25 10 1 (vI n') = some (p1_M F f2 f3 f4 fs T q t n' xs) := by
  unfold mm_put
  rw [p1_M25 hF]
  have h : (p1_M F f2 f3 f4 fs T q t n xs).1.set 25 (.inl (10, vI t :: vI n' :: f2 :: f3 :: f4 :: vR 26 :: fs)) = (p1_M F f2 f3 f4 fs T q t n' xs).1 := by
    show (F ++ _).set 25 _ = _
    rw [List.set_append_right _ _ (by omega), hF]
    rfl
  show (if 10 = 10 ∧ 1 < (fs.length + 6) then some _ else none) = _
  rw [if_pos ⟨rfl, by omega⟩]
  exact congrArg some (Prod.ext h rfl)
theorem p1_Mi (hF : F.length = 25) {t n : Int32} {m : Nat} {xs : List Int32} {x : Int32} (hm : m < 8) (hx : xs.length = 120) : mm_iast (p1_M F f2 f3 f4 fs T q t n xs) 26 2 (Int32.ofNat m) x = some (p1_M F f2 f3 f4 fs T q t n (xs.set m x)) := by
  have h1 : mm_int (p1_M F f2 f3 f4 fs T q t n xs) 26 2 = some xs := by
    unfold mm_int
    rw [p1_M26 hF]
    rfl
  unfold mm_iast
  rw [h1, Option.bind_some, hx, p1_nx m hm]
  have h : (p1_M F f2 f3 f4 fs T q t n xs).1.set 26 (.inr (.inl (2, xs.set m x))) = (p1_M F f2 f3 f4 fs T q t n (xs.set m x)).1 := by
    show (F ++ _).set 26 _ = _
    rw [List.set_append_right _ _ (by omega), hF]
    rfl
  exact congrArg some (Prod.ext h rfl)
abbrev p1_gI (g : Bool) : Int32 := if g = true then 1 else 0
/-- the model's loop -/
theorem p1_l17 (hF : F.length = 25) {w : Int64} : ∀ k, k ≤ 8 → ∀ (Post : mm_A → mm_H → Prop) (g : Bool) (m : Nat) (xs : List Int32) (o : Option mm_V), m + k ≤ 8 → xs.length = 120 → (∀ h, Post (aX (vI (p1_gI (g && p1_all w k)))) h) → mm_P Z 11 110 17 [some (vR 25), some (vJ w), none, some (vI (Int32.ofNat m)), some (vI (p1_gI g)), some (vI (Int32.ofInt ((k : Int) - 1))), o] [] (p1_M F f2 f3 f4 fs T q 0 0 xs) Post
  | 0, _, Post, g, m, xs, o, _, _, hP => by
    have h115 : ∀ n : Int32, mm_P Z 11 110 115 [some (vR 25), some (vJ w), none, some (vI (Int32.ofNat m)), some (vI (p1_gI g)), some (vI (Int32.ofInt (((0 : Nat) : Int) - 1))), o] [vI n, vR 25] (p1_M F f2 f3 f4 fs T q 0 0 xs) Post := by
      intro n
      refine mm_at_blk p1_b110_115 (by omega) (Or.inl rfl) ?_
      refine mm_pfi rfl (p1_Mp1 hF) ?_
      refine mm_st rfl rfl ?_
      refine ⟨by cases g <;> simp [p1_gI], ?_⟩
      have := hP (p1_M F f2 f3 f4 fs T q 0 n xs)
      rwa [show p1_all w 0 = true from rfl, Bool.and_true] at this
    refine mm_at_blk p1_b110_17 (by omega) (Or.inl rfl) ?_
    refine mm_st rfl rfl ?_
    refine ⟨fun _ => ?_, fun z => absurd (mm_cmpb_iff.mp (by decide)) z⟩
    refine mm_at_blk p1_b110_101 (by omega) (Or.inl rfl) ?_
    refine mm_st rfl rfl ?_
    refine mm_st rfl rfl ?_
    refine ⟨fun _ => ?_, fun _ => ?_⟩
    · refine mm_at_blk p1_b110_111 (by omega) (Or.inl rfl) ?_
      refine mm_st rfl rfl ?_
      exact mm_gf (p1_Mf hF) (h115 _)
    · exact mm_st rfl rfl (h115 _)
  | k + 1, hk, Post, g, m, xs, o, hm, hx, hP => by
    have hs : p1_all w (k + 1) = (p1_ok (p1_ch w (p1_sh (k + 1))) && p1_all w k) := rfl
    rw [hs, ← Bool.and_assoc] at hP
    generalize hc : p1_ch w (p1_sh (k + 1)) = c at hP
    have h95 : ∀ (g' : Bool) (m : Nat) (xs : List Int32), g' = (g && p1_ok c) → m + k ≤ 8 → xs.length = 120 → mm_P Z 11 110 95 [some (vR 25), some (vJ w), none, some (vI (Int32.ofNat m)), some (vI (p1_gI g')), some (vI (Int32.ofInt (k : Int))), some (vI c)] [] (p1_M F f2 f3 f4 fs T q 0 0 xs) Post := by
      intro g' m xs hg hm hx
      refine mm_at_blk p1_b110_95 (by omega) (Or.inl rfl) ?_
      refine mm_st (L' := [some (vR 25), some (vJ w), none, some (vI (Int32.ofNat m)), some (vI (p1_gI g')), some (vI (Int32.ofInt ((k : Int) - 1))), some (vI c)]) rfl (by rw [← p1_kd k (by omega)]; rfl) ?_
      exact p1_l17 hF k (by omega) Post g' m xs _ hm hx (by rw [hg]; exact hP)
    have h71 : ∀ g' : Bool, g' = (g && p1_ok c) → mm_P Z 11 110 71 [some (vR 25), some (vJ w), none, some (vI (Int32.ofNat m)), some (vI (p1_gI g)), some (vI (Int32.ofInt (k : Int))), some (vI c)] [vI (p1_gI g')] (p1_M F f2 f3 f4 fs T q 0 0 xs) Post := by
      intro g' hg
      refine mm_at_blk p1_b110_71 (by omega) (Or.inl rfl) ?_
      refine mm_st rfl rfl ?_
      refine mm_st rfl rfl ?_
      refine ⟨fun _ => h95 g' m xs hg (by omega) hx, fun _ => ?_⟩
      refine mm_st rfl rfl ?_
      refine ⟨fun _ => h95 g' m xs hg (by omega) hx, fun _ => ?_⟩
      refine mm_st rfl rfl ?_
      refine mm_gf (v := vR 26) (p1_Mf hF) ?_
      refine mm_st rfl rfl ?_
      refine mm_st rfl rfl ?_
      refine mm_st rfl rfl ?_
      refine mm_cs (p1_Mi hF (by omega) hx) ?_
      refine mm_st (L' := [some (vR 25), some (vJ w), none, some (vI (Int32.ofNat (m + 1))), some (vI (p1_gI g')), some (vI (Int32.ofInt (k : Int))), some (vI c)]) rfl (by rw [← p1_n1 m (by omega)]; rfl) ?_
      exact h95 g' (m + 1) _ hg (by omega) (by rw [List.length_set]; exact hx)
    have h66 : (g && p1_ok c) = true → mm_P Z 11 110 66 [some (vR 25), some (vJ w), none, some (vI (Int32.ofNat m)), some (vI (p1_gI g)), some (vI (Int32.ofInt (k : Int))), some (vI c)] [] (p1_M F f2 f3 f4 fs T q 0 0 xs) Post := fun hg => mm_at_blk p1_b110_66 (by omega) (Or.inl rfl) (mm_st rfl rfl (h71 true hg.symm))
    have h70 : (g && p1_ok c) = false → mm_P Z 11 110 70 [some (vR 25), some (vJ w), none, some (vI (Int32.ofNat m)), some (vI (p1_gI g)), some (vI (Int32.ofInt (k : Int))), some (vI c)] [] (p1_M F f2 f3 f4 fs T q 0 0 xs) Post := fun hg => mm_at_blk p1_b110_70 (by omega) (Or.inl rfl) (mm_st rfl rfl (h71 false hg.symm))
    rw [p1_kk k (by omega)]
    refine mm_at_blk p1_b110_17 (by omega) (Or.inl rfl) ?_
    refine mm_st rfl rfl ?_
    refine ⟨fun z => absurd z (by rw [← p1_kk k (by omega)]; exact p1_kn k (by omega)), fun _ => ?_⟩
    refine mm_st rfl rfl ?_
    refine mm_st rfl rfl ?_
    refine mm_st rfl rfl ?_
    refine mm_st (st' := [vI (p1_sh (k + 1)), vJ w]) rfl (by rw [← p1_shm k (by omega)]; rfl) ?_
    refine mm_st rfl rfl ?_
    refine mm_st rfl rfl ?_
    refine mm_st rfl rfl ?_
    refine mm_st (st' := [vI c]) rfl (by rw [← hc]; rfl) ?_
    refine mm_st (L' := [some (vR 25), some (vJ w), none, some (vI (Int32.ofNat m)), some (vI (p1_gI g)), some (vI (Int32.ofInt (k : Int))), some (vI c)]) (st' := []) rfl rfl ?_
    refine mm_st rfl rfl ?_
    refine ⟨fun z => h70 ?_, fun z => ?_⟩
    · have z : p1_gI g = 0 := z
      cases g
      · rfl
      · exact absurd z (by decide)
    have hg : g = true := by
      cases g
      · exact absurd (show p1_gI false = 0 from rfl) z
      · rfl
    refine mm_st rfl rfl ?_
    refine ⟨fun z => h66 ?_, fun z2 => ?_⟩
    · have z : c = 0 := z
      simp [hg, p1_ok, z]
    have z2 : ¬ c = 0 := z2
    refine mm_st rfl rfl ?_
    refine mm_st rfl rfl ?_
    refine ⟨fun z3 => h70 ?_, fun z3 => ?_⟩
    · have z3 : c ≤ Int32.ofInt 31 := z3
      have z4 : c < Int32.ofInt 32 := by
        rw [Int32.lt_iff_toInt_lt]
        rw [Int32.le_iff_toInt_le] at z3
        have e1 : (Int32.ofInt 31).toInt = 31 := by decide
        have e2 : (Int32.ofInt 32).toInt = 32 := by decide
        omega
      unfold p1_ok
      rw [decide_eq_false z2, decide_eq_false (Classical.not_not.mpr z4)]
      simp
    have z3 : ¬ c ≤ Int32.ofInt 31 := z3
    have z4 : ¬ c < Int32.ofInt 32 := by
      rw [Int32.lt_iff_toInt_lt]
      rw [Int32.le_iff_toInt_le] at z3
      have e1 : (Int32.ofInt 31).toInt = 31 := by decide
      have e2 : (Int32.ofInt 32).toInt = 32 := by decide
      omega
    refine mm_st rfl rfl ?_
    refine mm_st rfl rfl ?_
    refine ⟨fun z5 => h70 ?_, fun z5 => ?_⟩
    · have z5 : Int32.ofInt 127 ≤ c := z5
      have z6 : ¬ c ≤ Int32.ofInt 126 := by
        rw [Int32.le_iff_toInt_le] at z5 ⊢
        have e1 : (Int32.ofInt 127).toInt = 127 := by decide
        have e2 : (Int32.ofInt 126).toInt = 126 := by decide
        omega
      unfold p1_ok
      rw [decide_eq_false z2, decide_eq_false z6]
      simp
    have z5 : ¬ Int32.ofInt 127 ≤ c := z5
    have z6 : c ≤ Int32.ofInt 126 := by
      rw [Int32.le_iff_toInt_le] at z5 ⊢
      have e1 : (Int32.ofInt 127).toInt = 127 := by decide
      have e2 : (Int32.ofInt 126).toInt = 126 := by decide
      omega
    refine mm_st rfl rfl ?_
    refine mm_st rfl rfl ?_
    refine ⟨fun z7 => absurd z7 (p1_ng2 m (by omega)), fun _ => h66 ?_⟩
    unfold p1_ok
    rw [hg, decide_eq_true z4, decide_eq_true z6]
    simp
theorem p1_G110 (hF : F.length = 25) {w : Int64} {t : Int32} {xs : List Int32} (hx : xs.length = 120) : mm_G Z 11 110 [vR 25, vJ w] (p1_M F f2 f3 f4 fs T q t 0 xs) (fun r _ => r = aX (vI (if p1_all w 8 = true then 1 else 0))) := by
  refine mm_G_of (by rw [p1_ml110]; exact Nat.le_of_ble_eq_true rfl) ?_
  rw [p1_ml110]
  refine mm_at_blk (L := [some (vR 25), some (vJ w), none, none, none, none, none]) p1_b110_0 (by omega) (Or.inl rfl) ?_
  refine mm_st rfl rfl ?_
  refine mm_st rfl rfl ?_
  refine mm_pfi rfl (p1_Mp0 hF) ?_
  refine mm_st rfl rfl ?_
  refine mm_gf (v := vI 0) (p1_Mf hF) ?_
  refine mm_st rfl rfl ?_
  refine mm_st rfl rfl ?_
  refine mm_st rfl rfl ?_
  refine mm_st rfl rfl ?_
  refine mm_st rfl rfl ?_
  exact p1_l17 hF 8 (by omega) _ true 0 xs none (by omega) hx (fun h => rfl)
end P1M
/-- what the heap looks like where write looks -/
def p1_shb (h : mm_H) : Bool := match h.1 with
  | .inl (c0, .inr (.inr (.inl (some v0))) :: _) :: .inl (c1, [.inr (.inr (.inl (some v1))), .inl n1]) :: .inr (.inl (k2, ys)) :: rest => decide (c0 = 0) && decide (v0 = 1) && decide (c1 = 1) && decide (v1 = 2) && decide (n1 = Int32.ofNat 0) && decide (k2 = 0) && decide (ys = List.replicate 120 0) && (match rest.drop 22 with
    | .inl (c, .inl _ :: .inl b :: _ :: _ :: _ :: .inr (.inr (.inl (some f5))) :: _) :: .inr (.inl (kd, xs)) :: _ => decide (c = 10) && decide (b = 0) && decide (f5 = 26) && decide (kd = 2) && decide (xs.length = 120)
    | _ => false)
  | _ => false
theorem p1_shb_of {h : mm_H} (hb : p1_shb h = true) : ∃ fs0 F q t f2 f3 f4 fs xs T, F.length = 22 ∧ xs.length = 120 ∧ h = p1_w fs0 (F ++ .inl (10, vI t :: vI 0 :: f2 :: f3 :: f4 :: vR 26 :: fs) :: .inr (.inl (2, xs)) :: T) q 0 (List.replicate 120 0) := by
  obtain ⟨cells, q⟩ := h
  unfold p1_shb at hb
  simp only at hb
  split at hb
  · rename_i c0 v0 fs0 c1 v1 n1 k2 ys rest
    simp only [Bool.and_eq_true, decide_eq_true_eq] at hb
    obtain ⟨⟨⟨⟨⟨⟨⟨rfl, rfl⟩, rfl⟩, rfl⟩, rfl⟩, rfl⟩, rfl⟩, hb⟩ := hb
    split at hb
    · rename_i c t b f2 f3 f4 f5 fs kd xs T hd
      simp only [Bool.and_eq_true, decide_eq_true_eq] at hb
      obtain ⟨⟨⟨⟨rfl, rfl⟩, rfl⟩, rfl⟩, hx⟩ := hb
      refine ⟨fs0, rest.take 22, q, t, f2, f3, f4, fs, xs, T, ?_, hx, ?_⟩
      · have := congrArg List.length hd
        rw [List.length_drop, List.length_cons] at this
        rw [List.length_take]
        omega
      · unfold p1_w
        rw [← hd, List.take_append_drop]
    · cases hb
  · cases hb
set_option maxRecDepth 100000 in
theorem p1_shape : p1_shb p1_h = true := by decide +kernel
/-- the word of two numbers of the script -/
def p1_word (a b : Int32) : Int64 := (a.toInt64 <<< ((Int32.ofInt 32).toInt64 &&& 63)) ||| (b.toInt64 &&& Int64.ofInt 4294967295)
theorem p1_Mr {F : List mm_O} {f2 f3 f4 : mm_V} {fs : List mm_V} {T : List mm_O} {q : Nat × Nat} {t n : Int32} {xs : List Int32} {vs : List mm_V} (hF : F.length = 25) : mm_rcvb (p1_M F f2 f3 f4 fs T q t n xs) (vR 25 :: vs) 10 = true := by
  unfold mm_rcvb
  simp only [p1_M25 hF]
  rfl
theorem p1_c104 {Z : Nat → List Int32} (hn : (Z 1).length = 3) : mm_P Z 12 167 104 (p1_L 0 none none) [] p1_h p1_Post := by
  obtain ⟨fs0, F, q, t, f2, f3, f4, fs, xs, T, hF, hx, he⟩ := p1_shb_of p1_shape
  obtain ⟨a, b, ha, hb⟩ := p1_z hn
  have h480 : ∀ h, mm_P Z 12 167 480 (p1_L 0 none none) [] h p1_Post := fun h => p1_480 hn (Nat.le_refl _)
  rw [he]
  refine mm_at_blk p1_b167_104 (by omega) (Or.inl rfl) ?_
  refine mm_st rfl rfl ?_
  refine mm_st rfl rfl ?_
  refine mm_st rfl rfl ?_
  refine mm_st rfl rfl ?_
  refine mm_st rfl rfl ?_
  refine mm_zi ha ?_
  refine mm_st rfl rfl ?_
  refine mm_st rfl rfl ?_
  refine mm_st rfl rfl ?_
  refine mm_st rfl rfl ?_
  refine mm_st rfl rfl ?_
  refine mm_st rfl rfl ?_
  refine mm_st rfl rfl ?_
  refine mm_zi hb ?_
  refine mm_st rfl rfl ?_
  refine mm_st rfl rfl ?_
  refine mm_st rfl rfl ?_
  refine mm_st (st' := [vJ (p1_word a b), vR 0]) rfl rfl ?_
  refine mm_iv (d := 11) (vs := [vR 0, vJ (p1_word a b)]) (r := []) p1_na8 (by simp) (by rw [p1_ci8]; rfl) (p1_G8 (by rw [List.length_replicate])) (fun r h hr => ?_)
  obtain ⟨rfl, m, ys, rfl⟩ := hr
  show mm_wp _ _ _ _ _ _ _ _ _ _ _ _
  refine mm_st rfl rfl ?_
  refine mm_st rfl rfl ?_
  refine mm_st rfl rfl ?_
  refine mm_st rfl rfl ?_
  refine mm_st rfl rfl ?_
  refine mm_zi ha ?_
  refine mm_st rfl rfl ?_
  refine mm_st rfl rfl ?_
  refine mm_st rfl rfl ?_
  refine mm_st rfl rfl ?_
  refine mm_st rfl rfl ?_
  refine mm_st rfl rfl ?_
  refine mm_st rfl rfl ?_
  refine mm_zi hb ?_
  refine mm_st rfl rfl ?_
  refine mm_st rfl rfl ?_
  refine mm_st rfl rfl ?_
  refine mm_st (st' := [vJ (p1_word a b), vR 25, vI (if p1_all (p1_word a b) 8 = true then 1 else 0)]) rfl rfl ?_
  have hM : p1_w fs0 (F ++ .inl (10, vI t :: vI 0 :: f2 :: f3 :: f4 :: vR 26 :: fs) :: .inr (.inl (2, xs)) :: T) q m ys = p1_M (.inl (0, vR 1 :: fs0) :: .inl (1, [vR 2, vI (Int32.ofNat m)]) :: .inr (.inl (0, ys)) :: F) f2 f3 f4 fs T q t 0 xs := rfl
  have hF2 : (Sum.inl (0, vR 1 :: fs0) :: Sum.inl (1, [vR 2, vI (Int32.ofNat m)]) :: Sum.inr (Sum.inl (0, ys)) :: F : List mm_O).length = 25 := by simp [hF]
  rw [hM]
  refine mm_iv (d := 11) (vs := [vR 25, vJ (p1_word a b)]) (r := [vI (if p1_all (p1_word a b) 8 = true then 1 else 0)]) p1_na110 (by simp) (by rw [p1_ci110]; exact p1_Mr hF2) (p1_G110 hF2 hx) (fun r h hr => ?_)
  obtain rfl := hr
  exact ⟨fun _ => h480 _, fun z => absurd rfl z⟩
end
section
/-! THE CLAIM OUT OF ONE WALK OF THE LAW'S BODY. Your part is whole_start (and what it stands on); all else here is the same for every law, but numbers. -/
def R_law : String := "LispForgeLaw"
def lw_P (b : Addr) (xs : List Int32) (args : Array Value) (s : State) : Prop := args = #[.ref b] ∧ s.IntsAt b xs ∧ xs.length ≤ 3 ∧ (Jvm.Cond.and given_1 narrow_1).before args s = true
def lw_Q (_ : Array Value) (s : State) (o : Outcome) (t : State) : Prop := o = .returned (some (.int 1)) ∧ Framed s o t [] 600002 7302232
def lw_Z (below : List Frame) (a : Array Value) (s : State) : State → Prop := fun t => ∃ o, t.status = .running ∧ Ended t below o ∧ lw_Q a s o t
/-- the law's own end, with 1 on the stack, nothing written that was there before, its room as the claim has it -/
theorem lw_ret {p : Program} {l : Launch} {e : Env} {s : State} {m : MethodId} {below : List Frame} {meth : Method} {c : Code} {b : Nat} (hx : p.tables.exec = Jvm.exec) (hb : c.code = code) (hr : meth.sig.returnType = ret) (hlocks : meth.locks = false) {pc : Nat} {H : Heap} {ls : Array Slot} (hdg : decode code pc = .ok (.ireturn, 1)) : W p l e room_1 s m #[Value.ref b] below meth c H [] 600002 7302232 (lw_Z below #[Value.ref b] s) (F0 m pc ls [.int 1]) := by
  intro T hT X
  obtain ⟨fs, hret, hrun, hended, hW, hframe⟩ := X.leave (v := some (.int 1)) (hlocks := hlocks) (fun h => by rw [hr] at h; cases h)
  have hmeth' : T.vm.method? m = some meth := X.method'
  refine ⟨T.setFrames fs, ?_, .returned (some (.int 1)), hrun, hended, rfl, ⟨_, rfl⟩, hW, hframe⟩
  jvm_step X.here [X.here.top, hx, hb, hdg, hmeth', hr, ret, narrow_b1]
  (try refine ⟨rfl, ?_⟩); (try refine ⟨rfl, ?_⟩)
  first | (intro acts; rw [hret _ acts rfl rfl rfl]) | rw [hret _ _ rfl rfl rfl]
  exact Steps.refl _
/-- what holds at the law's entry: the machine, the code, the tables' words (any of lw_tbl by 'hts w (by decide +kernel)'), the script of L ints xs at the cell b, what the Statement gives of the start (any of its parts by flat_of_before) -/
def lw_At (p : Program) (e : Env) (s : State) (m : MethodId) (meth : Method) (c : Code) (b L : Nat) (xs : Nat → Int32) : Prop :=
  p.tables.exec = Jvm.exec ∧ c.code = code ∧ meth.sig.returnType = ret ∧ c.maxLocals = 7 ∧ s.vm.findClass R_law = some m.cls ∧ (∀ w ∈ lw_tbl, w.before #[Value.ref b] s = true) ∧ va_X b L xs s s.heap ∧ b < s.heap.size ∧ meth.locks = false ∧ (Jvm.Cond.and given_1 narrow_1).before #[Value.ref b] s = true ∧ e.platform.stackTraces = false ∧ c.exceptionTable.toList = [] ∧ meth.name = "law"
-- ===== YOUR PART BEGINS =====
/-- YOUR PART: from the entry, for every script of at most 3 ints, the law comes to its end with true -/
theorem whole_start {p : Program} {e : Env} {s : State} {m : MethodId} {below : List Frame} {meth : Method} {c : Code} (l : Launch) {b L : Nat} {xs : Nat → Int32} (hL : L ≤ 3) (C0 : lw_At p e s m meth c b L xs) : W p l e room_1 s m #[Value.ref b] below meth c s.heap [] 0 0 (lw_Z below #[Value.ref b] s) (entryFrame m ([Value.ref b] : List Value).toArray 7) := by
  obtain ⟨hx, hb, hr, hml, hown, hts, hX, hbl, hlk, hgv, htr, hex, hnm⟩ := C0
  have hn : (mm_Zx L xs 1).length = L := by simp [mm_Zx]
  refine mm_begin l hx htr hb hr hml hown hnm hlk hex hts hX hbl hgv (p1_law hn hL (fun h3 pc hpc => ?_))
  subst h3
  simp only [List.mem_cons, List.not_mem_nil, or_false] at hpc
  rcases hpc with rfl | rfl | rfl | rfl | rfl | rfl | rfl | rfl
  · exact p1_c104 hn
  · exact p1_c161 hn
  · exact p1_c218 hn
  · exact p1_c266 hn
  · exact p1_c323 hn
  · exact p1_c361 hn
  · exact p1_c417 hn
  · exact p1_c442 hn
-- ===== YOUR PART ENDS =====
set_option maxHeartbeats 4000000 in
theorem lw_walk (l : Launch) (hfl : l.flags = flags0) (b : Addr) (xs : List Int32) : MetFree l x (headSpec (Jvm.Cond.code x code maxLocals ret :: tables_1) room_1) (lw_P b xs) (fun _ _ _ _ _ => True) lw_Q := by
  refine MetFree.of_bodyS (code := code) (maxLocals := maxLocals) (ret := ret) (by decide) ?_ ?_
  · intro args s m h hn
    obtain ⟨meth, c, h1, h2, h3, h4, h5, h6, -, -⟩ := Cond.code_spec hn (atoms_spec (ws := Jvm.Cond.code x code maxLocals ret :: tables_1) h _ List.mem_cons_self)
    exact ⟨meth, c, h1, h2, h3, h4, h5, h6⟩
  · intro p e s m args below meth c s₁ B hml0 hP _
    obtain ⟨rfl, hx, hbd, hgv⟩ := hP
    obtain ⟨scr, harrAt, hlist, hof, hsmall⟩ := hx
    obtain ⟨hcb, hkn, -, -⟩ := State.arrayAt?_spec harrAt
    have hown : s.vm.findClass R_law = some m.cls := findClass_of_methodNamed B.named
    have hts0 : ∀ c ∈ (Jvm.Cond.code x code maxLocals ret :: tables_1), c.before #[Value.ref b] s = true := atoms_spec (ws := Jvm.Cond.code x code maxLocals ret :: tables_1) B.pre
    have hts : ∀ w ∈ lw_tbl, w.before #[Value.ref b] s = true := k2_hts_sels lw_privs (fun w hw => hts0 w (List.mem_cons_of_mem _ hw)) lw_privs_ok
    have hml : c.maxLocals = 7 := B.maxLocals_eq (hts0 _ List.mem_cons_self)
    obtain ⟨meth', c', hm', hc', -, -, -, -, hexe, -⟩ := Cond.code_spec B.named (hts0 _ List.mem_cons_self)
    cases B.method.symm.trans hm'
    cases (Stand.of_body B).code.symm.trans hc'
    have hex : c.exceptionTable.toList = [] := by
      have : c.exceptionTable = #[] := by simpa [Array.isEmpty_iff] using hexe
      rw [this]
    have X₀ : Stand p l e room_1 s m #[Value.ref b] below meth c s₁ [] 0 0 := Stand.of_body B
    have hh0 : s₁.heap = s.heap := by rw [B.state]; rfl
    have hsz : scr.slots.size = xs.length := by rw [← Array.length_toList, hlist, List.length_map]
    have hval : ∀ j : Nat, j < xs.length → scr.slots[j]? = some (.int (xs.getD j 0)) := fun j hj => by
      rw [← Array.getElem?_toList, hlist]
      simp [hj]
    have hbl : b < s.heap.size := (Array.getElem?_eq_some_iff.mp hcb).1
    have hX : va_X b xs.length (fun j => xs.getD j 0) s s.heap := ⟨scr, hcb, hof, hkn, hsz, hval⟩
    have K : W p l e room_1 s m #[Value.ref b] below meth c s₁.heap [] 0 0 (lw_Z below #[Value.ref b] s) (entryFrame m ([Value.ref b] : List Value).toArray 7) := by
      rw [hh0]
      exact whole_start l hbd ⟨B.exec, B.bytes, B.returns, hml, hown, hts, hX, hbl, B.notSynchronized, hgv, Launch.traces_off hfl B.admits, hex, (name_of_methodNamed B.named B.method).1⟩
    obtain ⟨t, a1, o, b1, b2, b3⟩ := K s₁ rfl X₀
    exact ⟨t, o, a1, b1, b2, b3⟩
theorem lw_pre_spec {args : Array Value} {s : State} (h : (Jvm.Cond.and given_1 narrow_1).before args s = true) (hr : rest_1_c.before args s = true) : ∃ (b : Addr) (xs : List Int32), lw_P b xs args s := by
  have hs := flat_of_before _ h
  have hq := flat_of_before _ hr
  have hc : (Cond.count 1).before args s = true := hs _ (by decide +kernel)
  have harr : (Cond.arrayOf (.arg 0) .int).before args s = true := hs _ (by decide +kernel)
  have hle : (Cond.le (.length (.arg 0)) (.int 3)).before args s = true := hs _ (by decide +kernel)
  have hlen : (Cond.isInt (.length (.arg 0))).before args s = true := hq _ (by decide +kernel)
  have hall : (Cond.all (.arg 0) (.isInt (.elem (.arg 0) (.index 0)))).before args s = true := hq _ (by decide +kernel)
  obtain ⟨b, xs, hb, hx⟩ := State.ints_of_pre rfl harr hlen hall
  have hsm : xs.length < 2 ^ 31 := hx.choose_spec.2.2.2
  have hev : (Term.length (.arg 0)).eval args s none [] s = some (.int xs.length.toInt32) := hx.length_eval hb
  have hv := Cond.le_ints hev (show (Term.int 3).eval args s none [] s = some (.int 3) from rfl)
  have hd : xs.length.toInt32 ≤ 3 := by
    simpa [Cond.before, Cond.holds, hv] using hle
  have hN : xs.length ≤ 3 := (Int32.ofNat_le_ofNat hsm (by decide)).mp (show Int32.ofNat xs.length ≤ Int32.ofNat 3 from hd)
  exact ⟨b, xs, Cond.one_arg hc (show args[0]? = some (.ref b) from hb), hx, hN, h⟩
theorem lw_comes (l : Launch) (hfl : l.flags = flags0) : Comes l x (Jvm.Cond.code x code maxLocals ret :: tables_1) room_1 (fun tb e args s => Calls_1 tb e args s ∧ rest_1 tb e args s ∧ Pre_1 tb e args s)
    (fun _ _ args s o t => lw_Q args s o t) := by
  intro p e ha hc hk s m args below hf hfit hheap happ hpre
  obtain ⟨b, xs, hP⟩ := lw_pre_spec hpre.2.2 hpre.2.1
  obtain ⟨k, o, h1, h2, h3, hQ⟩ := lw_walk l hfl b xs p e ha hc hk s m args below hf ((Spec.applies_iff_loose hf).mp happ).1 hP trivial
  exact ⟨k, o, h1, h2, h3, hQ⟩
theorem lw_frame {s t : State} {o : Outcome} {args : Array Value} (h : Framed s o t [] 600002 7302232) :
    Framed s o t (fieldLocs frame_1_writes args s ++ arrayLocs frame_1_arrays args s ++ staticLocs frame_1_statics s) 600002 7302232 := h
theorem lw_limb (L : Cond) (hL : ∀ (args : Array Value) (s t : State), L.after args s (.returned (some (.int 1))) t = true) :
    ArmFor flags0 classFile x code maxLocals ret World_1 tables_1 room_1 Calls_1 rest_1 Pre_1
      (fun tb e a s o t => postC L tb e a s o t ∧ Framed s o t (fieldLocs frame_1_writes a s ++ arrayLocs frame_1_arrays a s ++ staticLocs frame_1_statics s) 600002 7302232) := by
  intro l hfl _ _ p e ha hc hk s m args below hf hfit hheap happ hpre
  obtain ⟨k, o, h1, h2, h3, rfl, hF⟩ := lw_comes l hfl p e ha hc hk s m args below hf hfit hheap happ hpre
  exact ⟨k, _, h1, h2, h3, hL args s _, lw_frame hF⟩
theorem i_vc : Claimed_1_1 ∧ Claimed_1_2 := ⟨lw_limb limb_1_1 (fun args s t => by simp [limb_1_1, Cond.after, Cond.holds, Cond.value]), lw_limb limb_1_2 (fun args s t => Cond.after_iff.mpr (by
  first | (rw [show limb_1_2 = Cond.eq .result (.int 1) from rfl, Cond.eq_ints (x := 1) (y := 1) rfl rfl]; simp; done) | (simp [limb_1_2, Cond.value, Term.eval]; done)))⟩
end
