section
-- ===== PART A: goes FIRST, ahead of the names: the tables' words, and 'selects' of the private methods out of them =====
/-- a private method of a class that the tables say can be made, by its rows of tables_1 -/
def lw_okq (q : MethodName × Nat) : Prop := (q.1.cls ≠ "java/lang/invoke/MethodHandle" ∧ q.1.cls ≠ "java/lang/invoke/VarHandle") ∧ Cond.instantiable q.1.cls q.2 ∈ tables_1 ∧ Cond.privateMethod q.1 ∈ tables_1 ∧ Cond.instanceMethod q.1 ∈ tables_1
theorem lw_p0 : lw_okq (⟨"LispForge$Reader", "takes", "(I)Z"⟩, 7) := ⟨⟨by decide +kernel, by decide +kernel⟩, List.mem_of_getElem? (i := 51) (by decide +kernel), List.mem_of_getElem? (i := 326) (by decide +kernel), List.mem_of_getElem? (i := 327) (by decide +kernel)⟩
theorem lw_p1 : lw_okq (⟨"LispForge$Reader", "lengthensAtom", "(I)Z"⟩, 7) := ⟨⟨by decide +kernel, by decide +kernel⟩, List.mem_of_getElem? (i := 51) (by decide +kernel), List.mem_of_getElem? (i := 330) (by decide +kernel), List.mem_of_getElem? (i := 331) (by decide +kernel)⟩
theorem lw_p2 : lw_okq (⟨"LispForge$Reader", "addsDigit", "(I)Z"⟩, 7) := ⟨⟨by decide +kernel, by decide +kernel⟩, List.mem_of_getElem? (i := 51) (by decide +kernel), List.mem_of_getElem? (i := 337) (by decide +kernel), List.mem_of_getElem? (i := 338) (by decide +kernel)⟩
theorem lw_p3 : lw_okq (⟨"LispForge$Reader", "opensList", "()Z"⟩, 7) := ⟨⟨by decide +kernel, by decide +kernel⟩, List.mem_of_getElem? (i := 51) (by decide +kernel), List.mem_of_getElem? (i := 351) (by decide +kernel), List.mem_of_getElem? (i := 352) (by decide +kernel)⟩
theorem lw_p4 : lw_okq (⟨"LispForge$Reader", "adds", "(LLispForge$Form;)Z"⟩, 7) := ⟨⟨by decide +kernel, by decide +kernel⟩, List.mem_of_getElem? (i := 51) (by decide +kernel), List.mem_of_getElem? (i := 387) (by decide +kernel), List.mem_of_getElem? (i := 388) (by decide +kernel)⟩
theorem lw_p5 : lw_okq (⟨"LispForge$Reader", "closesList", "()Z"⟩, 7) := ⟨⟨by decide +kernel, by decide +kernel⟩, List.mem_of_getElem? (i := 51) (by decide +kernel), List.mem_of_getElem? (i := 395) (by decide +kernel), List.mem_of_getElem? (i := 396) (by decide +kernel)⟩
theorem lw_p6 : lw_okq (⟨"LispForge$Reader", "beginsAtom", "(I)Z"⟩, 7) := ⟨⟨by decide +kernel, by decide +kernel⟩, List.mem_of_getElem? (i := 51) (by decide +kernel), List.mem_of_getElem? (i := 399) (by decide +kernel), List.mem_of_getElem? (i := 400) (by decide +kernel)⟩
theorem lw_p7 : lw_okq (⟨"java/lang/Throwable", "fillInStackTrace", "(I)Ljava/lang/Throwable;"⟩, 6) := ⟨⟨by decide +kernel, by decide +kernel⟩, List.mem_of_getElem? (i := 448) (by decide +kernel), List.mem_of_getElem? (i := 446) (by decide +kernel), List.mem_of_getElem? (i := 447) (by decide +kernel)⟩
theorem lw_p8 : lw_okq (⟨"LispForge$Compiler", "definitionOf", "(LLispForge$Form;I)LLispForge$Unit;"⟩, 12) := ⟨⟨by decide +kernel, by decide +kernel⟩, List.mem_of_getElem? (i := 97) (by decide +kernel), List.mem_of_getElem? (i := 487) (by decide +kernel), List.mem_of_getElem? (i := 488) (by decide +kernel)⟩
theorem lw_p9 : lw_okq (⟨"LispForge$Compiler", "bind", "(II)V"⟩, 12) := ⟨⟨by decide +kernel, by decide +kernel⟩, List.mem_of_getElem? (i := 97) (by decide +kernel), List.mem_of_getElem? (i := 582) (by decide +kernel), List.mem_of_getElem? (i := 583) (by decide +kernel)⟩
theorem lw_p10 : lw_okq (⟨"LispForge$Compiler", "translate", "(LLispForge$Form;LLispForge$Replacement;II)V"⟩, 12) := ⟨⟨by decide +kernel, by decide +kernel⟩, List.mem_of_getElem? (i := 97) (by decide +kernel), List.mem_of_getElem? (i := 587) (by decide +kernel), List.mem_of_getElem? (i := 588) (by decide +kernel)⟩
theorem lw_p11 : lw_okq (⟨"LispForge$Compiler", "settle", "(LLispForge$Form;LLispForge$Replacement;)V"⟩, 12) := ⟨⟨by decide +kernel, by decide +kernel⟩, List.mem_of_getElem? (i := 97) (by decide +kernel), List.mem_of_getElem? (i := 592) (by decide +kernel), List.mem_of_getElem? (i := 593) (by decide +kernel)⟩
theorem lw_p12 : lw_okq (⟨"LispForge$Compiler", "follow", "(LLispForge$Form;LLispForge$Replacement;)V"⟩, 12) := ⟨⟨by decide +kernel, by decide +kernel⟩, List.mem_of_getElem? (i := 97) (by decide +kernel), List.mem_of_getElem? (i := 596) (by decide +kernel), List.mem_of_getElem? (i := 597) (by decide +kernel)⟩
theorem lw_p13 : lw_okq (⟨"LispForge$Compiler", "macroSeen", "()LLispForge$Unit;"⟩, 12) := ⟨⟨by decide +kernel, by decide +kernel⟩, List.mem_of_getElem? (i := 97) (by decide +kernel), List.mem_of_getElem? (i := 605) (by decide +kernel), List.mem_of_getElem? (i := 606) (by decide +kernel)⟩
theorem lw_p14 : lw_okq (⟨"LispForge$Compiler", "replacementBy", "(LLispForge$Unit;LLispForge$Form;LLispForge$Replacement;)LLispForge$Replacement;"⟩, 12) := ⟨⟨by decide +kernel, by decide +kernel⟩, List.mem_of_getElem? (i := 97) (by decide +kernel), List.mem_of_getElem? (i := 613) (by decide +kernel), List.mem_of_getElem? (i := 614) (by decide +kernel)⟩
theorem lw_p15 : lw_okq (⟨"LispForge$Compiler", "putNumber", "(I)V"⟩, 12) := ⟨⟨by decide +kernel, by decide +kernel⟩, List.mem_of_getElem? (i := 97) (by decide +kernel), List.mem_of_getElem? (i := 639) (by decide +kernel), List.mem_of_getElem? (i := 640) (by decide +kernel)⟩
def lw_privs_1 : List (MethodName × Nat) := [(⟨"LispForge$Reader", "takes", "(I)Z"⟩, 7), (⟨"LispForge$Reader", "lengthensAtom", "(I)Z"⟩, 7), (⟨"LispForge$Reader", "addsDigit", "(I)Z"⟩, 7), (⟨"LispForge$Reader", "opensList", "()Z"⟩, 7), (⟨"LispForge$Reader", "adds", "(LLispForge$Form;)Z"⟩, 7), (⟨"LispForge$Reader", "closesList", "()Z"⟩, 7), (⟨"LispForge$Reader", "beginsAtom", "(I)Z"⟩, 7), (⟨"java/lang/Throwable", "fillInStackTrace", "(I)Ljava/lang/Throwable;"⟩, 6), (⟨"LispForge$Compiler", "definitionOf", "(LLispForge$Form;I)LLispForge$Unit;"⟩, 12), (⟨"LispForge$Compiler", "bind", "(II)V"⟩, 12), (⟨"LispForge$Compiler", "translate", "(LLispForge$Form;LLispForge$Replacement;II)V"⟩, 12), (⟨"LispForge$Compiler", "settle", "(LLispForge$Form;LLispForge$Replacement;)V"⟩, 12), (⟨"LispForge$Compiler", "follow", "(LLispForge$Form;LLispForge$Replacement;)V"⟩, 12), (⟨"LispForge$Compiler", "macroSeen", "()LLispForge$Unit;"⟩, 12), (⟨"LispForge$Compiler", "replacementBy", "(LLispForge$Unit;LLispForge$Form;LLispForge$Replacement;)LLispForge$Replacement;"⟩, 12), (⟨"LispForge$Compiler", "putNumber", "(I)V"⟩, 12)]
theorem lw_r1 : ∀ q ∈ lw_privs_1, lw_okq q := List.forall_mem_cons.mpr ⟨lw_p0, List.forall_mem_cons.mpr ⟨lw_p1, List.forall_mem_cons.mpr ⟨lw_p2, List.forall_mem_cons.mpr ⟨lw_p3, List.forall_mem_cons.mpr ⟨lw_p4, List.forall_mem_cons.mpr ⟨lw_p5, List.forall_mem_cons.mpr ⟨lw_p6, List.forall_mem_cons.mpr ⟨lw_p7, List.forall_mem_cons.mpr ⟨lw_p8, List.forall_mem_cons.mpr ⟨lw_p9, List.forall_mem_cons.mpr ⟨lw_p10, List.forall_mem_cons.mpr ⟨lw_p11, List.forall_mem_cons.mpr ⟨lw_p12, List.forall_mem_cons.mpr ⟨lw_p13, List.forall_mem_cons.mpr ⟨lw_p14, List.forall_mem_cons.mpr ⟨lw_p15, fun _ h => absurd h List.not_mem_nil⟩⟩⟩⟩⟩⟩⟩⟩⟩⟩⟩⟩⟩⟩⟩⟩
theorem lw_p16 : lw_okq (⟨"LispForge$Compiler", "emit", "(I)V"⟩, 12) := ⟨⟨by decide +kernel, by decide +kernel⟩, List.mem_of_getElem? (i := 97) (by decide +kernel), List.mem_of_getElem? (i := 643) (by decide +kernel), List.mem_of_getElem? (i := 644) (by decide +kernel)⟩
theorem lw_p17 : lw_okq (⟨"LispForge$Compiler", "slotOf", "(I)I"⟩, 12) := ⟨⟨by decide +kernel, by decide +kernel⟩, List.mem_of_getElem? (i := 97) (by decide +kernel), List.mem_of_getElem? (i := 650) (by decide +kernel), List.mem_of_getElem? (i := 651) (by decide +kernel)⟩
theorem lw_p18 : lw_okq (⟨"LispForge$Compiler", "symbolSeen", "()I"⟩, 12) := ⟨⟨by decide +kernel, by decide +kernel⟩, List.mem_of_getElem? (i := 97) (by decide +kernel), List.mem_of_getElem? (i := 655) (by decide +kernel), List.mem_of_getElem? (i := 656) (by decide +kernel)⟩
theorem lw_p19 : lw_okq (⟨"LispForge$Compiler", "putPair", "(LLispForge$Form;LLispForge$Replacement;III)V"⟩, 12) := ⟨⟨by decide +kernel, by decide +kernel⟩, List.mem_of_getElem? (i := 97) (by decide +kernel), List.mem_of_getElem? (i := 663) (by decide +kernel), List.mem_of_getElem? (i := 664) (by decide +kernel)⟩
theorem lw_p20 : lw_okq (⟨"LispForge$Compiler", "putIf", "(LLispForge$Form;LLispForge$Replacement;II)V"⟩, 12) := ⟨⟨by decide +kernel, by decide +kernel⟩, List.mem_of_getElem? (i := 97) (by decide +kernel), List.mem_of_getElem? (i := 667) (by decide +kernel), List.mem_of_getElem? (i := 668) (by decide +kernel)⟩
theorem lw_p21 : lw_okq (⟨"LispForge$Compiler", "putJump", "(I)I"⟩, 12) := ⟨⟨by decide +kernel, by decide +kernel⟩, List.mem_of_getElem? (i := 97) (by decide +kernel), List.mem_of_getElem? (i := 671) (by decide +kernel), List.mem_of_getElem? (i := 672) (by decide +kernel)⟩
theorem lw_p22 : lw_okq (⟨"LispForge$Compiler", "putLet", "(LLispForge$Form;LLispForge$Replacement;II)V"⟩, 12) := ⟨⟨by decide +kernel, by decide +kernel⟩, List.mem_of_getElem? (i := 97) (by decide +kernel), List.mem_of_getElem? (i := 679) (by decide +kernel), List.mem_of_getElem? (i := 680) (by decide +kernel)⟩
theorem lw_p23 : lw_okq (⟨"LispForge$Compiler", "putDo", "(LLispForge$Form;LLispForge$Replacement;II)V"⟩, 12) := ⟨⟨by decide +kernel, by decide +kernel⟩, List.mem_of_getElem? (i := 97) (by decide +kernel), List.mem_of_getElem? (i := 685) (by decide +kernel), List.mem_of_getElem? (i := 686) (by decide +kernel)⟩
theorem lw_p24 : lw_okq (⟨"LispForge$Compiler", "putSet", "(LLispForge$Form;LLispForge$Replacement;II)V"⟩, 12) := ⟨⟨by decide +kernel, by decide +kernel⟩, List.mem_of_getElem? (i := 97) (by decide +kernel), List.mem_of_getElem? (i := 690) (by decide +kernel), List.mem_of_getElem? (i := 691) (by decide +kernel)⟩
theorem lw_p25 : lw_okq (⟨"LispForge$Compiler", "putRun", "(LLispForge$Form;LLispForge$Replacement;II)V"⟩, 12) := ⟨⟨by decide +kernel, by decide +kernel⟩, List.mem_of_getElem? (i := 97) (by decide +kernel), List.mem_of_getElem? (i := 694) (by decide +kernel), List.mem_of_getElem? (i := 695) (by decide +kernel)⟩
theorem lw_p26 : lw_okq (⟨"LispForge$Compiler", "putCall", "(ILLispForge$Form;LLispForge$Replacement;II)V"⟩, 12) := ⟨⟨by decide +kernel, by decide +kernel⟩, List.mem_of_getElem? (i := 97) (by decide +kernel), List.mem_of_getElem? (i := 699) (by decide +kernel), List.mem_of_getElem? (i := 700) (by decide +kernel)⟩
theorem lw_p27 : lw_okq (⟨"LispForge$Compiler", "addFix", "(II)V"⟩, 12) := ⟨⟨by decide +kernel, by decide +kernel⟩, List.mem_of_getElem? (i := 97) (by decide +kernel), List.mem_of_getElem? (i := 703) (by decide +kernel), List.mem_of_getElem? (i := 704) (by decide +kernel)⟩
theorem lw_p28 : lw_okq (⟨"LispForge$Compiler", "fileOf", "(LLispForge$Unit;)LLispForge$Bytes;"⟩, 12) := ⟨⟨by decide +kernel, by decide +kernel⟩, List.mem_of_getElem? (i := 97) (by decide +kernel), List.mem_of_getElem? (i := 735) (by decide +kernel), List.mem_of_getElem? (i := 736) (by decide +kernel)⟩
theorem lw_p29 : lw_okq (⟨"LispForge$Linker", "add", "(LLispForge$Unit;)V"⟩, 5) := ⟨⟨by decide +kernel, by decide +kernel⟩, List.mem_of_getElem? (i := 142) (by decide +kernel), List.mem_of_getElem? (i := 785) (by decide +kernel), List.mem_of_getElem? (i := 786) (by decide +kernel)⟩
theorem lw_p30 : lw_okq (⟨"LispForge$Linker", "gatherCalledBy", "(LLispForge$Unit;)I"⟩, 5) := ⟨⟨by decide +kernel, by decide +kernel⟩, List.mem_of_getElem? (i := 142) (by decide +kernel), List.mem_of_getElem? (i := 789) (by decide +kernel), List.mem_of_getElem? (i := 790) (by decide +kernel)⟩
theorem lw_p31 : lw_okq (⟨"LispForge$Linker", "beginningOf", "(LLispForge$Unit;)I"⟩, 5) := ⟨⟨by decide +kernel, by decide +kernel⟩, List.mem_of_getElem? (i := 142) (by decide +kernel), List.mem_of_getElem? (i := 794) (by decide +kernel), List.mem_of_getElem? (i := 795) (by decide +kernel)⟩
def lw_privs_2 : List (MethodName × Nat) := [(⟨"LispForge$Compiler", "emit", "(I)V"⟩, 12), (⟨"LispForge$Compiler", "slotOf", "(I)I"⟩, 12), (⟨"LispForge$Compiler", "symbolSeen", "()I"⟩, 12), (⟨"LispForge$Compiler", "putPair", "(LLispForge$Form;LLispForge$Replacement;III)V"⟩, 12), (⟨"LispForge$Compiler", "putIf", "(LLispForge$Form;LLispForge$Replacement;II)V"⟩, 12), (⟨"LispForge$Compiler", "putJump", "(I)I"⟩, 12), (⟨"LispForge$Compiler", "putLet", "(LLispForge$Form;LLispForge$Replacement;II)V"⟩, 12), (⟨"LispForge$Compiler", "putDo", "(LLispForge$Form;LLispForge$Replacement;II)V"⟩, 12), (⟨"LispForge$Compiler", "putSet", "(LLispForge$Form;LLispForge$Replacement;II)V"⟩, 12), (⟨"LispForge$Compiler", "putRun", "(LLispForge$Form;LLispForge$Replacement;II)V"⟩, 12), (⟨"LispForge$Compiler", "putCall", "(ILLispForge$Form;LLispForge$Replacement;II)V"⟩, 12), (⟨"LispForge$Compiler", "addFix", "(II)V"⟩, 12), (⟨"LispForge$Compiler", "fileOf", "(LLispForge$Unit;)LLispForge$Bytes;"⟩, 12), (⟨"LispForge$Linker", "add", "(LLispForge$Unit;)V"⟩, 5), (⟨"LispForge$Linker", "gatherCalledBy", "(LLispForge$Unit;)I"⟩, 5), (⟨"LispForge$Linker", "beginningOf", "(LLispForge$Unit;)I"⟩, 5)]
theorem lw_r2 : ∀ q ∈ lw_privs_2, lw_okq q := List.forall_mem_cons.mpr ⟨lw_p16, List.forall_mem_cons.mpr ⟨lw_p17, List.forall_mem_cons.mpr ⟨lw_p18, List.forall_mem_cons.mpr ⟨lw_p19, List.forall_mem_cons.mpr ⟨lw_p20, List.forall_mem_cons.mpr ⟨lw_p21, List.forall_mem_cons.mpr ⟨lw_p22, List.forall_mem_cons.mpr ⟨lw_p23, List.forall_mem_cons.mpr ⟨lw_p24, List.forall_mem_cons.mpr ⟨lw_p25, List.forall_mem_cons.mpr ⟨lw_p26, List.forall_mem_cons.mpr ⟨lw_p27, List.forall_mem_cons.mpr ⟨lw_p28, List.forall_mem_cons.mpr ⟨lw_p29, List.forall_mem_cons.mpr ⟨lw_p30, List.forall_mem_cons.mpr ⟨lw_p31, fun _ h => absurd h List.not_mem_nil⟩⟩⟩⟩⟩⟩⟩⟩⟩⟩⟩⟩⟩⟩⟩⟩
theorem lw_p32 : lw_okq (⟨"LispForge$Linker", "moveJumps", "(LLispForge$Bytes;LLispForge$Bytes;I)V"⟩, 5) := ⟨⟨by decide +kernel, by decide +kernel⟩, List.mem_of_getElem? (i := 142) (by decide +kernel), List.mem_of_getElem? (i := 805) (by decide +kernel), List.mem_of_getElem? (i := 806) (by decide +kernel)⟩
theorem lw_p33 : lw_okq (⟨"LispForge$Linker", "setCalls", "(LLispForge$Unit;LLispForge$Bytes;I)V"⟩, 5) := ⟨⟨by decide +kernel, by decide +kernel⟩, List.mem_of_getElem? (i := 142) (by decide +kernel), List.mem_of_getElem? (i := 819) (by decide +kernel), List.mem_of_getElem? (i := 820) (by decide +kernel)⟩
theorem lw_p34 : lw_okq (⟨"LispForge$Machine", "makeStep", "()V"⟩, 10) := ⟨⟨by decide +kernel, by decide +kernel⟩, List.mem_of_getElem? (i := 165) (by decide +kernel), List.mem_of_getElem? (i := 835) (by decide +kernel), List.mem_of_getElem? (i := 836) (by decide +kernel)⟩
theorem lw_p35 : lw_okq (⟨"LispForge$Machine", "hasNoRoomFor", "(I)Z"⟩, 10) := ⟨⟨by decide +kernel, by decide +kernel⟩, List.mem_of_getElem? (i := 165) (by decide +kernel), List.mem_of_getElem? (i := 840) (by decide +kernel), List.mem_of_getElem? (i := 841) (by decide +kernel)⟩
theorem lw_p36 : lw_okq (⟨"LispForge$Machine", "put", "(I)V"⟩, 10) := ⟨⟨by decide +kernel, by decide +kernel⟩, List.mem_of_getElem? (i := 165) (by decide +kernel), List.mem_of_getElem? (i := 845) (by decide +kernel), List.mem_of_getElem? (i := 846) (by decide +kernel)⟩
theorem lw_p37 : lw_okq (⟨"LispForge$Machine", "joinTwo", "(I)V"⟩, 10) := ⟨⟨by decide +kernel, by decide +kernel⟩, List.mem_of_getElem? (i := 165) (by decide +kernel), List.mem_of_getElem? (i := 850) (by decide +kernel), List.mem_of_getElem? (i := 851) (by decide +kernel)⟩
theorem lw_p38 : lw_okq (⟨"LispForge$Machine", "takeOff", "()I"⟩, 10) := ⟨⟨by decide +kernel, by decide +kernel⟩, List.mem_of_getElem? (i := 165) (by decide +kernel), List.mem_of_getElem? (i := 854) (by decide +kernel), List.mem_of_getElem? (i := 855) (by decide +kernel)⟩
theorem lw_p39 : lw_okq (⟨"LispForge$Machine", "takeOutBelow", "()V"⟩, 10) := ⟨⟨by decide +kernel, by decide +kernel⟩, List.mem_of_getElem? (i := 165) (by decide +kernel), List.mem_of_getElem? (i := 859) (by decide +kernel), List.mem_of_getElem? (i := 860) (by decide +kernel)⟩
theorem lw_p40 : lw_okq (⟨"LispForge$Machine", "store", "(I)V"⟩, 10) := ⟨⟨by decide +kernel, by decide +kernel⟩, List.mem_of_getElem? (i := 165) (by decide +kernel), List.mem_of_getElem? (i := 863) (by decide +kernel), List.mem_of_getElem? (i := 864) (by decide +kernel)⟩
theorem lw_p41 : lw_okq (⟨"LispForge$Machine", "enter", "()V"⟩, 10) := ⟨⟨by decide +kernel, by decide +kernel⟩, List.mem_of_getElem? (i := 165) (by decide +kernel), List.mem_of_getElem? (i := 867) (by decide +kernel), List.mem_of_getElem? (i := 868) (by decide +kernel)⟩
theorem lw_p42 : lw_okq (⟨"LispForge$Machine", "leave", "()V"⟩, 10) := ⟨⟨by decide +kernel, by decide +kernel⟩, List.mem_of_getElem? (i := 165) (by decide +kernel), List.mem_of_getElem? (i := 871) (by decide +kernel), List.mem_of_getElem? (i := 872) (by decide +kernel)⟩
theorem lw_p43 : lw_okq (⟨"LispForgeModel", "read", "(III)I"⟩, 57) := ⟨⟨by decide +kernel, by decide +kernel⟩, List.mem_of_getElem? (i := 875) (by decide +kernel), List.mem_of_getElem? (i := 1062) (by decide +kernel), List.mem_of_getElem? (i := 1063) (by decide +kernel)⟩
theorem lw_p44 : lw_okq (⟨"LispForgeModel", "at", "(II)I"⟩, 57) := ⟨⟨by decide +kernel, by decide +kernel⟩, List.mem_of_getElem? (i := 875) (by decide +kernel), List.mem_of_getElem? (i := 1066) (by decide +kernel), List.mem_of_getElem? (i := 1067) (by decide +kernel)⟩
theorem lw_p45 : lw_okq (⟨"LispForgeModel", "form", "(II)I"⟩, 57) := ⟨⟨by decide +kernel, by decide +kernel⟩, List.mem_of_getElem? (i := 875) (by decide +kernel), List.mem_of_getElem? (i := 1079) (by decide +kernel), List.mem_of_getElem? (i := 1080) (by decide +kernel)⟩
theorem lw_p46 : lw_okq (⟨"LispForgeModel", "joins", "(I)V"⟩, 57) := ⟨⟨by decide +kernel, by decide +kernel⟩, List.mem_of_getElem? (i := 875) (by decide +kernel), List.mem_of_getElem? (i := 1083) (by decide +kernel), List.mem_of_getElem? (i := 1084) (by decide +kernel)⟩
theorem lw_p47 : lw_okq (⟨"LispForgeModel", "number", "(I)I"⟩, 57) := ⟨⟨by decide +kernel, by decide +kernel⟩, List.mem_of_getElem? (i := 875) (by decide +kernel), List.mem_of_getElem? (i := 1087) (by decide +kernel), List.mem_of_getElem? (i := 1088) (by decide +kernel)⟩
def lw_privs_3 : List (MethodName × Nat) := [(⟨"LispForge$Linker", "moveJumps", "(LLispForge$Bytes;LLispForge$Bytes;I)V"⟩, 5), (⟨"LispForge$Linker", "setCalls", "(LLispForge$Unit;LLispForge$Bytes;I)V"⟩, 5), (⟨"LispForge$Machine", "makeStep", "()V"⟩, 10), (⟨"LispForge$Machine", "hasNoRoomFor", "(I)Z"⟩, 10), (⟨"LispForge$Machine", "put", "(I)V"⟩, 10), (⟨"LispForge$Machine", "joinTwo", "(I)V"⟩, 10), (⟨"LispForge$Machine", "takeOff", "()I"⟩, 10), (⟨"LispForge$Machine", "takeOutBelow", "()V"⟩, 10), (⟨"LispForge$Machine", "store", "(I)V"⟩, 10), (⟨"LispForge$Machine", "enter", "()V"⟩, 10), (⟨"LispForge$Machine", "leave", "()V"⟩, 10), (⟨"LispForgeModel", "read", "(III)I"⟩, 57), (⟨"LispForgeModel", "at", "(II)I"⟩, 57), (⟨"LispForgeModel", "form", "(II)I"⟩, 57), (⟨"LispForgeModel", "joins", "(I)V"⟩, 57), (⟨"LispForgeModel", "number", "(I)I"⟩, 57)]
theorem lw_r3 : ∀ q ∈ lw_privs_3, lw_okq q := List.forall_mem_cons.mpr ⟨lw_p32, List.forall_mem_cons.mpr ⟨lw_p33, List.forall_mem_cons.mpr ⟨lw_p34, List.forall_mem_cons.mpr ⟨lw_p35, List.forall_mem_cons.mpr ⟨lw_p36, List.forall_mem_cons.mpr ⟨lw_p37, List.forall_mem_cons.mpr ⟨lw_p38, List.forall_mem_cons.mpr ⟨lw_p39, List.forall_mem_cons.mpr ⟨lw_p40, List.forall_mem_cons.mpr ⟨lw_p41, List.forall_mem_cons.mpr ⟨lw_p42, List.forall_mem_cons.mpr ⟨lw_p43, List.forall_mem_cons.mpr ⟨lw_p44, List.forall_mem_cons.mpr ⟨lw_p45, List.forall_mem_cons.mpr ⟨lw_p46, List.forall_mem_cons.mpr ⟨lw_p47, fun _ h => absurd h List.not_mem_nil⟩⟩⟩⟩⟩⟩⟩⟩⟩⟩⟩⟩⟩⟩⟩⟩
theorem lw_p48 : lw_okq (⟨"LispForgeModel", "symbolForm", "(II)I"⟩, 57) := ⟨⟨by decide +kernel, by decide +kernel⟩, List.mem_of_getElem? (i := 875) (by decide +kernel), List.mem_of_getElem? (i := 1091) (by decide +kernel), List.mem_of_getElem? (i := 1092) (by decide +kernel)⟩
theorem lw_p49 : lw_okq (⟨"LispForgeModel", "head", "(I)I"⟩, 57) := ⟨⟨by decide +kernel, by decide +kernel⟩, List.mem_of_getElem? (i := 875) (by decide +kernel), List.mem_of_getElem? (i := 1095) (by decide +kernel), List.mem_of_getElem? (i := 1096) (by decide +kernel)⟩
theorem lw_p50 : lw_okq (⟨"LispForgeModel", "count", "(I)I"⟩, 57) := ⟨⟨by decide +kernel, by decide +kernel⟩, List.mem_of_getElem? (i := 875) (by decide +kernel), List.mem_of_getElem? (i := 1099) (by decide +kernel), List.mem_of_getElem? (i := 1100) (by decide +kernel)⟩
theorem lw_p51 : lw_okq (⟨"LispForgeModel", "part", "(II)I"⟩, 57) := ⟨⟨by decide +kernel, by decide +kernel⟩, List.mem_of_getElem? (i := 875) (by decide +kernel), List.mem_of_getElem? (i := 1103) (by decide +kernel), List.mem_of_getElem? (i := 1104) (by decide +kernel)⟩
theorem lw_p52 : lw_okq (⟨"LispForgeModel", "isSymbol", "(I)Z"⟩, 57) := ⟨⟨by decide +kernel, by decide +kernel⟩, List.mem_of_getElem? (i := 875) (by decide +kernel), List.mem_of_getElem? (i := 1110) (by decide +kernel), List.mem_of_getElem? (i := 1111) (by decide +kernel)⟩
theorem lw_p53 : lw_okq (⟨"LispForgeModel", "parametersOf", "(I)I"⟩, 57) := ⟨⟨by decide +kernel, by decide +kernel⟩, List.mem_of_getElem? (i := 875) (by decide +kernel), List.mem_of_getElem? (i := 1117) (by decide +kernel), List.mem_of_getElem? (i := 1118) (by decide +kernel)⟩
theorem lw_p54 : lw_okq (⟨"LispForgeModel", "know", "(II)V"⟩, 57) := ⟨⟨by decide +kernel, by decide +kernel⟩, List.mem_of_getElem? (i := 875) (by decide +kernel), List.mem_of_getElem? (i := 1121) (by decide +kernel), List.mem_of_getElem? (i := 1122) (by decide +kernel)⟩
theorem lw_p55 : lw_okq (⟨"LispForgeModel", "body", "(III)V"⟩, 57) := ⟨⟨by decide +kernel, by decide +kernel⟩, List.mem_of_getElem? (i := 875) (by decide +kernel), List.mem_of_getElem? (i := 1125) (by decide +kernel), List.mem_of_getElem? (i := 1126) (by decide +kernel)⟩
theorem lw_p56 : lw_okq (⟨"LispForgeModel", "push", "(III)V"⟩, 57) := ⟨⟨by decide +kernel, by decide +kernel⟩, List.mem_of_getElem? (i := 875) (by decide +kernel), List.mem_of_getElem? (i := 1129) (by decide +kernel), List.mem_of_getElem? (i := 1130) (by decide +kernel)⟩
theorem lw_p57 : lw_okq (⟨"LispForgeModel", "perform", "(III)V"⟩, 57) := ⟨⟨by decide +kernel, by decide +kernel⟩, List.mem_of_getElem? (i := 875) (by decide +kernel), List.mem_of_getElem? (i := 1133) (by decide +kernel), List.mem_of_getElem? (i := 1134) (by decide +kernel)⟩
theorem lw_p58 : lw_okq (⟨"LispForgeModel", "listed", "(I)V"⟩, 57) := ⟨⟨by decide +kernel, by decide +kernel⟩, List.mem_of_getElem? (i := 875) (by decide +kernel), List.mem_of_getElem? (i := 1137) (by decide +kernel), List.mem_of_getElem? (i := 1138) (by decide +kernel)⟩
theorem lw_p59 : lw_okq (⟨"LispForgeModel", "macro", "(I)I"⟩, 57) := ⟨⟨by decide +kernel, by decide +kernel⟩, List.mem_of_getElem? (i := 875) (by decide +kernel), List.mem_of_getElem? (i := 1141) (by decide +kernel), List.mem_of_getElem? (i := 1142) (by decide +kernel)⟩
theorem lw_p60 : lw_okq (⟨"LispForgeModel", "replace", "(III)V"⟩, 57) := ⟨⟨by decide +kernel, by decide +kernel⟩, List.mem_of_getElem? (i := 875) (by decide +kernel), List.mem_of_getElem? (i := 1145) (by decide +kernel), List.mem_of_getElem? (i := 1146) (by decide +kernel)⟩
theorem lw_p61 : lw_okq (⟨"LispForgeModel", "atom", "(I)V"⟩, 57) := ⟨⟨by decide +kernel, by decide +kernel⟩, List.mem_of_getElem? (i := 875) (by decide +kernel), List.mem_of_getElem? (i := 1152) (by decide +kernel), List.mem_of_getElem? (i := 1153) (by decide +kernel)⟩
theorem lw_p62 : lw_okq (⟨"LispForgeModel", "emit", "(I)V"⟩, 57) := ⟨⟨by decide +kernel, by decide +kernel⟩, List.mem_of_getElem? (i := 875) (by decide +kernel), List.mem_of_getElem? (i := 1156) (by decide +kernel), List.mem_of_getElem? (i := 1157) (by decide +kernel)⟩
theorem lw_p63 : lw_okq (⟨"LispForgeModel", "emitPlace", "(I)V"⟩, 57) := ⟨⟨by decide +kernel, by decide +kernel⟩, List.mem_of_getElem? (i := 875) (by decide +kernel), List.mem_of_getElem? (i := 1160) (by decide +kernel), List.mem_of_getElem? (i := 1161) (by decide +kernel)⟩
def lw_privs_4 : List (MethodName × Nat) := [(⟨"LispForgeModel", "symbolForm", "(II)I"⟩, 57), (⟨"LispForgeModel", "head", "(I)I"⟩, 57), (⟨"LispForgeModel", "count", "(I)I"⟩, 57), (⟨"LispForgeModel", "part", "(II)I"⟩, 57), (⟨"LispForgeModel", "isSymbol", "(I)Z"⟩, 57), (⟨"LispForgeModel", "parametersOf", "(I)I"⟩, 57), (⟨"LispForgeModel", "know", "(II)V"⟩, 57), (⟨"LispForgeModel", "body", "(III)V"⟩, 57), (⟨"LispForgeModel", "push", "(III)V"⟩, 57), (⟨"LispForgeModel", "perform", "(III)V"⟩, 57), (⟨"LispForgeModel", "listed", "(I)V"⟩, 57), (⟨"LispForgeModel", "macro", "(I)I"⟩, 57), (⟨"LispForgeModel", "replace", "(III)V"⟩, 57), (⟨"LispForgeModel", "atom", "(I)V"⟩, 57), (⟨"LispForgeModel", "emit", "(I)V"⟩, 57), (⟨"LispForgeModel", "emitPlace", "(I)V"⟩, 57)]
theorem lw_r4 : ∀ q ∈ lw_privs_4, lw_okq q := List.forall_mem_cons.mpr ⟨lw_p48, List.forall_mem_cons.mpr ⟨lw_p49, List.forall_mem_cons.mpr ⟨lw_p50, List.forall_mem_cons.mpr ⟨lw_p51, List.forall_mem_cons.mpr ⟨lw_p52, List.forall_mem_cons.mpr ⟨lw_p53, List.forall_mem_cons.mpr ⟨lw_p54, List.forall_mem_cons.mpr ⟨lw_p55, List.forall_mem_cons.mpr ⟨lw_p56, List.forall_mem_cons.mpr ⟨lw_p57, List.forall_mem_cons.mpr ⟨lw_p58, List.forall_mem_cons.mpr ⟨lw_p59, List.forall_mem_cons.mpr ⟨lw_p60, List.forall_mem_cons.mpr ⟨lw_p61, List.forall_mem_cons.mpr ⟨lw_p62, List.forall_mem_cons.mpr ⟨lw_p63, fun _ h => absurd h List.not_mem_nil⟩⟩⟩⟩⟩⟩⟩⟩⟩⟩⟩⟩⟩⟩⟩⟩
theorem lw_p64 : lw_okq (⟨"LispForgeModel", "slotOf", "(I)I"⟩, 57) := ⟨⟨by decide +kernel, by decide +kernel⟩, List.mem_of_getElem? (i := 875) (by decide +kernel), List.mem_of_getElem? (i := 1164) (by decide +kernel), List.mem_of_getElem? (i := 1165) (by decide +kernel)⟩
theorem lw_p65 : lw_okq (⟨"LispForgeModel", "aim", "(I)V"⟩, 57) := ⟨⟨by decide +kernel, by decide +kernel⟩, List.mem_of_getElem? (i := 875) (by decide +kernel), List.mem_of_getElem? (i := 1168) (by decide +kernel), List.mem_of_getElem? (i := 1169) (by decide +kernel)⟩
theorem lw_p66 : lw_okq (⟨"LispForgeModel", "fourth", "()I"⟩, 57) := ⟨⟨by decide +kernel, by decide +kernel⟩, List.mem_of_getElem? (i := 875) (by decide +kernel), List.mem_of_getElem? (i := 1172) (by decide +kernel), List.mem_of_getElem? (i := 1173) (by decide +kernel)⟩
theorem lw_p67 : lw_okq (⟨"LispForgeModel", "keep", "(IIII)I"⟩, 57) := ⟨⟨by decide +kernel, by decide +kernel⟩, List.mem_of_getElem? (i := 875) (by decide +kernel), List.mem_of_getElem? (i := 1176) (by decide +kernel), List.mem_of_getElem? (i := 1177) (by decide +kernel)⟩
theorem lw_p68 : lw_okq (⟨"LispForgeModel", "latest", "(II)I"⟩, 57) := ⟨⟨by decide +kernel, by decide +kernel⟩, List.mem_of_getElem? (i := 875) (by decide +kernel), List.mem_of_getElem? (i := 1204) (by decide +kernel), List.mem_of_getElem? (i := 1205) (by decide +kernel)⟩
theorem lw_p69 : lw_okq (⟨"LispForgeModel", "meet", "(I)I"⟩, 57) := ⟨⟨by decide +kernel, by decide +kernel⟩, List.mem_of_getElem? (i := 875) (by decide +kernel), List.mem_of_getElem? (i := 1208) (by decide +kernel), List.mem_of_getElem? (i := 1209) (by decide +kernel)⟩
theorem lw_p70 : lw_okq (⟨"LispForgeModel", "stands", "(I)I"⟩, 57) := ⟨⟨by decide +kernel, by decide +kernel⟩, List.mem_of_getElem? (i := 875) (by decide +kernel), List.mem_of_getElem? (i := 1212) (by decide +kernel), List.mem_of_getElem? (i := 1213) (by decide +kernel)⟩
theorem lw_p71 : lw_okq (⟨"LispForgeModel", "copy", "(II)V"⟩, 57) := ⟨⟨by decide +kernel, by decide +kernel⟩, List.mem_of_getElem? (i := 875) (by decide +kernel), List.mem_of_getElem? (i := 1216) (by decide +kernel), List.mem_of_getElem? (i := 1217) (by decide +kernel)⟩
theorem lw_p72 : lw_okq (⟨"LispForgeModel", "putPlace", "(II)V"⟩, 57) := ⟨⟨by decide +kernel, by decide +kernel⟩, List.mem_of_getElem? (i := 875) (by decide +kernel), List.mem_of_getElem? (i := 1220) (by decide +kernel), List.mem_of_getElem? (i := 1221) (by decide +kernel)⟩
theorem lw_p73 : lw_okq (⟨"LispForgeModel", "begin", "()V"⟩, 57) := ⟨⟨by decide +kernel, by decide +kernel⟩, List.mem_of_getElem? (i := 875) (by decide +kernel), List.mem_of_getElem? (i := 1227) (by decide +kernel), List.mem_of_getElem? (i := 1228) (by decide +kernel)⟩
theorem lw_p74 : lw_okq (⟨"LispForgeModel", "step", "()V"⟩, 57) := ⟨⟨by decide +kernel, by decide +kernel⟩, List.mem_of_getElem? (i := 875) (by decide +kernel), List.mem_of_getElem? (i := 1247) (by decide +kernel), List.mem_of_getElem? (i := 1248) (by decide +kernel)⟩
theorem lw_p75 : lw_okq (⟨"LispForgeModel", "placeAt", "(I)I"⟩, 57) := ⟨⟨by decide +kernel, by decide +kernel⟩, List.mem_of_getElem? (i := 875) (by decide +kernel), List.mem_of_getElem? (i := 1251) (by decide +kernel), List.mem_of_getElem? (i := 1252) (by decide +kernel)⟩
theorem lw_p76 : lw_okq (⟨"LispForgeModel", "put", "(I)V"⟩, 57) := ⟨⟨by decide +kernel, by decide +kernel⟩, List.mem_of_getElem? (i := 875) (by decide +kernel), List.mem_of_getElem? (i := 1255) (by decide +kernel), List.mem_of_getElem? (i := 1256) (by decide +kernel)⟩
theorem lw_p77 : lw_okq (⟨"LispForgeModel", "work", "(I)V"⟩, 57) := ⟨⟨by decide +kernel, by decide +kernel⟩, List.mem_of_getElem? (i := 875) (by decide +kernel), List.mem_of_getElem? (i := 1259) (by decide +kernel), List.mem_of_getElem? (i := 1260) (by decide +kernel)⟩
def lw_privs_5 : List (MethodName × Nat) := [(⟨"LispForgeModel", "slotOf", "(I)I"⟩, 57), (⟨"LispForgeModel", "aim", "(I)V"⟩, 57), (⟨"LispForgeModel", "fourth", "()I"⟩, 57), (⟨"LispForgeModel", "keep", "(IIII)I"⟩, 57), (⟨"LispForgeModel", "latest", "(II)I"⟩, 57), (⟨"LispForgeModel", "meet", "(I)I"⟩, 57), (⟨"LispForgeModel", "stands", "(I)I"⟩, 57), (⟨"LispForgeModel", "copy", "(II)V"⟩, 57), (⟨"LispForgeModel", "putPlace", "(II)V"⟩, 57), (⟨"LispForgeModel", "begin", "()V"⟩, 57), (⟨"LispForgeModel", "step", "()V"⟩, 57), (⟨"LispForgeModel", "placeAt", "(I)I"⟩, 57), (⟨"LispForgeModel", "put", "(I)V"⟩, 57), (⟨"LispForgeModel", "work", "(I)V"⟩, 57)]
theorem lw_r5 : ∀ q ∈ lw_privs_5, lw_okq q := List.forall_mem_cons.mpr ⟨lw_p64, List.forall_mem_cons.mpr ⟨lw_p65, List.forall_mem_cons.mpr ⟨lw_p66, List.forall_mem_cons.mpr ⟨lw_p67, List.forall_mem_cons.mpr ⟨lw_p68, List.forall_mem_cons.mpr ⟨lw_p69, List.forall_mem_cons.mpr ⟨lw_p70, List.forall_mem_cons.mpr ⟨lw_p71, List.forall_mem_cons.mpr ⟨lw_p72, List.forall_mem_cons.mpr ⟨lw_p73, List.forall_mem_cons.mpr ⟨lw_p74, List.forall_mem_cons.mpr ⟨lw_p75, List.forall_mem_cons.mpr ⟨lw_p76, List.forall_mem_cons.mpr ⟨lw_p77, fun _ h => absurd h List.not_mem_nil⟩⟩⟩⟩⟩⟩⟩⟩⟩⟩⟩⟩⟩⟩
def lw_privs : List (MethodName × Nat) := lw_privs_1 ++ (lw_privs_2 ++ (lw_privs_3 ++ (lw_privs_4 ++ (lw_privs_5))))
def lw_tbl : List Cond := k2_sels lw_privs ++ tables_1
theorem lw_privs_ok : ∀ q ∈ lw_privs, lw_okq q := by
  show ∀ q ∈ lw_privs_1 ++ (lw_privs_2 ++ (lw_privs_3 ++ (lw_privs_4 ++ (lw_privs_5)))), lw_okq q
  exact List.forall_mem_append.mpr ⟨lw_r1, List.forall_mem_append.mpr ⟨lw_r2, List.forall_mem_append.mpr ⟨lw_r3, List.forall_mem_append.mpr ⟨lw_r4, lw_r5⟩⟩⟩⟩
end
section
def mm_T0 : u_T := fun k => match k with
  | 0 => ("LispForge", "text", "LLispForge$Bytes;", true)
  | 1 => ("LispForge", "reader", "LLispForge$Reader;", true)
  | 2 => ("LispForge", "shelf", "LLispForge$Shelf;", true)
  | 3 => ("LispForge", "compiler", "LLispForge$Compiler;", true)
  | 4 => ("LispForge", "linker", "LLispForge$Linker;", true)
  | 5 => ("LispForge", "machine", "LLispForge$Machine;", true)
  | 6 => ("LispForge", "errorPosition", "I", false)
  | _ => ("LispForge", "linkFailure", "I", false)
def mm_T1 : u_T := fun k => match k with
  | 0 => ("LispForge$Bytes", "row", "[I", true)
  | _ => ("LispForge$Bytes", "length", "I", false)
def mm_T2 : u_T := fun k => match k with
  | 0 => ("LispForge$Compiler", "shelf", "LLispForge$Shelf;", true)
  | 1 => ("LispForge$Compiler", "code", "LLispForge$Bytes;", true)
  | 2 => ("LispForge$Compiler", "file", "LLispForge$Bytes;", true)
  | 3 => ("LispForge$Compiler", "fixPlaces", "[I", true)
  | 4 => ("LispForge$Compiler", "fixNames", "[I", true)
  | 5 => ("LispForge$Compiler", "fixCount", "I", false)
  | 6 => ("LispForge$Compiler", "boundNames", "[I", true)
  | 7 => ("LispForge$Compiler", "boundSlots", "[I", true)
  | 8 => ("LispForge$Compiler", "boundCount", "I", false)
  | 9 => ("LispForge$Compiler", "replacedCount", "I", false)
  | 10 => ("LispForge$Compiler", "seen", "LLispForge$Form;", false)
  | _ => ("LispForge$Compiler", "seenWithin", "LLispForge$Replacement;", false)
def mm_T3 : u_T := fun k => match k with
  | 0 => ("LispForge$Form", "kind", "I", false)
  | 1 => ("LispForge$Form", "value", "I", false)
  | 2 => ("LispForge$Form", "size", "I", false)
  | 3 => ("LispForge$Form", "first", "LLispForge$Form;", false)
  | 4 => ("LispForge$Form", "last", "LLispForge$Form;", false)
  | _ => ("LispForge$Form", "next", "LLispForge$Form;", false)
def mm_T4 : u_T := fun k => match k with
  | 0 => ("LispForge$Linker", "shelf", "LLispForge$Shelf;", true)
  | 1 => ("LispForge$Linker", "order", "[LLispForge$Unit;", true)
  | 2 => ("LispForge$Linker", "beginnings", "[I", true)
  | 3 => ("LispForge$Linker", "count", "I", false)
  | _ => ("LispForge$Linker", "length", "I", false)
def mm_T5 : u_T := fun k => match k with
  | 0 => ("LispForge$Machine", "program", "LLispForge$Bytes;", true)
  | 1 => ("LispForge$Machine", "numbers", "[I", true)
  | 2 => ("LispForge$Machine", "size", "I", false)
  | 3 => ("LispForge$Machine", "callerFrames", "[I", true)
  | 4 => ("LispForge$Machine", "callerPlaces", "[I", true)
  | 5 => ("LispForge$Machine", "calls", "I", false)
  | 6 => ("LispForge$Machine", "state", "I", false)
  | 7 => ("LispForge$Machine", "place", "I", false)
  | 8 => ("LispForge$Machine", "frame", "I", false)
  | _ => ("LispForge$Machine", "steps", "I", false)
def mm_T6 : u_T := fun k => match k with
  | 0 => ("LispForge$Reader", "open", "[LLispForge$Form;", true)
  | 1 => ("LispForge$Reader", "depth", "I", false)
  | 2 => ("LispForge$Reader", "whole", "LLispForge$Form;", false)
  | 3 => ("LispForge$Reader", "atom", "LLispForge$Form;", false)
  | 4 => ("LispForge$Reader", "atomLength", "I", false)
  | 5 => ("LispForge$Reader", "isNegative", "Z", false)
  | _ => ("LispForge$Reader", "errorPosition", "I", false)
def mm_T7 : u_T := fun k => match k with
  | 0 => ("LispForge$Replacement", "macro", "LLispForge$Unit;", true)
  | 1 => ("LispForge$Replacement", "firstArgument", "LLispForge$Form;", true)
  | _ => ("LispForge$Replacement", "around", "LLispForge$Replacement;", true)
def mm_T8 : u_T := fun k => match k with
  | 0 => ("LispForge$Shelf", "units", "[LLispForge$Unit;", true)
  | _ => ("LispForge$Shelf", "count", "I", false)
def mm_T9 : u_T := fun k => match k with
  | 0 => ("LispForge$Unit", "kind", "I", true)
  | 1 => ("LispForge$Unit", "name", "I", true)
  | 2 => ("LispForge$Unit", "parameters", "[I", true)
  | 3 => ("LispForge$Unit", "body", "LLispForge$Form;", true)
  | 4 => ("LispForge$Unit", "code", "LLispForge$Bytes;", false)
  | 5 => ("LispForge$Unit", "file", "LLispForge$Bytes;", false)
  | 6 => ("LispForge$Unit", "fixPlaces", "[I", false)
  | _ => ("LispForge$Unit", "fixNames", "[I", false)
def mm_T10 : u_T := fun k => match k with
  | 0 => ("LispForgeModel", "thrown", "I", false)
  | 1 => ("LispForgeModel", "typed", "I", false)
  | 2 => ("LispForgeModel", "units", "I", false)
  | 3 => ("LispForgeModel", "position", "I", false)
  | 4 => ("LispForgeModel", "failure", "I", false)
  | 5 => ("LispForgeModel", "text", "[C", true)
  | 6 => ("LispForgeModel", "sort", "[I", true)
  | 7 => ("LispForgeModel", "named", "[I", true)
  | 8 => ("LispForgeModel", "parameters", "[I", true)
  | 9 => ("LispForgeModel", "sizes", "[I", true)
  | 10 => ("LispForgeModel", "codes", "[B", true)
  | 11 => ("LispForgeModel", "fixes", "[I", true)
  | 12 => ("LispForgeModel", "fixAt", "[I", true)
  | 13 => ("LispForgeModel", "fixName", "[I", true)
  | 14 => ("LispForgeModel", "wanted", "[I", true)
  | 15 => ("LispForgeModel", "kept", "[C", true)
  | 16 => ("LispForgeModel", "long0", "[I", true)
  | 17 => ("LispForgeModel", "forms", "I", false)
  | 18 => ("LispForgeModel", "cells", "I", false)
  | 19 => ("LispForgeModel", "kind", "[I", true)
  | 20 => ("LispForgeModel", "value", "[I", true)
  | 21 => ("LispForgeModel", "held", "[I", true)
  | 22 => ("LispForgeModel", "next", "[I", true)
  | 23 => ("LispForgeModel", "p", "I", false)
  | 24 => ("LispForgeModel", "wrong", "I", false)
  | 25 => ("LispForgeModel", "open", "I", false)
  | 26 => ("LispForgeModel", "list", "[I", true)
  | 27 => ("LispForgeModel", "lastCell", "[I", true)
  | 28 => ("LispForgeModel", "bad", "Z", false)
  | 29 => ("LispForgeModel", "tasks", "I", false)
  | 30 => ("LispForgeModel", "size", "I", false)
  | 31 => ("LispForgeModel", "deep", "I", false)
  | 32 => ("LispForgeModel", "names", "I", false)
  | 33 => ("LispForgeModel", "replaced", "I", false)
  | 34 => ("LispForgeModel", "marks", "I", false)
  | 35 => ("LispForgeModel", "task", "[I", true)
  | 36 => ("LispForgeModel", "first", "[I", true)
  | 37 => ("LispForgeModel", "second", "[I", true)
  | 38 => ("LispForgeModel", "code", "[B", true)
  | 39 => ("LispForgeModel", "symbol", "[I", true)
  | 40 => ("LispForgeModel", "slot", "[I", true)
  | 41 => ("LispForgeModel", "markAt", "[I", true)
  | 42 => ("LispForgeModel", "markName", "[I", true)
  | 43 => ("LispForgeModel", "linked", "I", false)
  | 44 => ("LispForgeModel", "order", "[I", true)
  | 45 => ("LispForgeModel", "begins", "[I", true)
  | 46 => ("LispForgeModel", "imageSize", "I", false)
  | 47 => ("LispForgeModel", "image", "[B", true)
  | 48 => ("LispForgeModel", "state", "I", false)
  | 49 => ("LispForgeModel", "place", "I", false)
  | 50 => ("LispForgeModel", "frame", "I", false)
  | 51 => ("LispForgeModel", "top", "I", false)
  | 52 => ("LispForgeModel", "calls", "I", false)
  | 53 => ("LispForgeModel", "steps", "I", false)
  | 54 => ("LispForgeModel", "stack", "[I", true)
  | 55 => ("LispForgeModel", "callFrame", "[I", true)
  | _ => ("LispForgeModel", "callPlace", "[I", true)
def vwCl : List vw_C := [("LispForge", mm_T0, 8), ("LispForge$Bytes", mm_T1, 2), ("LispForge$Compiler", mm_T2, 12), ("LispForge$Form", mm_T3, 6), ("LispForge$Linker", mm_T4, 5), ("LispForge$Machine", mm_T5, 10), ("LispForge$Reader", mm_T6, 7), ("LispForge$Replacement", mm_T7, 3), ("LispForge$Shelf", mm_T8, 2), ("LispForge$Unit", mm_T9, 8), ("LispForgeModel", mm_T10, 57)]
def mm_K0 : List FieldType := [.object "LispForge$Bytes", .object "LispForge$Reader", .object "LispForge$Shelf", .object "LispForge$Compiler", .object "LispForge$Linker", .object "LispForge$Machine", .int, .int]
def mm_K1 : List FieldType := [.array (.int), .int]
def mm_K2 : List FieldType := [.object "LispForge$Shelf", .object "LispForge$Bytes", .object "LispForge$Bytes", .array (.int), .array (.int), .int, .array (.int), .array (.int), .int, .int, .object "LispForge$Form", .object "LispForge$Replacement"]
def mm_K3 : List FieldType := [.int, .int, .int, .object "LispForge$Form", .object "LispForge$Form", .object "LispForge$Form"]
def mm_K4 : List FieldType := [.object "LispForge$Shelf", .array (.object "LispForge$Unit"), .array (.int), .int, .int]
def mm_K5 : List FieldType := [.object "LispForge$Bytes", .array (.int), .int, .array (.int), .array (.int), .int, .int, .int, .int, .int]
def mm_K6 : List FieldType := [.array (.object "LispForge$Form"), .int, .object "LispForge$Form", .object "LispForge$Form", .int, .boolean, .int]
def mm_K7 : List FieldType := [.object "LispForge$Unit", .object "LispForge$Form", .object "LispForge$Replacement"]
def mm_K8 : List FieldType := [.array (.object "LispForge$Unit"), .int]
def mm_K9 : List FieldType := [.int, .int, .array (.int), .object "LispForge$Form", .object "LispForge$Bytes", .object "LispForge$Bytes", .array (.int), .array (.int)]
def mm_K10 : List FieldType := [.int, .int, .int, .int, .int, .array (.char), .array (.int), .array (.int), .array (.int), .array (.int), .array (.byte), .array (.int), .array (.int), .array (.int), .array (.int), .array (.char), .array (.int), .int, .int, .array (.int), .array (.int), .array (.int), .array (.int), .int, .int, .int, .array (.int), .array (.int), .boolean, .int, .int, .int, .int, .int, .int, .array (.int), .array (.int), .array (.int), .array (.byte), .array (.int), .array (.int), .array (.int), .array (.int), .int, .array (.int), .array (.int), .int, .array (.byte), .int, .int, .int, .int, .int, .int, .array (.int), .array (.int), .array (.int)]
def mm_K (ci : Nat) : List FieldType := match ci with
  | 0 => mm_K0
  | 1 => mm_K1
  | 2 => mm_K2
  | 3 => mm_K3
  | 4 => mm_K4
  | 5 => mm_K5
  | 6 => mm_K6
  | 7 => mm_K7
  | 8 => mm_K8
  | 9 => mm_K9
  | 10 => mm_K10
  | _ => []
/-- the classes of the arrays of references: their elements' class -/
def mm_el (j : Nat) : Nat := match j with
  | 0 => 3
  | _ => 9
def mm_tys (cT : Nat → ClassId) : List (ClassId × FieldType) := [(cT 0, .int), (cT 1, .byte), (cT 2, .char), (cT 3, .long), (cT 4, .object "LispForge$Form"), (cT 5, .object "LispForge$Unit")]
def mm_over : List String := ["LispForge$Form", "LispForge$Unit"]
def mm_ex (e : Nat) : String := match e with
  | 0 => "java/lang/IllegalArgumentException"
  | 1 => "java/lang/UnsupportedOperationException"
  | _ => "java/lang/IllegalStateException"
def mm_meths : List (MethodName × (ByteArray × (Nat × (Option FieldType × Nat)))) := [
  (⟨"LispForge", "<init>", "()V"⟩, prog_1_method_1_code, 1, none, 1),
  (⟨"LispForge$Bytes", "<init>", "(I)V"⟩, prog_2_method_1_code, 2, none, 2),
  (⟨"java/lang/Math", "max", "(II)I"⟩, prog_17_method_65_code, 2, (some .int), 2),
  (⟨"LispForge$Reader", "<init>", "()V"⟩, prog_7_method_1_code, 1, none, 1),
  (⟨"LispForge$Shelf", "<init>", "()V"⟩, prog_9_method_1_code, 1, none, 1),
  (⟨"LispForge$Compiler", "<init>", "(LLispForge$Shelf;)V"⟩, prog_3_method_1_code, 2, none, 2),
  (⟨"LispForge$Linker", "<init>", "(LLispForge$Shelf;)V"⟩, prog_5_method_1_code, 2, none, 2),
  (⟨"LispForge$Machine", "<init>", "()V"⟩, prog_6_method_1_code, 1, none, 1),
  (⟨"LispForge", "write", "(J)Z"⟩, prog_1_method_2_code, 6, (some .boolean), 2),
  (⟨"LispForge", "characterAt", "(JI)I"⟩, prog_1_method_15_code, 3, (some .int), 2),
  (⟨"LispForge$Bytes", "room", "()I"⟩, prog_2_method_3_code, 1, (some .int), 1),
  (⟨"LispForge$Bytes", "put", "(I)V"⟩, prog_2_method_5_code, 2, none, 2),
  (⟨"LispForge", "position", "()I"⟩, prog_1_method_4_code, 1, (some .int), 1),
  (⟨"LispForge", "object", "(II)I"⟩, prog_1_method_5_code, 4, (some .int), 3),
  (⟨"LispForge$Shelf", "unit", "(I)LLispForge$Unit;"⟩, prog_9_method_5_code, 2, (some (.object "LispForge$Unit")), 2),
  (⟨"LispForge$Bytes", "lengthOrByte", "(I)I"⟩, prog_2_method_12_code, 2, (some .int), 2),
  (⟨"LispForge$Bytes", "at", "(I)I"⟩, prog_2_method_10_code, 2, (some .int), 2),
  (⟨"LispForge", "clear", "()V"⟩, prog_1_method_6_code, 1, none, 1),
  (⟨"LispForge$Shelf", "empty", "()V"⟩, prog_9_method_4_code, 1, none, 1),
  (⟨"LispForge", "failure", "()I"⟩, prog_1_method_8_code, 1, (some .int), 1),
  (⟨"LispForge", "image", "(I)I"⟩, prog_1_method_9_code, 2, (some .int), 2),
  (⟨"LispForge", "restart", "()Z"⟩, prog_1_method_10_code, 1, (some .boolean), 1),
  (⟨"LispForge$Machine", "begin", "()V"⟩, prog_6_method_2_code, 1, none, 1),
  (⟨"LispForge", "about", "(I)I"⟩, prog_1_method_12_code, 2, (some .int), 2),
  (⟨"LispForge", "stack", "(I)I"⟩, prog_1_method_13_code, 2, (some .int), 2),
  (⟨"LispForge$Machine", "numberAt", "(I)I"⟩, prog_6_method_4_code, 2, (some .int), 2),
  (⟨"LispForge", "top", "()I"⟩, prog_1_method_14_code, 1, (some .int), 1),
  (⟨"LispForge", "compile", "()I"⟩, prog_1_method_3_code, 3, (some .int), 1),
  (⟨"LispForge$Reader", "read", "(LLispForge$Bytes;)LLispForge$Form;"⟩, prog_7_method_2_code, 3, (some (.object "LispForge$Form")), 2),
  (⟨"LispForge$Reader", "takes", "(I)Z"⟩, prog_7_method_3_code, 3, (some .boolean), 2),
  (⟨"LispForge$Reader", "lengthensAtom", "(I)Z"⟩, prog_7_method_4_code, 2, (some .boolean), 2),
  (⟨"LispForge$Reader", "isDigit", "(I)Z"⟩, prog_7_method_10_code, 1, (some .boolean), 1),
  (⟨"LispForge$Reader", "addsDigit", "(I)Z"⟩, prog_7_method_5_code, 2, (some .boolean), 2),
  (⟨"LispForge$Reader", "isLetter", "(I)Z"⟩, prog_7_method_11_code, 1, (some .boolean), 1),
  (⟨"LispForge$Form", "isSymbolOfLetters", "()Z"⟩, prog_4_method_2_code, 1, (some .boolean), 1),
  (⟨"LispForge", "isOfLetters", "(I)Z"⟩, prog_1_method_16_code, 1, (some .boolean), 1),
  (⟨"LispForge$Reader", "opensList", "()Z"⟩, prog_7_method_7_code, 2, (some .boolean), 1),
  (⟨"LispForge$Form", "<init>", "(II)V"⟩, prog_4_method_1_code, 3, none, 3),
  (⟨"LispForge$Reader", "adds", "(LLispForge$Form;)Z"⟩, prog_7_method_9_code, 3, (some .boolean), 2),
  (⟨"LispForge$Form", "append", "(LLispForge$Form;)V"⟩, prog_4_method_3_code, 2, none, 2),
  (⟨"LispForge$Reader", "closesList", "()Z"⟩, prog_7_method_8_code, 1, (some .boolean), 1),
  (⟨"LispForge$Reader", "beginsAtom", "(I)Z"⟩, prog_7_method_6_code, 3, (some .boolean), 2),
  (⟨"LispForge$Reader", "isSign", "(I)Z"⟩, prog_7_method_12_code, 1, (some .boolean), 1),
  (⟨"LispForge$Bytes", "empty", "()V"⟩, prog_2_method_4_code, 1, none, 1),
  (⟨"LispForge$Compiler", "unitOf", "(LLispForge$Form;)LLispForge$Unit;"⟩, prog_3_method_2_code, 3, (some (.object "LispForge$Unit")), 2),
  (⟨"LispForge$Form", "part", "(I)LLispForge$Form;"⟩, prog_4_method_4_code, 4, (some (.object "LispForge$Form")), 2),
  (⟨"LispForge$Compiler", "definitionOf", "(LLispForge$Form;I)LLispForge$Unit;"⟩, prog_3_method_3_code, 6, (some (.object "LispForge$Unit")), 3),
  (⟨"LispForge$Compiler", "isWord", "(I)Z"⟩, prog_3_method_4_code, 1, (some .boolean), 1),
  (⟨"LispForge$Compiler", "areParameters", "(LLispForge$Form;)Z"⟩, prog_3_method_5_code, 2, (some .boolean), 1),
  (⟨"LispForge$Compiler", "isRepeatedBehind", "(LLispForge$Form;)Z"⟩, prog_3_method_6_code, 2, (some .boolean), 1),
  (⟨"LispForge$Compiler", "symbolsOf", "(LLispForge$Form;)[I"⟩, prog_3_method_7_code, 4, (some (.array .int)), 1),
  (⟨"LispForge$Unit", "<init>", "(II[ILLispForge$Form;)V"⟩, prog_10_method_1_code, 5, none, 5),
  (⟨"LispForge$Compiler", "complete", "(LLispForge$Unit;)V"⟩, prog_3_method_8_code, 4, none, 2),
  (⟨"LispForge$Compiler", "bind", "(II)V"⟩, prog_3_method_23_code, 3, none, 3),
  (⟨"LispForge$Compiler", "translate", "(LLispForge$Form;LLispForge$Replacement;II)V"⟩, prog_3_method_10_code, 8, none, 5),
  (⟨"LispForge$Compiler", "settle", "(LLispForge$Form;LLispForge$Replacement;)V"⟩, prog_3_method_27_code, 7, none, 3),
  (⟨"LispForge$Compiler", "follow", "(LLispForge$Form;LLispForge$Replacement;)V"⟩, prog_3_method_28_code, 5, none, 3),
  (⟨"LispForge$Replacement", "argumentFor", "(I)LLispForge$Form;"⟩, prog_8_method_2_code, 4, (some (.object "LispForge$Form")), 2),
  (⟨"LispForge$Compiler", "macroSeen", "()LLispForge$Unit;"⟩, prog_3_method_29_code, 1, (some (.object "LispForge$Unit")), 1),
  (⟨"LispForge$Shelf", "latest", "(II)LLispForge$Unit;"⟩, prog_9_method_6_code, 5, (some (.object "LispForge$Unit")), 3),
  (⟨"LispForge$Compiler", "replacementBy", "(LLispForge$Unit;LLispForge$Form;LLispForge$Replacement;)LLispForge$Replacement;"⟩, prog_3_method_30_code, 4, (some (.object "LispForge$Replacement")), 4),
  (⟨"LispForge$Compiler", "requireSize", "(LLispForge$Form;I)V"⟩, prog_3_method_25_code, 2, none, 2),
  (⟨"LispForge$Replacement", "<init>", "(LLispForge$Unit;LLispForge$Form;LLispForge$Replacement;)V"⟩, prog_8_method_1_code, 4, none, 4),
  (⟨"LispForge$Compiler", "putNumber", "(I)V"⟩, prog_3_method_19_code, 2, none, 2),
  (⟨"LispForge$Compiler", "emit", "(I)V"⟩, prog_3_method_21_code, 2, none, 2),
  (⟨"LispForge$Compiler", "slotOf", "(I)I"⟩, prog_3_method_24_code, 3, (some .int), 2),
  (⟨"LispForge$Compiler", "symbolSeen", "()I"⟩, prog_3_method_26_code, 1, (some .int), 1),
  (⟨"LispForge$Compiler", "operationOf", "(I)I"⟩, prog_3_method_11_code, 1, (some .int), 1),
  (⟨"LispForge$Compiler", "putPair", "(LLispForge$Form;LLispForge$Replacement;III)V"⟩, prog_3_method_12_code, 6, none, 6),
  (⟨"LispForge$Compiler", "putIf", "(LLispForge$Form;LLispForge$Replacement;II)V"⟩, prog_3_method_13_code, 7, none, 5),
  (⟨"LispForge$Compiler", "putJump", "(I)I"⟩, prog_3_method_20_code, 2, (some .int), 2),
  (⟨"LispForge$Bytes", "setTwo", "(II)V"⟩, prog_2_method_9_code, 3, none, 3),
  (⟨"LispForge$Compiler", "putLet", "(LLispForge$Form;LLispForge$Replacement;II)V"⟩, prog_3_method_14_code, 6, none, 5),
  (⟨"LispForge$Compiler", "putDo", "(LLispForge$Form;LLispForge$Replacement;II)V"⟩, prog_3_method_15_code, 6, none, 5),
  (⟨"LispForge$Compiler", "putSet", "(LLispForge$Form;LLispForge$Replacement;II)V"⟩, prog_3_method_16_code, 6, none, 5),
  (⟨"LispForge$Compiler", "putRun", "(LLispForge$Form;LLispForge$Replacement;II)V"⟩, prog_3_method_17_code, 8, none, 5),
  (⟨"LispForge$Compiler", "putCall", "(ILLispForge$Form;LLispForge$Replacement;II)V"⟩, prog_3_method_18_code, 8, none, 6),
  (⟨"LispForge$Compiler", "addFix", "(II)V"⟩, prog_3_method_22_code, 3, none, 3),
  (⟨"LispForge$Bytes", "copy", "()LLispForge$Bytes;"⟩, prog_2_method_2_code, 2, (some (.object "LispForge$Bytes")), 1),
  (⟨"LispForge$Bytes", "putAll", "(LLispForge$Bytes;)V"⟩, prog_2_method_8_code, 3, none, 2),
  (⟨"java/util/Arrays", "copyOf", "([II)[I"⟩, prog_23_method_123_code, 3, (some (.array .int)), 2),
  (⟨"java/lang/Math", "min", "(II)I"⟩, prog_17_method_69_code, 2, (some .int), 2),
  (⟨"LispForge$Compiler", "fileOf", "(LLispForge$Unit;)LLispForge$Bytes;"⟩, prog_3_method_9_code, 3, (some (.object "LispForge$Bytes")), 2),
  (⟨"LispForge$Bytes", "putName", "(I)V"⟩, prog_2_method_7_code, 4, none, 2),
  (⟨"LispForge$Bytes", "putTwo", "(I)V"⟩, prog_2_method_6_code, 2, none, 2),
  (⟨"LispForge$Shelf", "isFull", "()Z"⟩, prog_9_method_2_code, 1, (some .boolean), 1),
  (⟨"LispForge$Shelf", "put", "(LLispForge$Unit;)I"⟩, prog_9_method_3_code, 2, (some .int), 2),
  (⟨"LispForge", "link", "()I"⟩, prog_1_method_7_code, 1, (some .int), 1),
  (⟨"LispForge$Linker", "gather", "()I"⟩, prog_5_method_2_code, 4, (some .int), 1),
  (⟨"LispForge$Linker", "add", "(LLispForge$Unit;)V"⟩, prog_5_method_4_code, 2, none, 2),
  (⟨"LispForge$Linker", "gatherCalledBy", "(LLispForge$Unit;)I"⟩, prog_5_method_3_code, 4, (some .int), 2),
  (⟨"LispForge$Linker", "beginningOf", "(LLispForge$Unit;)I"⟩, prog_5_method_5_code, 3, (some .int), 2),
  (⟨"LispForge$Linker", "fill", "(LLispForge$Bytes;)V"⟩, prog_5_method_6_code, 3, none, 2),
  (⟨"LispForge$Linker", "moveJumps", "(LLispForge$Bytes;LLispForge$Bytes;I)V"⟩, prog_5_method_7_code, 6, none, 4),
  (⟨"LispForge$Bytes", "twoAt", "(I)I"⟩, prog_2_method_11_code, 2, (some .int), 2),
  (⟨"LispForge$Linker", "lengthOf", "(I)I"⟩, prog_5_method_8_code, 1, (some .int), 1),
  (⟨"LispForge$Linker", "setCalls", "(LLispForge$Unit;LLispForge$Bytes;I)V"⟩, prog_5_method_9_code, 6, none, 4),
  (⟨"LispForge", "run", "(I)I"⟩, prog_1_method_11_code, 2, (some .int), 2),
  (⟨"LispForge$Machine", "makeSteps", "(I)I"⟩, prog_6_method_3_code, 3, (some .int), 2),
  (⟨"LispForge$Machine", "makeStep", "()V"⟩, prog_6_method_5_code, 2, none, 1),
  (⟨"LispForge$Machine", "hasNoRoomFor", "(I)Z"⟩, prog_6_method_6_code, 2, (some .boolean), 2),
  (⟨"LispForge$Machine", "put", "(I)V"⟩, prog_6_method_7_code, 2, none, 2),
  (⟨"LispForge$Machine", "joinTwo", "(I)V"⟩, prog_6_method_9_code, 4, none, 2),
  (⟨"LispForge$Machine", "takeOff", "()I"⟩, prog_6_method_8_code, 2, (some .int), 1),
  (⟨"LispForge$Machine", "takeOutBelow", "()V"⟩, prog_6_method_10_code, 2, none, 1),
  (⟨"LispForge$Machine", "store", "(I)V"⟩, prog_6_method_11_code, 2, none, 2),
  (⟨"LispForge$Machine", "enter", "()V"⟩, prog_6_method_12_code, 1, none, 1),
  (⟨"LispForge$Machine", "leave", "()V"⟩, prog_6_method_13_code, 2, none, 1),
  (⟨"LispForgeModel", "<init>", "()V"⟩, prog_12_method_1_code, 1, none, 1),
  (⟨"LispForgeModel", "write", "(J)Z"⟩, prog_12_method_3_code, 7, (some .boolean), 2),
  (⟨"LispForgeModel", "compile", "()I"⟩, prog_12_method_35_code, 7, (some .int), 1),
  (⟨"LispForgeModel", "read", "(III)I"⟩, prog_12_method_12_code, 10, (some .int), 4),
  (⟨"LispForgeModel", "at", "(II)I"⟩, prog_12_method_4_code, 3, (some .int), 3),
  (⟨"LispForgeModel", "isDigit", "(I)Z"⟩, prog_12_method_5_code, 1, (some .boolean), 1),
  (⟨"LispForgeModel", "isLetter", "(I)Z"⟩, prog_12_method_6_code, 1, (some .boolean), 1),
  (⟨"LispForgeModel", "isSign", "(I)Z"⟩, prog_12_method_7_code, 1, (some .boolean), 1),
  (⟨"LispForgeModel", "form", "(II)I"⟩, prog_12_method_8_code, 3, (some .int), 3),
  (⟨"LispForgeModel", "joins", "(I)V"⟩, prog_12_method_9_code, 2, none, 2),
  (⟨"LispForgeModel", "number", "(I)I"⟩, prog_12_method_10_code, 5, (some .int), 2),
  (⟨"LispForgeModel", "symbolForm", "(II)I"⟩, prog_12_method_11_code, 6, (some .int), 3),
  (⟨"LispForgeModel", "head", "(I)I"⟩, prog_12_method_18_code, 3, (some .int), 2),
  (⟨"LispForgeModel", "count", "(I)I"⟩, prog_12_method_13_code, 4, (some .int), 2),
  (⟨"LispForgeModel", "part", "(II)I"⟩, prog_12_method_14_code, 5, (some .int), 3),
  (⟨"LispForgeModel", "word", "(III)I"⟩, prog_12_method_16_code, 3, (some .int), 3),
  (⟨"LispForgeModel", "isSymbol", "(I)Z"⟩, prog_12_method_15_code, 2, (some .boolean), 2),
  (⟨"LispForgeModel", "isWord", "(I)Z"⟩, prog_12_method_17_code, 1, (some .boolean), 1),
  (⟨"LispForgeModel", "parametersOf", "(I)I"⟩, prog_12_method_32_code, 6, (some .int), 2),
  (⟨"LispForgeModel", "know", "(II)V"⟩, prog_12_method_24_code, 3, none, 3),
  (⟨"LispForgeModel", "body", "(III)V"⟩, prog_12_method_31_code, 4, none, 4),
  (⟨"LispForgeModel", "push", "(III)V"⟩, prog_12_method_23_code, 4, none, 4),
  (⟨"LispForgeModel", "perform", "(III)V"⟩, prog_12_method_30_code, 4, none, 4),
  (⟨"LispForgeModel", "listed", "(I)V"⟩, prog_12_method_29_code, 6, none, 2),
  (⟨"LispForgeModel", "macro", "(I)I"⟩, prog_12_method_19_code, 3, (some .int), 2),
  (⟨"LispForgeModel", "replace", "(III)V"⟩, prog_12_method_28_code, 4, none, 4),
  (⟨"LispForgeModel", "sign", "(I)I"⟩, prog_12_method_27_code, 1, (some .int), 1),
  (⟨"LispForgeModel", "atom", "(I)V"⟩, prog_12_method_26_code, 3, none, 2),
  (⟨"LispForgeModel", "emit", "(I)V"⟩, prog_12_method_20_code, 2, none, 2),
  (⟨"LispForgeModel", "emitPlace", "(I)V"⟩, prog_12_method_21_code, 2, none, 2),
  (⟨"LispForgeModel", "slotOf", "(I)I"⟩, prog_12_method_25_code, 3, (some .int), 2),
  (⟨"LispForgeModel", "aim", "(I)V"⟩, prog_12_method_22_code, 2, none, 2),
  (⟨"LispForgeModel", "fourth", "()I"⟩, prog_12_method_34_code, 8, (some .int), 1),
  (⟨"LispForgeModel", "keep", "(IIII)I"⟩, prog_12_method_33_code, 7, (some .int), 5),
  (⟨"LispForgeModel", "position", "()I"⟩, prog_12_method_36_code, 1, (some .int), 1),
  (⟨"LispForgeModel", "object", "(II)I"⟩, prog_12_method_39_code, 11, (some .int), 3),
  (⟨"LispForgeModel", "letters", "(I)I"⟩, prog_12_method_37_code, 1, (some .int), 1),
  (⟨"LispForgeModel", "nameByte", "(II)I"⟩, prog_12_method_38_code, 3, (some .int), 2),
  (⟨"LispForgeModel", "clear", "()V"⟩, prog_12_method_40_code, 1, none, 1),
  (⟨"LispForgeModel", "link", "()I"⟩, prog_12_method_47_code, 4, (some .int), 1),
  (⟨"LispForgeModel", "latest", "(II)I"⟩, prog_12_method_41_code, 4, (some .int), 3),
  (⟨"LispForgeModel", "meet", "(I)I"⟩, prog_12_method_43_code, 4, (some .int), 2),
  (⟨"LispForgeModel", "stands", "(I)I"⟩, prog_12_method_42_code, 3, (some .int), 2),
  (⟨"LispForgeModel", "copy", "(II)V"⟩, prog_12_method_46_code, 5, none, 3),
  (⟨"LispForgeModel", "putPlace", "(II)V"⟩, prog_12_method_45_code, 3, none, 3),
  (⟨"LispForgeModel", "wide", "(I)I"⟩, prog_12_method_44_code, 1, (some .int), 1),
  (⟨"LispForgeModel", "begin", "()V"⟩, prog_12_method_50_code, 1, none, 1),
  (⟨"LispForgeModel", "failure", "()I"⟩, prog_12_method_48_code, 1, (some .int), 1),
  (⟨"LispForgeModel", "image", "(I)I"⟩, prog_12_method_49_code, 2, (some .int), 2),
  (⟨"LispForgeModel", "restart", "()Z"⟩, prog_12_method_51_code, 1, (some .boolean), 1),
  (⟨"LispForgeModel", "run", "(I)I"⟩, prog_12_method_56_code, 3, (some .int), 2),
  (⟨"LispForgeModel", "step", "()V"⟩, prog_12_method_55_code, 4, none, 1),
  (⟨"LispForgeModel", "placeAt", "(I)I"⟩, prog_12_method_52_code, 2, (some .int), 2),
  (⟨"LispForgeModel", "put", "(I)V"⟩, prog_12_method_53_code, 2, none, 2),
  (⟨"LispForgeModel", "work", "(I)V"⟩, prog_12_method_54_code, 4, none, 2),
  (⟨"LispForgeModel", "about", "(I)I"⟩, prog_12_method_57_code, 2, (some .int), 2),
  (⟨"LispForgeModel", "stack", "(I)I"⟩, prog_12_method_58_code, 2, (some .int), 2),
  (⟨"LispForgeModel", "top", "()I"⟩, prog_12_method_59_code, 1, (some .int), 1),
  (⟨"LispForgeLaw", "law", "([I)Z"⟩, code, 7, (some .boolean), 1),
  (⟨"LispForgeLaw", "compile", "(LLispForge;[J)I"⟩, method_3_code, 3, (some .int), 2),
  (⟨"LispForgeLaw", "link", "(LLispForge;[J)I"⟩, method_4_code, 3, (some .int), 2),
  (⟨"LispForgeLaw", "run", "(LLispForge;I[J)I"⟩, method_5_code, 4, (some .int), 3)]
def mm_mt (mi : Nat) : MethodName × (ByteArray × (Nat × (Option FieldType × Nat))) := mm_meths.getD mi (⟨"", "", ""⟩, ⟨#[]⟩, 0, none, 0)
def mm_hdl : List (Nat × List (Nat × Nat × Nat × Nat)) := [(167, [(0, 8, 11, 13), (0, 8, 14, 15), (0, 8, 17, 17)]), (168, [(0, 8, 11, 17)]), (169, [(0, 9, 12, 13)])]
/-- a method's handlers: from, to, handler, class -/
def mm_hd (mi : Nat) : List (Nat × Nat × Nat × Nat) := (mm_hdl.lookup mi).getD []
def mm_et (x : ExceptionTableEntry) : Nat × Nat × Nat × Nat := (x.startPc, x.endPc, x.handlerPc, x.catchType)
def mm_nm (mi : Nat) : MethodName := (mm_mt mi).1
def mm_cd (mi : Nat) : ByteArray := (mm_mt mi).2.1
def mm_ml (mi : Nat) : Nat := (mm_mt mi).2.2.1
def mm_rt (mi : Nat) : Option FieldType := (mm_mt mi).2.2.2.1
def mm_na (mi : Nat) : Nat := (mm_mt mi).2.2.2.2
/-- words that go with the tables from frame to frame -/
def mm_gd (w : Cond) : Bool := match w with
  | .fieldLinkNest _ _ _ _ _ _ => true
  | .methodLinkNest _ _ _ _ => true
  | .castable _ _ => true
  | .declares _ => true
  | .stringRef _ _ _ => true
  | w => goodWord w
theorem mm_gd_warm {s U : State} {w : Cond} {a a' : Array Value} (hW : s.WarmedH U.vm) (hg : mm_gd w = true) (h : w.before a s = true) : w.before a' U = true := by
  unfold mm_gd at hg
  split at hg
  · exact va_Nw.use rfl (va_Nw.warmF hW (va_Nw.of rfl h))
  · exact va_Nw.use rfl (va_Nw.warmM hW (va_Nw.of rfl h))
  · exact va_Nw.use rfl (va_Nw.warmC hW (va_Nw.of rfl h))
  · exact va_Nw.use rfl (va_Nw.warmD hW (va_Nw.of rfl h))
  · rename_i own k tx
    have h1 := Cond.stringRef_warmed hW h
    first
      | exact h1
      | (simp only [Cond.before, Cond.holds, Cond.value, State.names, State.poolOf?, State.resolvedAt?] at h1 ⊢; exact h1)
  · exact word_at hW (good_of_word hg) h
theorem mm_gd_args {s : State} {w : Cond} {a a' : Array Value} (hg : mm_gd w = true) (h : w.before a s = true) : w.before a' s = true := mm_gd_warm (State.WarmedH.refl s) hg h
theorem mm_in0 : ∀ w ∈ u_ws "LispForge" mm_T0 8, w ∈ lw_tbl := by decide +kernel
theorem mm_ty0 : ∀ k, k < 8 → parseFieldDescriptor (mm_T0 k).2.2.1 = some (mm_K0.getD k .int) := by decide +kernel
theorem mm_nn0 : ∀ a, a < 8 → ∀ b, b < 8 → a ≠ b → (mm_T0 a).2.1 ≠ (mm_T0 b).2.1 := by decide +kernel
theorem mm_cc0 : ∀ k, k < 8 → (mm_T0 k).1 = "LispForge" := by decide +kernel
theorem mm_in1 : ∀ w ∈ u_ws "LispForge$Bytes" mm_T1 2, w ∈ lw_tbl := by decide +kernel
theorem mm_ty1 : ∀ k, k < 2 → parseFieldDescriptor (mm_T1 k).2.2.1 = some (mm_K1.getD k .int) := by decide +kernel
theorem mm_nn1 : ∀ a, a < 2 → ∀ b, b < 2 → a ≠ b → (mm_T1 a).2.1 ≠ (mm_T1 b).2.1 := by decide +kernel
theorem mm_cc1 : ∀ k, k < 2 → (mm_T1 k).1 = "LispForge$Bytes" := by decide +kernel
theorem mm_in2 : ∀ w ∈ u_ws "LispForge$Compiler" mm_T2 12, w ∈ lw_tbl := by decide +kernel
theorem mm_ty2 : ∀ k, k < 12 → parseFieldDescriptor (mm_T2 k).2.2.1 = some (mm_K2.getD k .int) := by decide +kernel
theorem mm_nn2 : ∀ a, a < 12 → ∀ b, b < 12 → a ≠ b → (mm_T2 a).2.1 ≠ (mm_T2 b).2.1 := by decide +kernel
theorem mm_cc2 : ∀ k, k < 12 → (mm_T2 k).1 = "LispForge$Compiler" := by decide +kernel
theorem mm_in3 : ∀ w ∈ u_ws "LispForge$Form" mm_T3 6, w ∈ lw_tbl := by decide +kernel
theorem mm_ty3 : ∀ k, k < 6 → parseFieldDescriptor (mm_T3 k).2.2.1 = some (mm_K3.getD k .int) := by decide +kernel
theorem mm_nn3 : ∀ a, a < 6 → ∀ b, b < 6 → a ≠ b → (mm_T3 a).2.1 ≠ (mm_T3 b).2.1 := by decide +kernel
theorem mm_cc3 : ∀ k, k < 6 → (mm_T3 k).1 = "LispForge$Form" := by decide +kernel
theorem mm_in4 : ∀ w ∈ u_ws "LispForge$Linker" mm_T4 5, w ∈ lw_tbl := by decide +kernel
theorem mm_ty4 : ∀ k, k < 5 → parseFieldDescriptor (mm_T4 k).2.2.1 = some (mm_K4.getD k .int) := by decide +kernel
theorem mm_nn4 : ∀ a, a < 5 → ∀ b, b < 5 → a ≠ b → (mm_T4 a).2.1 ≠ (mm_T4 b).2.1 := by decide +kernel
theorem mm_cc4 : ∀ k, k < 5 → (mm_T4 k).1 = "LispForge$Linker" := by decide +kernel
theorem mm_in5 : ∀ w ∈ u_ws "LispForge$Machine" mm_T5 10, w ∈ lw_tbl := by decide +kernel
theorem mm_ty5 : ∀ k, k < 10 → parseFieldDescriptor (mm_T5 k).2.2.1 = some (mm_K5.getD k .int) := by decide +kernel
theorem mm_nn5 : ∀ a, a < 10 → ∀ b, b < 10 → a ≠ b → (mm_T5 a).2.1 ≠ (mm_T5 b).2.1 := by decide +kernel
theorem mm_cc5 : ∀ k, k < 10 → (mm_T5 k).1 = "LispForge$Machine" := by decide +kernel
theorem mm_in6 : ∀ w ∈ u_ws "LispForge$Reader" mm_T6 7, w ∈ lw_tbl := by decide +kernel
theorem mm_ty6 : ∀ k, k < 7 → parseFieldDescriptor (mm_T6 k).2.2.1 = some (mm_K6.getD k .int) := by decide +kernel
theorem mm_nn6 : ∀ a, a < 7 → ∀ b, b < 7 → a ≠ b → (mm_T6 a).2.1 ≠ (mm_T6 b).2.1 := by decide +kernel
theorem mm_cc6 : ∀ k, k < 7 → (mm_T6 k).1 = "LispForge$Reader" := by decide +kernel
theorem mm_in7 : ∀ w ∈ u_ws "LispForge$Replacement" mm_T7 3, w ∈ lw_tbl := by decide +kernel
theorem mm_ty7 : ∀ k, k < 3 → parseFieldDescriptor (mm_T7 k).2.2.1 = some (mm_K7.getD k .int) := by decide +kernel
theorem mm_nn7 : ∀ a, a < 3 → ∀ b, b < 3 → a ≠ b → (mm_T7 a).2.1 ≠ (mm_T7 b).2.1 := by decide +kernel
theorem mm_cc7 : ∀ k, k < 3 → (mm_T7 k).1 = "LispForge$Replacement" := by decide +kernel
theorem mm_in8 : ∀ w ∈ u_ws "LispForge$Shelf" mm_T8 2, w ∈ lw_tbl := by decide +kernel
theorem mm_ty8 : ∀ k, k < 2 → parseFieldDescriptor (mm_T8 k).2.2.1 = some (mm_K8.getD k .int) := by decide +kernel
theorem mm_nn8 : ∀ a, a < 2 → ∀ b, b < 2 → a ≠ b → (mm_T8 a).2.1 ≠ (mm_T8 b).2.1 := by decide +kernel
theorem mm_cc8 : ∀ k, k < 2 → (mm_T8 k).1 = "LispForge$Shelf" := by decide +kernel
theorem mm_in9 : ∀ w ∈ u_ws "LispForge$Unit" mm_T9 8, w ∈ lw_tbl := by decide +kernel
theorem mm_ty9 : ∀ k, k < 8 → parseFieldDescriptor (mm_T9 k).2.2.1 = some (mm_K9.getD k .int) := by decide +kernel
theorem mm_nn9 : ∀ a, a < 8 → ∀ b, b < 8 → a ≠ b → (mm_T9 a).2.1 ≠ (mm_T9 b).2.1 := by decide +kernel
theorem mm_cc9 : ∀ k, k < 8 → (mm_T9 k).1 = "LispForge$Unit" := by decide +kernel
theorem mm_in10 : ∀ w ∈ u_ws "LispForgeModel" mm_T10 57, w ∈ lw_tbl := by decide +kernel
theorem mm_ty10 : ∀ k, k < 57 → parseFieldDescriptor (mm_T10 k).2.2.1 = some (mm_K10.getD k .int) := by decide +kernel
theorem mm_nn10 : ∀ a, a < 57 → ∀ b, b < 57 → a ≠ b → (mm_T10 a).2.1 ≠ (mm_T10 b).2.1 := by decide +kernel
theorem mm_cc10 : ∀ k, k < 57 → (mm_T10 k).1 = "LispForgeModel" := by decide +kernel
def mm_clsOk (ci : Nat) (q : vw_C) : Prop := (∀ w ∈ u_ws q.1 q.2.1 q.2.2, w ∈ lw_tbl) ∧ (∀ k, k < q.2.2 → parseFieldDescriptor (q.2.1 k).2.2.1 = some ((mm_K ci).getD k .int)) ∧ (∀ a, a < q.2.2 → ∀ b, b < q.2.2 → a ≠ b → (q.2.1 a).2.1 ≠ (q.2.1 b).2.1) ∧ (mm_K ci).length = q.2.2 ∧ ∀ k, k < q.2.2 → (q.2.1 k).1 = q.1
theorem mm_cls_ok {ci : Nat} {q : vw_C} (h : vwCl[ci]? = some q) : mm_clsOk ci q := by
  match ci, h with
  | 0, h => cases h; exact ⟨mm_in0, mm_ty0, mm_nn0, rfl, mm_cc0⟩
  | 1, h => cases h; exact ⟨mm_in1, mm_ty1, mm_nn1, rfl, mm_cc1⟩
  | 2, h => cases h; exact ⟨mm_in2, mm_ty2, mm_nn2, rfl, mm_cc2⟩
  | 3, h => cases h; exact ⟨mm_in3, mm_ty3, mm_nn3, rfl, mm_cc3⟩
  | 4, h => cases h; exact ⟨mm_in4, mm_ty4, mm_nn4, rfl, mm_cc4⟩
  | 5, h => cases h; exact ⟨mm_in5, mm_ty5, mm_nn5, rfl, mm_cc5⟩
  | 6, h => cases h; exact ⟨mm_in6, mm_ty6, mm_nn6, rfl, mm_cc6⟩
  | 7, h => cases h; exact ⟨mm_in7, mm_ty7, mm_nn7, rfl, mm_cc7⟩
  | 8, h => cases h; exact ⟨mm_in8, mm_ty8, mm_nn8, rfl, mm_cc8⟩
  | 9, h => cases h; exact ⟨mm_in9, mm_ty9, mm_nn9, rfl, mm_cc9⟩
  | 10, h => cases h; exact ⟨mm_in10, mm_ty10, mm_nn10, rfl, mm_cc10⟩
  | n + 11, h => simp [vwCl] at h
end
section
/-! THE SMALL MACHINE: what one side's methods (the class's, or the reference's) do, said over a row of cells that is this side's own.
A value: an int, a long, null or the place of a cell, or one of the constant arrays of the tables. A cell: an object (class number, fields), an array of ints, bytes or chars (0, 1, 2), a long array, an array of references.
A heap: the cells, and what is left of the claim's cells and slots. An answer: returned (a value or none), or thrown (the exception's number).
The steps are written with the constructors of Instr, their numbers resolved (mm_s1, mm_wp say which): jumps bear the place itself, fields (class, field), calls the method's number. -/
abbrev mm_V : Type := Int32 ⊕ (Int64 ⊕ (Option Nat ⊕ Nat))
abbrev mm_O : Type := (Nat × List mm_V) ⊕ ((Nat × List Int32) ⊕ (List Int64 ⊕ (Nat × List (Option Nat))))
abbrev mm_H : Type := List mm_O × (Nat × Nat)
abbrev mm_A : Type := Option mm_V ⊕ Nat
abbrev mm_L : Type := List (Option mm_V)
abbrev vI (x : Int32) : mm_V := .inl x
abbrev vJ (x : Int64) : mm_V := .inr (.inl x)
abbrev vQ (r : Option Nat) : mm_V := .inr (.inr (.inl r))
abbrev vN : mm_V := vQ none
abbrev vR (a : Nat) : mm_V := vQ (some a)
abbrev vZ (j : Nat) : mm_V := .inr (.inr (.inr j))
abbrev aV : mm_A := .inl none
abbrev aX (v : mm_V) : mm_A := .inl (some v)
abbrev aT (e : Nat) : mm_A := .inr e
/-- the class's constant array -/
def mm_step0 : List Int32 := [3, 2, 1, 1, 1, 1, 1, 3, 3, 1, 1, 2, 4, 2, 1]
/-- field k of the object of class ci at place a -/
def mm_fld (h : mm_H) (a ci k : Nat) : Option mm_V := match h.1[a]? with
  | some (.inl (c, fs)) => if c = ci then fs[k]? else none
  | _ => none
def mm_put (h : mm_H) (a ci k : Nat) (v : mm_V) : Option mm_H := match h.1[a]? with
  | some (.inl (c, fs)) => if c = ci ∧ k < fs.length then some (h.1.set a (.inl (c, fs.set k v)), h.2) else none
  | _ => none
def mm_int (h : mm_H) (a kd : Nat) : Option (List Int32) := match h.1[a]? with
  | some (.inr (.inl q)) => if q.1 = kd then some q.2 else none
  | _ => none
def mm_lng (h : mm_H) (a : Nat) : Option (List Int64) := match h.1[a]? with
  | some (.inr (.inr (.inl xs))) => some xs
  | _ => none
def mm_refs (h : mm_H) (a : Nat) : Option (Nat × List (Option Nat)) := match h.1[a]? with
  | some (.inr (.inr (.inr q))) => if q.1 < 2 then some q else none
  | _ => none
def mm_len (h : mm_H) (a : Nat) : Option Int32 := match h.1[a]? with
  | some (.inr (.inl q)) => if q.1 < 3 then some (Int32.ofNat q.2.length) else none
  | some (.inr (.inr (.inl xs))) => some (Int32.ofNat xs.length)
  | some (.inr (.inr (.inr q))) => if q.1 < 2 then some (Int32.ofNat q.2.length) else none
  | _ => none
/-- an index inside a row of n -/
def mm_ix (i : Int32) (n : Nat) : Option Nat := if i < 0 then none else if i.toNatClampNeg < n then some i.toNatClampNeg else none
def mm_iald (h : mm_H) (a kd : Nat) (i : Int32) : Option Int32 := (mm_int h a kd).bind fun xs => (mm_ix i xs.length).bind fun k => xs[k]?
def mm_zald (Z : Nat → List Int32) (j : Nat) (i : Int32) : Option Int32 := (mm_ix i (Z j).length).bind fun k => (Z j)[k]?
def mm_iast (h : mm_H) (a kd : Nat) (i x : Int32) : Option mm_H := (mm_int h a kd).bind fun xs => (mm_ix i xs.length).map fun k => (h.1.set a (.inr (.inl (kd, xs.set k x))), h.2)
def mm_lald (h : mm_H) (a : Nat) (i : Int32) : Option Int64 := (mm_lng h a).bind fun xs => (mm_ix i xs.length).bind fun k => xs[k]?
def mm_last (h : mm_H) (a : Nat) (i : Int32) (x : Int64) : Option mm_H := (mm_lng h a).bind fun xs => (mm_ix i xs.length).map fun k => (h.1.set a (.inr (.inr (.inl (xs.set k x)))), h.2)
def mm_aald (h : mm_H) (a : Nat) (i : Int32) : Option (Option Nat) := (mm_refs h a).bind fun q => (mm_ix i q.2.length).bind fun k => q.2[k]?
/-- what is stored is null, or an object of the row's own class -/
def mm_of (h : mm_H) (ci : Nat) (r : Option Nat) : Bool := match r with
  | none => true
  | some b => match h.1[b]? with
    | some (.inl (c, _)) => c == ci
    | _ => false
def mm_aast (h : mm_H) (a : Nat) (i : Int32) (r : Option Nat) : Option mm_H := (mm_refs h a).bind fun q => if mm_of h (mm_el q.1) r then (mm_ix i q.2.length).map fun k => (h.1.set a (.inr (.inr (.inr (q.1, q.2.set k r)))), h.2) else none
/-- a new cell of n slots -/
def mm_new (h : mm_H) (o : mm_O) (n : Nat) : Option mm_H := if 1 ≤ h.2.1 ∧ n ≤ h.2.2 then some (h.1 ++ [o], (h.2.1 - 1, h.2.2 - n)) else none
/-- the locals: a long lies in two places; nothing is laid over a long's second half -/
def mm_lj (o : Option (Option mm_V)) : Bool := match o with
  | some (some (.inr (.inl _))) => true
  | _ => false
def mm_set (L : mm_L) (k : Nat) (v : mm_V) : Option mm_L := if k < L.length then (if k ≠ 0 ∧ mm_lj L[k - 1]? = true then none else some (L.set k (some v))) else none
def mm_cmp (c : Jvm.ClassFile.Cond) (x y : Int32) : Prop := match c with
  | .eq => x = y
  | .ne => ¬ x = y
  | .lt => x < y
  | .ge => y ≤ x
  | .gt => y < x
  | .le => x ≤ y
/-- fields of a class: what they are at first, how many -/
def mm_fresh (tys : List FieldType) : List mm_V := tys.map fun t => match t with
  | .int => vI 0
  | .boolean => vI 0
  | .long => vJ 0
  | _ => vN
/-- ONE STEP that goes on with the next one -/
def mm_s1 (K : Nat → List FieldType) (Z : Nat → List Int32) (i : Instr) (L : mm_L) (st : List mm_V) (h : mm_H) : Option (mm_L × (List mm_V × mm_H)) := match i with
  | .sipush n => some (L, vI (Int32.ofInt n) :: st, h)
  | .lconst n => some (L, vJ (Int64.ofNat n.val) :: st, h)
  | .aconst_null => some (L, vN :: st, h)
  | .getstatic j => some (L, vZ j :: st, h)
  | .iload k => (match L[k]? with
    | some (some (.inl x)) => some (L, vI x :: st, h)
    | _ => none)
  | .lload k => (match L[k]? with
    | some (some (.inr (.inl x))) => some (L, vJ x :: st, h)
    | _ => none)
  | .aload k => (match L[k]? with
    | some (some (.inr (.inr (.inl r)))) => some (L, vQ r :: st, h)
    | some (some (.inr (.inr (.inr j)))) => some (L, vZ j :: st, h)
    | _ => none)
  | .istore k => (match st with
    | .inl x :: r => (mm_set L k (vI x)).map fun L' => (L', r, h)
    | _ => none)
  | .astore k => (match st with
    | .inr (.inr (.inl q)) :: r => (mm_set L k (vQ q)).map fun L' => (L', r, h)
    | _ => none)
  | .iinc k n => (match L[k]? with
    | some (some (.inl x)) => (mm_set L k (vI (x + Int32.ofInt n))).map fun L' => (L', st, h)
    | _ => none)
  | .invokeinterface ci k => (match st with
    | .inr (.inr (.inl (some a))) :: r => (mm_fld h a ci k).map fun v => (L, v :: r, h)
    | _ => none)
  | .multianewarray ci k => (match st with
    | v :: .inr (.inr (.inl (some a))) :: r => (match v, (K ci)[k]? with
      | .inl x, some .int => (mm_put h a ci k (vI x)).map fun h' => (L, r, h')
      | .inl x, some .boolean => if x = 0 ∨ x = 1 then (mm_put h a ci k (vI x)).map fun h' => (L, r, h') else none
      | .inr (.inr (.inl q)), some (.object _) => (mm_put h a ci k (vQ q)).map fun h' => (L, r, h')
      | .inr (.inr (.inl q)), some (.array _) => (mm_put h a ci k (vQ q)).map fun h' => (L, r, h')
      | _, _ => none)
    | _ => none)
  | .new ci => (mm_new h (.inl (ci, mm_fresh (K ci))) (K ci).length).map fun h' => (L, vR h.1.length :: st, h')
  | .newarray .int => (match st with
    | .inl n :: r => if n < 0 ∨ 134217728 < n.toNatClampNeg then none else (mm_new h (.inr (.inl (0, List.replicate n.toNatClampNeg 0))) n.toNatClampNeg).map fun h' => (L, vR h.1.length :: r, h')
    | _ => none)
  | .newarray .byte => (match st with
    | .inl n :: r => if n < 0 ∨ 134217728 < n.toNatClampNeg then none else (mm_new h (.inr (.inl (1, List.replicate n.toNatClampNeg 0))) n.toNatClampNeg).map fun h' => (L, vR h.1.length :: r, h')
    | _ => none)
  | .newarray .char => (match st with
    | .inl n :: r => if n < 0 ∨ 134217728 < n.toNatClampNeg then none else (mm_new h (.inr (.inl (2, List.replicate n.toNatClampNeg 0))) n.toNatClampNeg).map fun h' => (L, vR h.1.length :: r, h')
    | _ => none)
  | .newarray .long => (match st with
    | .inl n :: r => if n < 0 ∨ 67108864 < n.toNatClampNeg then none else (mm_new h (.inr (.inr (.inl (List.replicate n.toNatClampNeg 0)))) n.toNatClampNeg).map fun h' => (L, vR h.1.length :: r, h')
    | _ => none)
  | .anewarray ci => (match st with
    | .inl n :: r => if n < 0 ∨ 134217728 < n.toNatClampNeg then none else (mm_new h (.inr (.inr (.inr (ci, List.replicate n.toNatClampNeg none)))) n.toNatClampNeg).map fun h' => (L, vR h.1.length :: r, h')
    | _ => none)
  | .arraylength => (match st with
    | .inr (.inr (.inl (some a))) :: r => (mm_len h a).map fun n => (L, vI n :: r, h)
    | .inr (.inr (.inr j)) :: r => if j < 2 then some (L, vI (Int32.ofNat (Z j).length) :: r, h) else none
    | _ => none)
  | .iaload => (match st with
    | .inl i :: .inr (.inr (.inl (some a))) :: r => (mm_iald h a 0 i).map fun x => (L, vI x :: r, h)
    | .inl i :: .inr (.inr (.inr j)) :: r => if j < 2 then (mm_zald Z j i).map fun x => (L, vI x :: r, h) else none
    | _ => none)
  | .iastore => (match st with
    | .inl x :: .inl i :: .inr (.inr (.inl (some a))) :: r => (mm_iast h a 0 i x).map fun h' => (L, r, h')
    | _ => none)
  | .baload => (match st with
    | .inl i :: .inr (.inr (.inl (some a))) :: r => (mm_iald h a 1 i).map fun x => (L, vI x :: r, h)
    | _ => none)
  | .caload => (match st with
    | .inl i :: .inr (.inr (.inl (some a))) :: r => (mm_iald h a 2 i).map fun x => (L, vI x :: r, h)
    | _ => none)
  | .bastore => (match st with
    | .inl x :: .inl i :: .inr (.inr (.inl (some a))) :: r => (mm_iast h a 1 i (vp_nar .byte x)).map fun h' => (L, r, h')
    | _ => none)
  | .castore => (match st with
    | .inl x :: .inl i :: .inr (.inr (.inl (some a))) :: r => (mm_iast h a 2 i (vp_nar .char x)).map fun h' => (L, r, h')
    | _ => none)
  | .laload => (match st with
    | .inl i :: .inr (.inr (.inl (some a))) :: r => (mm_lald h a i).map fun x => (L, vJ x :: r, h)
    | _ => none)
  | .lastore => (match st with
    | .inr (.inl x) :: .inl i :: .inr (.inr (.inl (some a))) :: r => (mm_last h a i x).map fun h' => (L, r, h')
    | _ => none)
  | .aaload => (match st with
    | .inl i :: .inr (.inr (.inl (some a))) :: r => (mm_aald h a i).map fun q => (L, vQ q :: r, h)
    | _ => none)
  | .aastore => (match st with
    | .inr (.inr (.inl q)) :: .inl i :: .inr (.inr (.inl (some a))) :: r => (mm_aast h a i q).map fun h' => (L, r, h')
    | _ => none)
  | .pop => (match st with
    | .inl _ :: r => some (L, r, h)
    | .inr (.inr (.inl _)) :: r => some (L, r, h)
    | _ => none)
  | .dup => (match st with
    | .inl x :: r => some (L, vI x :: vI x :: r, h)
    | .inr (.inr (.inl q)) :: r => some (L, vQ q :: vQ q :: r, h)
    | _ => none)
  | .iadd => (match st with
    | .inl y :: .inl x :: r => some (L, vI (x + y) :: r, h)
    | _ => none)
  | .isub => (match st with
    | .inl y :: .inl x :: r => some (L, vI (x - y) :: r, h)
    | _ => none)
  | .imul => (match st with
    | .inl y :: .inl x :: r => some (L, vI (x * y) :: r, h)
    | _ => none)
  | .iand => (match st with
    | .inl y :: .inl x :: r => some (L, vI (x &&& y) :: r, h)
    | _ => none)
  | .ior => (match st with
    | .inl y :: .inl x :: r => some (L, vI (x ||| y) :: r, h)
    | _ => none)
  | .ishl => (match st with
    | .inl y :: .inl x :: r => some (L, vI (x <<< (y &&& 31)) :: r, h)
    | _ => none)
  | .ishr => (match st with
    | .inl y :: .inl x :: r => some (L, vI (x >>> (y &&& 31)) :: r, h)
    | _ => none)
  | .ineg => (match st with
    | .inl x :: r => some (L, vI (-x) :: r, h)
    | _ => none)
  | .i2s => (match st with
    | .inl x :: r => some (L, vI x.toInt16.toInt32 :: r, h)
    | _ => none)
  | .i2b => (match st with
    | .inl x :: r => some (L, vI x.toInt8.toInt32 :: r, h)
    | _ => none)
  | .i2c => (match st with
    | .inl x :: r => some (L, vI (x.toUInt32 % 65536).toInt32 :: r, h)
    | _ => none)
  | .i2l => (match st with
    | .inl x :: r => some (L, vJ x.toInt64 :: r, h)
    | _ => none)
  | .l2i => (match st with
    | .inr (.inl x) :: r => some (L, vI x.toInt32 :: r, h)
    | _ => none)
  | .lushr => (match st with
    | .inl y :: .inr (.inl x) :: r => some (L, vJ (x.toUInt64 >>> (y.toInt64.toUInt64 &&& Int64.toUInt64 63)).toInt64 :: r, h)
    | _ => none)
  | .lshl => (match st with
    | .inl y :: .inr (.inl x) :: r => some (L, vJ (x <<< (y.toInt64 &&& 63)) :: r, h)
    | _ => none)
  | .land => (match st with
    | .inr (.inl y) :: .inr (.inl x) :: r => some (L, vJ (x &&& y) :: r, h)
    | _ => none)
  | .lor => (match st with
    | .inr (.inl y) :: .inr (.inl x) :: r => some (L, vJ (x ||| y) :: r, h)
    | _ => none)
  | .lcmp => (match st with
    | .inr (.inl y) :: .inr (.inl x) :: r => some (L, vI (lg_cmp x y) :: r, h)
    | _ => none)
  | .jsr n => some (L, vJ (Int64.ofInt n) :: st, h)
  | _ => none
/-- behind a call: go on with what came back; an exception leaves this method too -/
def mm_Kt (Q : mm_A → mm_H → Prop) (F : List mm_V → mm_H → Prop) (rest : List mm_V) : mm_A → mm_H → Prop := fun r h => match r with
  | .inl none => F rest h
  | .inl (some v) => F (v :: rest) h
  | .inr e => Q (.inr e) h
def mm_sw (F : Nat → Prop) (d : Nat) (x : Int32) : List (Int × Int) → Prop
  | [] => F d
  | (k, t) :: ps => (x = Int32.ofInt k → F t.toNat) ∧ (¬ x = Int32.ofInt k → mm_sw F d x ps)
/-- the first argument is an object of the class -/
def mm_rcv (h : mm_H) (vs : List mm_V) (ci : Nat) : Prop := match vs with
  | .inr (.inr (.inl (some a))) :: _ => ∃ fs, h.1[a]? = some (.inl (ci, fs))
  | _ => False
/-- A STRETCH OF STEPS: J: what must hold at a place that is jumped to; C: what a call asks; Q: what must hold at the end.
goto_w t: no step, the place t comes next; checkcast e: the exception e is made and thrown (five steps); invokespecial 0: Object's constructor; freturn: ireturn of a boolean; fadd, fsub: Math.max, Math.min; putstatic m: a static call of a method with handlers -/
def mm_wp (K : Nat → List FieldType) (Z : Nat → List Int32) (nA : Nat → Nat) (nE : Nat) (mm_ci : Nat → Nat) (J : Nat → mm_L → List mm_V → mm_H → Prop) (C : Nat → List mm_V → mm_H → (mm_A → mm_H → Prop) → Prop) (Q : mm_A → mm_H → Prop) : List Instr → mm_L → List mm_V → mm_H → Prop
  | [], _, _, _ => False
  | i :: is, L, st, h => match i with
    | .goto t => J t.toNat L st h
    | .goto_w t => J t.toNat L st h
    | .if_icmp c t => (match st with
      | .inl y :: .inl x :: r => (mm_cmp c x y → J t.toNat L r h) ∧ (¬ mm_cmp c x y → mm_wp K Z nA nE mm_ci J C Q is L r h)
      | _ => False)
    | .ifCond c t => (match st with
      | .inl x :: r => (mm_cmp c x 0 → J t.toNat L r h) ∧ (¬ mm_cmp c x 0 → mm_wp K Z nA nE mm_ci J C Q is L r h)
      | _ => False)
    | .ifnull t => (match st with
      | .inr (.inr (.inl q)) :: r => (q = none → J t.toNat L r h) ∧ (¬ q = none → mm_wp K Z nA nE mm_ci J C Q is L r h)
      | _ => False)
    | .ifnonnull t => (match st with
      | .inr (.inr (.inl q)) :: r => (¬ q = none → J t.toNat L r h) ∧ (q = none → mm_wp K Z nA nE mm_ci J C Q is L r h)
      | _ => False)
    | .if_acmp .eq t => (match st with
      | .inr (.inr (.inl q)) :: .inr (.inr (.inl p)) :: r => (p = q → J t.toNat L r h) ∧ (¬ p = q → mm_wp K Z nA nE mm_ci J C Q is L r h)
      | _ => False)
    | .if_acmp .ne t => (match st with
      | .inr (.inr (.inl q)) :: .inr (.inr (.inl p)) :: r => (¬ p = q → J t.toNat L r h) ∧ (p = q → mm_wp K Z nA nE mm_ci J C Q is L r h)
      | _ => False)
    | .lookupswitch d ps => (match st with
      | .inl x :: r => mm_sw (fun t => J t L r h) d.toNat x ps.toList
      | _ => False)
    | .invokestatic m => nA m ≤ st.length ∧ st.length ≤ 12 ∧ C m (st.take (nA m)).reverse h (mm_Kt Q (mm_wp K Z nA nE mm_ci J C Q is L) (st.drop (nA m)))
    | .putstatic m => nA m ≤ st.length ∧ st.length ≤ 12 ∧ C m (st.take (nA m)).reverse h (mm_Kt Q (mm_wp K Z nA nE mm_ci J C Q is L) (st.drop (nA m)))
    | .invokevirtual m => nA m ≤ st.length ∧ st.length ≤ 12 ∧ mm_rcv h ((st.take (nA m)).reverse) (mm_ci m) ∧ C m (st.take (nA m)).reverse h (mm_Kt Q (mm_wp K Z nA nE mm_ci J C Q is L) (st.drop (nA m)))
    | .invokespecial _ => (match st with
      | .inr (.inr (.inl (some _))) :: r => r.length ≤ 12 ∧ mm_wp K Z nA nE mm_ci J C Q is L r h
      | _ => False)
    | .checkcast e => st.length ≤ 12 ∧ 1 ≤ h.2.1 ∧ nE ≤ h.2.2 ∧ Q (aT e) (h.1, (h.2.1 - 1, h.2.2 - nE))
    | .return_ => st = [] ∧ Q aV h
    | .ireturn => (match st with
      | [.inl x] => Q (aX (vI x)) h
      | _ => False)
    | .freturn => (match st with
      | [.inl x] => (x = 0 ∨ x = 1) ∧ Q (aX (vI x)) h
      | _ => False)
    | .lreturn => False
    | .areturn => (match st with
      | [.inr (.inr (.inl q))] => Q (aX (vQ q)) h
      | _ => False)
    | .fadd => (match st with
      | .inl y :: .inl x :: r => r.length ≤ 12 ∧ mm_wp K Z nA nE mm_ci J C Q is L (vI (if x < y then y else x) :: r) h
      | _ => False)
    | .fsub => (match st with
      | .inl y :: .inl x :: r => r.length ≤ 12 ∧ mm_wp K Z nA nE mm_ci J C Q is L (vI (if y < x then y else x) :: r) h
      | _ => False)
    | _ => (match mm_s1 K Z i L st h with
      | some o => mm_wp K Z nA nE mm_ci J C Q is o.1 o.2.1 o.2.2
      | none => False)
end
section
/-! THE SMALL MACHINE OVER THE REAL ONE: rho: the places' addresses; zt: the constant arrays' addresses; cT: the array classes -/
def mm_v (rho : List Nat) (zt : Nat → Nat) (v : mm_V) : Value := match v with
  | .inl x => .int x
  | .inr (.inl x) => .long x
  | .inr (.inr (.inl none)) => .null
  | .inr (.inr (.inl (some a))) => .ref (rho.getD a 0)
  | .inr (.inr (.inr j)) => .ref (zt j)
def mm_q (rho : List Nat) (r : Option Nat) : Option Nat := r.map fun a => rho.getD a 0
def mm_e (rho : List Nat) (zt : Nat → Nat) (cT : Nat → ClassId) (o : mm_O) : va_E := match o with
  | .inl q => .inr (q.1, q.2.map (mm_v rho zt))
  | .inr (.inl q) => .inl (cT q.1, q.2.length, .inl fun j => q.2.getD j 0)
  | .inr (.inr (.inl xs)) => .inl (cT 3, xs.length, .inr (.inl fun j => xs.getD j 0))
  | .inr (.inr (.inr q)) => .inl (cT (q.1 + 4), q.2.length, .inr (.inr (.inr (.inr fun j => mm_q rho (q.2.getD j none)))))
def mm_w (rho : List Nat) (zt : Nat → Nat) (cT : Nat → ClassId) (cs : List mm_O) : va_W := List.zipWith (fun a o => (a, mm_e rho zt cT o)) rho cs
/-- no place beyond the row -/
def mm_ok (n : Nat) (v : mm_V) : Prop := match v with
  | .inr (.inr (.inl (some a))) => a < n
  | _ => True
def mm_okO (n : Nat) (o : mm_O) : Prop := match o with
  | .inl q => ∀ v ∈ q.2, mm_ok n v
  | .inr (.inr (.inr q)) => ∀ a, some a ∈ q.2 → a < n
  | _ => True
theorem mm_ok_mono {n n' : Nat} (h : n ≤ n') {v : mm_V} (hv : mm_ok n v) : mm_ok n' v := by
  obtain x | x | (_ | a) | j := v <;> simp only [mm_ok] at hv ⊢
  omega
theorem mm_okO_mono {n n' : Nat} (h : n ≤ n') {o : mm_O} (ho : mm_okO n o) : mm_okO n' o := by
  obtain q | xs | xs | q := o <;> simp only [mm_okO] at ho ⊢
  · exact fun v hv => mm_ok_mono h (ho v hv)
  · exact fun a ha => Nat.lt_of_lt_of_le (ho a ha) h
theorem mm_getD_app {rho t : List Nat} {a : Nat} (h : a < rho.length) : (rho ++ t).getD a 0 = rho.getD a 0 := by
  simp [List.getD_eq_getElem?_getD, List.getElem?_append_left h]
theorem mm_v_app {rho t : List Nat} {zt : Nat → Nat} {v : mm_V} (h : mm_ok rho.length v) : mm_v (rho ++ t) zt v = mm_v rho zt v := by
  obtain x | x | (_ | a) | j := v <;> simp only [mm_v]
  simp only [mm_ok] at h
  rw [mm_getD_app h]
theorem mm_q_app {rho t : List Nat} {r : Option Nat} (h : ∀ a, r = some a → a < rho.length) : mm_q (rho ++ t) r = mm_q rho r := by
  cases r with
  | none => rfl
  | some a => simp only [mm_q, Option.map_some, mm_getD_app (h a rfl)]
theorem mm_e_app {rho t : List Nat} {zt : Nat → Nat} {cT : Nat → ClassId} {o : mm_O} (h : mm_okO rho.length o) : mm_e (rho ++ t) zt cT o = mm_e rho zt cT o := by
  obtain q | xs | xs | q := o
  · simp only [mm_e, mm_okO] at h ⊢
    congr 2
    exact List.map_congr_left fun v hv => mm_v_app (h v hv)
  · rfl
  · rfl
  · simp only [mm_e, mm_okO] at h ⊢
    have : (fun j => mm_q (rho ++ t) (q.2.getD j none)) = fun j => mm_q rho (q.2.getD j none) := by
      funext j
      refine mm_q_app fun a ha => h a ?_
      rw [List.getD_eq_getElem?_getD] at ha
      cases hj : q.2[j]? with
      | none => rw [hj] at ha; simp at ha
      | some y => rw [hj] at ha; simp at ha; rw [← ha]; exact List.mem_of_getElem? hj
    rw [this]
theorem mm_w_at {rho : List Nat} {zt : Nat → Nat} {cT : Nat → ClassId} {cs : List mm_O} (hl : rho.length = cs.length) {a : Nat} {o : mm_O} (h : cs[a]? = some o) : (mm_w rho zt cT cs)[a]? = some (rho.getD a 0, mm_e rho zt cT o) := by
  have ha : a < cs.length := (List.getElem?_eq_some_iff.mp h).1
  have hr : rho[a]? = some (rho.getD a 0) := by
    rw [List.getD_eq_getElem?_getD, List.getElem?_eq_getElem (by omega)]; rfl
  simp only [mm_w, List.getElem?_zipWith, hr, h]
theorem mm_w_set {rho : List Nat} {zt : Nat → Nat} {cT : Nat → ClassId} {cs : List mm_O} (hl : rho.length = cs.length) {a : Nat} (ha : a < cs.length) (o : mm_O) : mm_w rho zt cT (cs.set a o) = (mm_w rho zt cT cs).set a (rho.getD a 0, mm_e rho zt cT o) := by
  have hr : rho[a]? = some (rho.getD a 0) := by
    rw [List.getD_eq_getElem?_getD, List.getElem?_eq_getElem (by omega)]; rfl
  have hw : (mm_w rho zt cT cs).length = cs.length := by simp [mm_w, hl]
  refine List.ext_getElem? fun k => ?_
  by_cases hk : k = a
  · subst hk
    rw [mm_w_at (by rw [List.length_set]; exact hl) (List.getElem?_set_self ha), List.getElem?_set_self (by omega)]
  · simp only [mm_w, List.getElem?_zipWith, List.getElem?_set_ne (Ne.symm hk)]
theorem mm_w_app {rho : List Nat} {zt : Nat → Nat} {cT : Nat → ClassId} {cs : List mm_O} (hl : rho.length = cs.length) (hok : ∀ o ∈ cs, mm_okO cs.length o) (q : Nat) (o : mm_O) : mm_w (rho ++ [q]) zt cT (cs ++ [o]) = mm_w rho zt cT cs ++ [(q, mm_e (rho ++ [q]) zt cT o)] := by
  unfold mm_w
  rw [List.zipWith_append hl]
  congr 1
  refine List.ext_getElem? fun k => ?_
  simp only [List.getElem?_zipWith]
  cases h1 : rho[k]? with
  | none => rfl
  | some a =>
    cases h2 : cs[k]? with
    | none => rfl
    | some o2 =>
      simp only []
      rw [mm_e_app (by rw [hl]; exact hok o2 (List.mem_of_getElem? h2))]
/-- the locals -/
def mm_ls (ls : Array Slot) (nL : Nat) (rho : List Nat) (zt : Nat → Nat) (L : mm_L) : Prop := L.length = nL ∧ ls.size = nL ∧ lv_wf ls ∧ ∀ (i : Nat) (v : mm_V), L[i]? = some (some v) → ls[i]? = some (.val (mm_v rho zt v))
def mm_as (rho : List Nat) (zt : Nat → Nat) (L : mm_L) : List (Nat × Value) := (List.range L.length).filterMap fun i => match L[i]? with
  | some (some v) => some (i, mm_v rho zt v)
  | _ => none
theorem mm_as_mem {rho : List Nat} {zt : Nat → Nat} {L : mm_L} {i : Nat} {v : mm_V} (h : L[i]? = some (some v)) : (i, mm_v rho zt v) ∈ mm_as rho zt L := by
  have hi : i < L.length := (List.getElem?_eq_some_iff.mp h).1
  exact List.mem_filterMap.mpr ⟨i, List.mem_range.mpr hi, by rw [h]⟩
theorem mm_as_of {rho : List Nat} {zt : Nat → Nat} {L : mm_L} {q : Nat × Value} (h : q ∈ mm_as rho zt L) : ∃ v, L[q.1]? = some (some v) ∧ q.2 = mm_v rho zt v := by
  obtain ⟨i, -, hi⟩ := List.mem_filterMap.mp h
  cases hL : L[i]? with
  | none => rw [hL] at hi; cases hi
  | some o =>
    cases o with
    | none => rw [hL] at hi; cases hi
    | some v => rw [hL] at hi; cases hi; exact ⟨v, hL, rfl⟩
theorem mm_ls.has {ls : Array Slot} {nL : Nat} {rho : List Nat} {zt : Nat → Nat} {L : mm_L} (h : mm_ls ls nL rho zt L) : lv_has ls nL (mm_as rho zt L) := by
  refine ⟨h.2.1, h.2.2.1, fun q hq => ?_⟩
  obtain ⟨v, h1, h2⟩ := mm_as_of hq
  rw [h2]
  exact h.2.2.2 _ _ h1
theorem mm_cat2 {rho : List Nat} {zt : Nat → Nat} {v : mm_V} (h : (mm_v rho zt v).category = 2) : ∃ x, v = vJ x := by
  obtain x | x | (_ | a) | j := v <;> simp [mm_v, Value.category] at h
  exact ⟨x, rfl⟩
theorem mm_ls.store {ls ls' : Array Slot} {nL : Nat} {rho : List Nat} {zt : Nat → Nat} {L L' : mm_L} {k : Nat} {v : mm_V} (h : mm_ls ls nL rho zt L) (hs : mm_set L k v = some L') (h' : lv_has ls' nL ((k, mm_v rho zt v) :: (mm_as rho zt L).filter (fun q => !(q.1 == k) && !(q.1 + 1 == k && q.2.category == 2)))) : mm_ls ls' nL rho zt L' ∧ k < nL := by
  unfold mm_set at hs
  split at hs
  · rename_i hk
    split at hs
    · cases hs
    · rename_i hj
      cases hs
      refine ⟨⟨by rw [List.length_set]; exact h.1, h'.1, h'.2.1, fun i w hi => ?_⟩, by rw [← h.1]; exact hk⟩
      by_cases hik : i = k
      · subst hik
        rw [List.getElem?_set_self hk] at hi
        cases hi
        exact h'.2.2 (i, _) List.mem_cons_self
      · rw [List.getElem?_set_ne (Ne.symm hik)] at hi
        refine h'.2.2 (i, _) (List.mem_cons_of_mem _ (List.mem_filter.mpr ⟨mm_as_mem hi, ?_⟩))
        simp only [Bool.and_eq_true, Bool.not_eq_true', beq_eq_false_iff_ne, ne_eq, Bool.and_eq_false_iff]
        refine ⟨hik, ?_⟩
        by_cases h1 : i + 1 = k
        · right
          intro h2
          obtain ⟨x, rfl⟩ := mm_cat2 h2
          apply hj
          have : k - 1 = i := by omega
          exact ⟨by omega, by rw [this, hi]; rfl⟩
        · exact Or.inl h1
  · cases hs
theorem mm_ls.grow {ls : Array Slot} {nL : Nat} {rho t : List Nat} {zt : Nat → Nat} {L : mm_L} (h : mm_ls ls nL rho zt L) (hok : ∀ v, some v ∈ L → mm_ok rho.length v) : mm_ls ls nL (rho ++ t) zt L :=
  ⟨h.1, h.2.1, h.2.2.1, fun i v hi => by rw [mm_v_app (hok v (List.mem_of_getElem? hi))]; exact h.2.2.2 i v hi⟩
theorem mm_map_app {rho t : List Nat} {zt : Nat → Nat} {st : List mm_V} (h : ∀ v ∈ st, mm_ok rho.length v) : st.map (mm_v (rho ++ t) zt) = st.map (mm_v rho zt) := List.map_congr_left fun v hv => mm_v_app (h v hv)
end
section
theorem mm_okc {n : Nat} {v : mm_V} {r : List mm_V} (h : mm_ok n v) (hr : ∀ w ∈ r, mm_ok n w) : ∀ w ∈ v :: r, mm_ok n w := fun w hw => by
  rcases List.mem_cons.mp hw with rfl | hw
  · exact h
  · exact hr w hw
theorem mm_okt {n : Nat} {v : mm_V} {r : List mm_V} (h : ∀ w ∈ v :: r, mm_ok n w) : ∀ w ∈ r, mm_ok n w := fun w hw => h w (List.mem_cons_of_mem _ hw)
theorem mm_okh {n : Nat} {v : mm_V} {r : List mm_V} (h : ∀ w ∈ v :: r, mm_ok n w) : mm_ok n v := h v List.mem_cons_self
/-- what holds between the small machine and the real one, the operand stack left out -/
def mm_I (R : Room) (s : State) (D : va_G) (cT : Nat → ClassId) (zt : Nat → Nat) (A : Nat → Prop) (nL : Nat) (rho : List Nat) (L : mm_L) (h : mm_H) (H : Heap) (locs : List Loc) (cells slots : Nat) (ls : Array Slot) : Prop :=
  rho.length = h.1.length ∧ (∀ o ∈ h.1, mm_okO h.1.length o) ∧ (∀ v, some v ∈ L → mm_ok h.1.length v) ∧ va_P D vwCl (mm_w rho zt cT h.1) H ∧ va_D A (mm_w rho zt cT h.1) ∧ va_S A s.heap H locs ∧ mm_ls ls nL rho zt L ∧ cells + h.2.1 ≤ R.cells ∧ slots + h.2.2 ≤ R.slots
/-- from the place pc, with these locals, this stack, this heap, the machine comes to Q -/
def mm_W (p : Program) (l : Launch) (e : Env) (R : Room) (s : State) (m : MethodId) (args : Array Value) (below : List Frame) (meth : Method) (c : Code) (Q : State → Prop) (D : va_G) (cT : Nat → ClassId) (zt : Nat → Nat) (A : Nat → Prop) (nL : Nat) (rho0 : List Nat) (pc : Nat) (L : mm_L) (st : List mm_V) (h : mm_H) : Prop :=
  ∀ (rho : List Nat) (H : Heap) (locs : List Loc) (cells slots : Nat) (ls : Array Slot), rho0 <+: rho → (∀ v ∈ st, mm_ok h.1.length v) → mm_I R s D cT zt A nL rho L h H locs cells slots ls → W p l e R s m args below meth c H locs cells slots Q (F0 m pc ls (st.map (mm_v rho zt)))
section MR
variable {p : Program} {l : Launch} {e : Env} {R : Room} {s : State} {m : MethodId} {args : Array Value} {below : List Frame} {meth : Method} {c : Code} {Q : State → Prop} {D : va_G} {cT : Nat → ClassId} {zt : Nat → Nat} {A : Nat → Prop} {nL : Nat} {rho0 : List Nat} {cc : ByteArray} {pc : Nat} {L : mm_L} {r : List mm_V} {h : mm_H}
theorem mr_iadd (hx : p.tables.exec = Jvm.exec) (hb : c.code = cc) {x y : Int32} (hd : decode cc pc = .ok (.iadd, 1)) (k : mm_W p l e R s m args below meth c Q D cT zt A nL rho0 (pc + 1) L (vI (x + y) :: r) h) : mm_W p l e R s m args below meth c Q D cT zt A nL rho0 (pc) L (vI y :: vI x :: r) h :=
  fun rho H locs cells slots ls hp hst hI => lv_iadd hx hb hd (k rho H locs cells slots ls hp (mm_okc trivial (mm_okt (mm_okt hst))) hI)
theorem mr_isub (hx : p.tables.exec = Jvm.exec) (hb : c.code = cc) {x y : Int32} (hd : decode cc pc = .ok (.isub, 1)) (k : mm_W p l e R s m args below meth c Q D cT zt A nL rho0 (pc + 1) L (vI (x - y) :: r) h) : mm_W p l e R s m args below meth c Q D cT zt A nL rho0 (pc) L (vI y :: vI x :: r) h :=
  fun rho H locs cells slots ls hp hst hI => lv_isub hx hb hd (k rho H locs cells slots ls hp (mm_okc trivial (mm_okt (mm_okt hst))) hI)
theorem mr_imul (hx : p.tables.exec = Jvm.exec) (hb : c.code = cc) {x y : Int32} (hd : decode cc pc = .ok (.imul, 1)) (k : mm_W p l e R s m args below meth c Q D cT zt A nL rho0 (pc + 1) L (vI (x * y) :: r) h) : mm_W p l e R s m args below meth c Q D cT zt A nL rho0 (pc) L (vI y :: vI x :: r) h :=
  fun rho H locs cells slots ls hp hst hI => lv_imul hx hb hd (k rho H locs cells slots ls hp (mm_okc trivial (mm_okt (mm_okt hst))) hI)
theorem mr_iand (hx : p.tables.exec = Jvm.exec) (hb : c.code = cc) {x y : Int32} (hd : decode cc pc = .ok (.iand, 1)) (k : mm_W p l e R s m args below meth c Q D cT zt A nL rho0 (pc + 1) L (vI (x &&& y) :: r) h) : mm_W p l e R s m args below meth c Q D cT zt A nL rho0 (pc) L (vI y :: vI x :: r) h :=
  fun rho H locs cells slots ls hp hst hI => lv_iand hx hb hd (k rho H locs cells slots ls hp (mm_okc trivial (mm_okt (mm_okt hst))) hI)
theorem mr_ior (hx : p.tables.exec = Jvm.exec) (hb : c.code = cc) {x y : Int32} (hd : decode cc pc = .ok (.ior, 1)) (k : mm_W p l e R s m args below meth c Q D cT zt A nL rho0 (pc + 1) L (vI (x ||| y) :: r) h) : mm_W p l e R s m args below meth c Q D cT zt A nL rho0 (pc) L (vI y :: vI x :: r) h :=
  fun rho H locs cells slots ls hp hst hI => lv_ior hx hb hd (k rho H locs cells slots ls hp (mm_okc trivial (mm_okt (mm_okt hst))) hI)
theorem mr_ixor (hx : p.tables.exec = Jvm.exec) (hb : c.code = cc) {x y : Int32} (hd : decode cc pc = .ok (.ixor, 1)) (k : mm_W p l e R s m args below meth c Q D cT zt A nL rho0 (pc + 1) L (vI (x ^^^ y) :: r) h) : mm_W p l e R s m args below meth c Q D cT zt A nL rho0 (pc) L (vI y :: vI x :: r) h :=
  fun rho H locs cells slots ls hp hst hI => lv_ixor hx hb hd (k rho H locs cells slots ls hp (mm_okc trivial (mm_okt (mm_okt hst))) hI)
theorem mr_ishl (hx : p.tables.exec = Jvm.exec) (hb : c.code = cc) {x y : Int32} (hd : decode cc pc = .ok (.ishl, 1)) (k : mm_W p l e R s m args below meth c Q D cT zt A nL rho0 (pc + 1) L (vI (x <<< (y &&& 31)) :: r) h) : mm_W p l e R s m args below meth c Q D cT zt A nL rho0 (pc) L (vI y :: vI x :: r) h :=
  fun rho H locs cells slots ls hp hst hI => lv_ishl hx hb hd (k rho H locs cells slots ls hp (mm_okc trivial (mm_okt (mm_okt hst))) hI)
theorem mr_ishr (hx : p.tables.exec = Jvm.exec) (hb : c.code = cc) {x y : Int32} (hd : decode cc pc = .ok (.ishr, 1)) (k : mm_W p l e R s m args below meth c Q D cT zt A nL rho0 (pc + 1) L (vI (x >>> (y &&& 31)) :: r) h) : mm_W p l e R s m args below meth c Q D cT zt A nL rho0 (pc) L (vI y :: vI x :: r) h :=
  fun rho H locs cells slots ls hp hst hI => lv_ishr hx hb hd (k rho H locs cells slots ls hp (mm_okc trivial (mm_okt (mm_okt hst))) hI)
theorem mr_iushr (hx : p.tables.exec = Jvm.exec) (hb : c.code = cc) {x y : Int32} (hd : decode cc pc = .ok (.iushr, 1)) (k : mm_W p l e R s m args below meth c Q D cT zt A nL rho0 (pc + 1) L (vI ((x.toUInt32 >>> (y.toUInt32 &&& Int32.toUInt32 31)).toInt32) :: r) h) : mm_W p l e R s m args below meth c Q D cT zt A nL rho0 (pc) L (vI y :: vI x :: r) h :=
  fun rho H locs cells slots ls hp hst hI => lv_iushr hx hb hd rfl (k rho H locs cells slots ls hp (mm_okc trivial (mm_okt (mm_okt hst))) hI)
theorem mr_ineg (hx : p.tables.exec = Jvm.exec) (hb : c.code = cc) {x : Int32} (hd : decode cc pc = .ok (.ineg, 1)) (k : mm_W p l e R s m args below meth c Q D cT zt A nL rho0 (pc + 1) L (vI (-x) :: r) h) : mm_W p l e R s m args below meth c Q D cT zt A nL rho0 (pc) L (vI x :: r) h :=
  fun rho H locs cells slots ls hp hst hI => lv_ineg hx hb hd (k rho H locs cells slots ls hp (mm_okc trivial (mm_okt hst)) hI)
theorem mr_i2s (hx : p.tables.exec = Jvm.exec) (hb : c.code = cc) {x : Int32} (hd : decode cc pc = .ok (.i2s, 1)) (k : mm_W p l e R s m args below meth c Q D cT zt A nL rho0 (pc + 1) L (vI (x.toInt16.toInt32) :: r) h) : mm_W p l e R s m args below meth c Q D cT zt A nL rho0 (pc) L (vI x :: r) h :=
  fun rho H locs cells slots ls hp hst hI => lv_i2s hx hb hd rfl (k rho H locs cells slots ls hp (mm_okc trivial (mm_okt hst)) hI)
theorem mr_i2b (hx : p.tables.exec = Jvm.exec) (hb : c.code = cc) {x : Int32} (hd : decode cc pc = .ok (.i2b, 1)) (k : mm_W p l e R s m args below meth c Q D cT zt A nL rho0 (pc + 1) L (vI (x.toInt8.toInt32) :: r) h) : mm_W p l e R s m args below meth c Q D cT zt A nL rho0 (pc) L (vI x :: r) h :=
  fun rho H locs cells slots ls hp hst hI => lv_i2b hx hb hd rfl (k rho H locs cells slots ls hp (mm_okc trivial (mm_okt hst)) hI)
theorem mr_i2c (hx : p.tables.exec = Jvm.exec) (hb : c.code = cc) {x : Int32} (hd : decode cc pc = .ok (.i2c, 1)) (k : mm_W p l e R s m args below meth c Q D cT zt A nL rho0 (pc + 1) L (vI ((x.toUInt32 % 65536).toInt32) :: r) h) : mm_W p l e R s m args below meth c Q D cT zt A nL rho0 (pc) L (vI x :: r) h :=
  fun rho H locs cells slots ls hp hst hI => lv_i2c hx hb hd rfl (k rho H locs cells slots ls hp (mm_okc trivial (mm_okt hst)) hI)
theorem mr_i2l (hx : p.tables.exec = Jvm.exec) (hb : c.code = cc) {x : Int32} (hd : decode cc pc = .ok (.i2l, 1)) (k : mm_W p l e R s m args below meth c Q D cT zt A nL rho0 (pc + 1) L (vJ (x.toInt64) :: r) h) : mm_W p l e R s m args below meth c Q D cT zt A nL rho0 (pc) L (vI x :: r) h :=
  fun rho H locs cells slots ls hp hst hI => lv_i2l hx hb hd rfl (k rho H locs cells slots ls hp (mm_okc trivial (mm_okt hst)) hI)
theorem mr_l2i (hx : p.tables.exec = Jvm.exec) (hb : c.code = cc) {x : Int64} (hd : decode cc pc = .ok (.l2i, 1)) (k : mm_W p l e R s m args below meth c Q D cT zt A nL rho0 (pc + 1) L (vI (x.toInt32) :: r) h) : mm_W p l e R s m args below meth c Q D cT zt A nL rho0 (pc) L (vJ x :: r) h :=
  fun rho H locs cells slots ls hp hst hI => lv_l2i hx hb hd rfl (k rho H locs cells slots ls hp (mm_okc trivial (mm_okt hst)) hI)
theorem mr_lushr (hx : p.tables.exec = Jvm.exec) (hb : c.code = cc) {x : Int64} {y : Int32} (hd : decode cc pc = .ok (.lushr, 1)) (k : mm_W p l e R s m args below meth c Q D cT zt A nL rho0 (pc + 1) L (vJ ((x.toUInt64 >>> (y.toInt64.toUInt64 &&& Int64.toUInt64 63)).toInt64) :: r) h) : mm_W p l e R s m args below meth c Q D cT zt A nL rho0 (pc) L (vI y :: vJ x :: r) h :=
  fun rho H locs cells slots ls hp hst hI => lv_lushr hx hb hd rfl (k rho H locs cells slots ls hp (mm_okc trivial (mm_okt (mm_okt hst))) hI)
theorem mr_iconst (hx : p.tables.exec = Jvm.exec) (hb : c.code = cc) {n : Int} {v : Int32} (hd : decode cc pc = .ok (.iconst n, 1)) (hv : Int32.ofInt n = v) (k : mm_W p l e R s m args below meth c Q D cT zt A nL rho0 (pc + 1) L (vI v :: r) h) : mm_W p l e R s m args below meth c Q D cT zt A nL rho0 (pc) L (r) h :=
  fun rho H locs cells slots ls hp hst hI => lv_iconst hx hb hd hv (k rho H locs cells slots ls hp (mm_okc trivial hst) hI)
theorem mr_bipush (hx : p.tables.exec = Jvm.exec) (hb : c.code = cc) {n : Int} {v : Int32} (hd : decode cc pc = .ok (.bipush n, 2)) (hv : (Int8.ofInt n).toInt32 = v) (k : mm_W p l e R s m args below meth c Q D cT zt A nL rho0 (pc + 2) L (vI v :: r) h) : mm_W p l e R s m args below meth c Q D cT zt A nL rho0 (pc) L (r) h :=
  fun rho H locs cells slots ls hp hst hI => lv_bipush hx hb hd hv (k rho H locs cells slots ls hp (mm_okc trivial hst) hI)
theorem mr_sipush (hx : p.tables.exec = Jvm.exec) (hb : c.code = cc) {n : Int} {v : Int32} (hd : decode cc pc = .ok (.sipush n, 3)) (hv : (Int16.ofInt n).toInt32 = v) (k : mm_W p l e R s m args below meth c Q D cT zt A nL rho0 (pc + 3) L (vI v :: r) h) : mm_W p l e R s m args below meth c Q D cT zt A nL rho0 (pc) L (r) h :=
  fun rho H locs cells slots ls hp hst hI => lv_sipush hx hb hd hv (k rho H locs cells slots ls hp (mm_okc trivial hst) hI)
theorem mr_ldc (hx : p.tables.exec = Jvm.exec) (hb : c.code = cc) {own : String} {index : Nat} {v : Int32} (hown : s.vm.findClass own = some m.cls) (hc : (Jvm.Cond.constant own index v).before args s = true) (hd : decode cc pc = .ok (.ldc index, 2)) (k : mm_W p l e R s m args below meth c Q D cT zt A nL rho0 (pc + 2) L (vI v :: r) h) : mm_W p l e R s m args below meth c Q D cT zt A nL rho0 (pc) L (r) h :=
  fun rho H locs cells slots ls hp hst hI => lv_ldc hx hb hown hc hd (k rho H locs cells slots ls hp (mm_okc trivial hst) hI)
theorem mr_ldcw (hx : p.tables.exec = Jvm.exec) (hb : c.code = cc) {own : String} {index : Nat} {v : Int32} (hown : s.vm.findClass own = some m.cls) (hc : (Jvm.Cond.constant own index v).before args s = true) (hd : decode cc pc = .ok (.ldc_w index, 3)) (k : mm_W p l e R s m args below meth c Q D cT zt A nL rho0 (pc + 3) L (vI v :: r) h) : mm_W p l e R s m args below meth c Q D cT zt A nL rho0 (pc) L (r) h :=
  fun rho H locs cells slots ls hp hst hI => lv_ldcw hx hb hown hc hd (k rho H locs cells slots ls hp (mm_okc trivial hst) hI)
theorem mr_lconst (hx : p.tables.exec = Jvm.exec) (hb : c.code = cc) {n : Fin 2} (hd : decode cc pc = .ok (.lconst n, 1)) (k : mm_W p l e R s m args below meth c Q D cT zt A nL rho0 (pc + 1) L (vJ (Int64.ofNat n.val) :: r) h) : mm_W p l e R s m args below meth c Q D cT zt A nL rho0 (pc) L (r) h :=
  fun rho H locs cells slots ls hp hst hI => lv_lconst hx hb hd rfl (k rho H locs cells slots ls hp (mm_okc trivial hst) hI)
theorem mr_null (hx : p.tables.exec = Jvm.exec) (hb : c.code = cc) (hd : decode cc pc = .ok (.aconst_null, 1)) (k : mm_W p l e R s m args below meth c Q D cT zt A nL rho0 (pc + 1) L (vN :: r) h) : mm_W p l e R s m args below meth c Q D cT zt A nL rho0 (pc) L (r) h :=
  fun rho H locs cells slots ls hp hst hI => lv_null hx hb hd (k rho H locs cells slots ls hp (mm_okc trivial hst) hI)
theorem mr_iload (hx : p.tables.exec = Jvm.exec) (hb : c.code = cc) {i : Nat} {x : Int32} (hL : L[i]? = some (some (vI x))) (hd : decode cc pc = .ok (.iload i, 2)) (k : mm_W p l e R s m args below meth c Q D cT zt A nL rho0 (pc + 2) L (vI x :: r) h) : mm_W p l e R s m args below meth c Q D cT zt A nL rho0 (pc) L (r) h :=
  fun rho H locs cells slots ls hp hst hI => lv_iload hx hb hd (hI.2.2.2.2.2.2.1.2.2.2 _ _ hL) (k rho H locs cells slots ls hp (mm_okc trivial hst) hI)
theorem mr_iload_n (hx : p.tables.exec = Jvm.exec) (hb : c.code = cc) {n : Fin 4} {x : Int32} (hL : L[n.val]? = some (some (vI x))) (hd : decode cc pc = .ok (.iload_n n, 1)) (k : mm_W p l e R s m args below meth c Q D cT zt A nL rho0 (pc + 1) L (vI x :: r) h) : mm_W p l e R s m args below meth c Q D cT zt A nL rho0 (pc) L (r) h :=
  fun rho H locs cells slots ls hp hst hI => lv_iload_n hx hb hd rfl (hI.2.2.2.2.2.2.1.2.2.2 _ _ hL) (k rho H locs cells slots ls hp (mm_okc trivial hst) hI)
theorem mr_lload (hx : p.tables.exec = Jvm.exec) (hb : c.code = cc) {i : Nat} {x : Int64} (hL : L[i]? = some (some (vJ x))) (hd : decode cc pc = .ok (.lload i, 2)) (k : mm_W p l e R s m args below meth c Q D cT zt A nL rho0 (pc + 2) L (vJ x :: r) h) : mm_W p l e R s m args below meth c Q D cT zt A nL rho0 (pc) L (r) h :=
  fun rho H locs cells slots ls hp hst hI => lv_lload hx hb hd (hI.2.2.2.2.2.2.1.2.2.2 _ _ hL) (k rho H locs cells slots ls hp (mm_okc trivial hst) hI)
theorem mr_lload_n (hx : p.tables.exec = Jvm.exec) (hb : c.code = cc) {n : Fin 4} {x : Int64} (hL : L[n.val]? = some (some (vJ x))) (hd : decode cc pc = .ok (.lload_n n, 1)) (k : mm_W p l e R s m args below meth c Q D cT zt A nL rho0 (pc + 1) L (vJ x :: r) h) : mm_W p l e R s m args below meth c Q D cT zt A nL rho0 (pc) L (r) h :=
  fun rho H locs cells slots ls hp hst hI => lv_lload_n hx hb hd rfl (hI.2.2.2.2.2.2.1.2.2.2 _ _ hL) (k rho H locs cells slots ls hp (mm_okc trivial hst) hI)
theorem mr_aload (hx : p.tables.exec = Jvm.exec) (hb : c.code = cc) {i : Nat} {q : Option Nat} (hL : L[i]? = some (some (vQ q))) (hd : decode cc pc = .ok (.aload i, 2)) (k : mm_W p l e R s m args below meth c Q D cT zt A nL rho0 (pc + 2) L (vQ q :: r) h) : mm_W p l e R s m args below meth c Q D cT zt A nL rho0 (pc) L (r) h := by
  intro rho H locs cells slots ls hp hst hI
  have h1 := hI.2.2.2.2.2.2.1.2.2.2 _ _ hL
  have h2 := k rho H locs cells slots ls hp (mm_okc (hI.2.2.1 _ (List.mem_of_getElem? hL)) hst) hI
  cases q with
  | none => exact lv_aloadN hx hb hd h1 h2
  | some a => exact lv_aload hx hb hd h1 h2
theorem mr_aload_n (hx : p.tables.exec = Jvm.exec) (hb : c.code = cc) {n : Fin 4} {q : Option Nat} (hL : L[n.val]? = some (some (vQ q))) (hd : decode cc pc = .ok (.aload_n n, 1)) (k : mm_W p l e R s m args below meth c Q D cT zt A nL rho0 (pc + 1) L (vQ q :: r) h) : mm_W p l e R s m args below meth c Q D cT zt A nL rho0 (pc) L (r) h := by
  intro rho H locs cells slots ls hp hst hI
  have h1 := hI.2.2.2.2.2.2.1.2.2.2 _ _ hL
  have h2 := k rho H locs cells slots ls hp (mm_okc (hI.2.2.1 _ (List.mem_of_getElem? hL)) hst) hI
  cases q with
  | none => exact lv_aload_nN hx hb hd rfl h1 h2
  | some a => exact lv_aload_n hx hb hd rfl h1 h2
theorem mr_aloadZ (hx : p.tables.exec = Jvm.exec) (hb : c.code = cc) {i j : Nat} (hL : L[i]? = some (some (vZ j))) (hd : decode cc pc = .ok (.aload i, 2)) (k : mm_W p l e R s m args below meth c Q D cT zt A nL rho0 (pc + 2) L (vZ j :: r) h) : mm_W p l e R s m args below meth c Q D cT zt A nL rho0 (pc) L (r) h :=
  fun rho H locs cells slots ls hp hst hI => lv_aload hx hb hd (hI.2.2.2.2.2.2.1.2.2.2 _ _ hL) (k rho H locs cells slots ls hp (mm_okc trivial hst) hI)
theorem mr_aloadZ_n (hx : p.tables.exec = Jvm.exec) (hb : c.code = cc) {n : Fin 4} {j : Nat} (hL : L[n.val]? = some (some (vZ j))) (hd : decode cc pc = .ok (.aload_n n, 1)) (k : mm_W p l e R s m args below meth c Q D cT zt A nL rho0 (pc + 1) L (vZ j :: r) h) : mm_W p l e R s m args below meth c Q D cT zt A nL rho0 (pc) L (r) h :=
  fun rho H locs cells slots ls hp hst hI => lv_aload_n hx hb hd rfl (hI.2.2.2.2.2.2.1.2.2.2 _ _ hL) (k rho H locs cells slots ls hp (mm_okc trivial hst) hI)
theorem mr_ldc2 (hx : p.tables.exec = Jvm.exec) (hb : c.code = cc) {own : String} {index : Nat} {v : Int64} (hown : s.vm.findClass own = some m.cls) (hc : (Jvm.Cond.constantLong own index v).before args s = true) (hd : decode cc pc = .ok (.ldc2_w index, 3)) (k : mm_W p l e R s m args below meth c Q D cT zt A nL rho0 (pc + 3) L (vJ v :: r) h) : mm_W p l e R s m args below meth c Q D cT zt A nL rho0 (pc) L (r) h :=
  fun rho H locs cells slots ls hp hst hI => lv_ldc2 hx hb hown hc hd (k rho H locs cells slots ls hp (mm_okc trivial hst) hI)
theorem mr_lshl (hx : p.tables.exec = Jvm.exec) (hb : c.code = cc) {x : Int64} {y : Int32} (hd : decode cc pc = .ok (.lshl, 1)) (k : mm_W p l e R s m args below meth c Q D cT zt A nL rho0 (pc + 1) L (vJ (x <<< (y.toInt64 &&& 63)) :: r) h) : mm_W p l e R s m args below meth c Q D cT zt A nL rho0 (pc) L (vI y :: vJ x :: r) h :=
  fun rho H locs cells slots ls hp hst hI => lv_lshl hx hb hd rfl (k rho H locs cells slots ls hp (mm_okc trivial (mm_okt (mm_okt hst))) hI)
theorem mr_land (hx : p.tables.exec = Jvm.exec) (hb : c.code = cc) {x y : Int64} (hd : decode cc pc = .ok (.land, 1)) (k : mm_W p l e R s m args below meth c Q D cT zt A nL rho0 (pc + 1) L (vJ (x &&& y) :: r) h) : mm_W p l e R s m args below meth c Q D cT zt A nL rho0 (pc) L (vJ y :: vJ x :: r) h :=
  fun rho H locs cells slots ls hp hst hI => lv_land hx hb hd (k rho H locs cells slots ls hp (mm_okc trivial (mm_okt (mm_okt hst))) hI)
theorem mr_lor (hx : p.tables.exec = Jvm.exec) (hb : c.code = cc) {x y : Int64} (hd : decode cc pc = .ok (.lor, 1)) (k : mm_W p l e R s m args below meth c Q D cT zt A nL rho0 (pc + 1) L (vJ (x ||| y) :: r) h) : mm_W p l e R s m args below meth c Q D cT zt A nL rho0 (pc) L (vJ y :: vJ x :: r) h :=
  fun rho H locs cells slots ls hp hst hI => lv_lor hx hb hd (k rho H locs cells slots ls hp (mm_okc trivial (mm_okt (mm_okt hst))) hI)
theorem mr_lcmp (hx : p.tables.exec = Jvm.exec) (hb : c.code = cc) {x y : Int64} (hd : decode cc pc = .ok (.lcmp, 1)) (k : mm_W p l e R s m args below meth c Q D cT zt A nL rho0 (pc + 1) L (vI (lg_cmp x y) :: r) h) : mm_W p l e R s m args below meth c Q D cT zt A nL rho0 (pc) L (vJ y :: vJ x :: r) h :=
  fun rho H locs cells slots ls hp hst hI => W.lcmp hx hb hd (k rho H locs cells slots ls hp (mm_okc trivial (mm_okt (mm_okt hst))) hI)
theorem mm_setOk {n k : Nat} {v : mm_V} {L L' : mm_L} (hs : mm_set L k v = some L') (hv : mm_ok n v) (hL : ∀ w, some w ∈ L → mm_ok n w) : (∀ w, some w ∈ L' → mm_ok n w) ∧ k < L.length := by
  unfold mm_set at hs
  split at hs
  · rename_i hk
    split at hs
    · cases hs
    · cases hs
      refine ⟨fun w hw => ?_, hk⟩
      rcases List.mem_or_eq_of_mem_set hw with h1 | h1
      · exact hL w h1
      · cases h1; exact hv
  · cases hs
theorem mm_I.store {rho : List Nat} {H : Heap} {locs : List Loc} {cells slots k : Nat} {ls ls' : Array Slot} {v : mm_V} {L' : mm_L} (hI : mm_I R s D cT zt A nL rho L h H locs cells slots ls) (hv : mm_ok h.1.length v) (hs : mm_set L k v = some L') (h' : lv_has ls' nL ((k, mm_v rho zt v) :: (mm_as rho zt L).filter (fun q => !(q.1 == k) && !(q.1 + 1 == k && q.2.category == 2)))) : mm_I R s D cT zt A nL rho L' h H locs cells slots ls' :=
  ⟨hI.1, hI.2.1, (mm_setOk hs hv hI.2.2.1).1, hI.2.2.2.1, hI.2.2.2.2.1, hI.2.2.2.2.2.1, (hI.2.2.2.2.2.2.1.store hs h').1, hI.2.2.2.2.2.2.2⟩
theorem mm_I.lt {rho : List Nat} {H : Heap} {locs : List Loc} {cells slots k : Nat} {ls : Array Slot} {v : mm_V} {L' : mm_L} (hI : mm_I R s D cT zt A nL rho L h H locs cells slots ls) (hs : mm_set L k v = some L') : k < nL := by
  rw [← hI.2.2.2.2.2.2.1.1]
  unfold mm_set at hs
  split at hs
  · assumption
  · cases hs
theorem mr_istore (hx : p.tables.exec = Jvm.exec) (hb : c.code = cc) {i : Nat} {x : Int32} {L' : mm_L} (hs : mm_set L i (vI x) = some L') (hd : decode cc pc = .ok (.istore i, 2)) (k : mm_W p l e R s m args below meth c Q D cT zt A nL rho0 (pc + 2) L' (r) h) : mm_W p l e R s m args below meth c Q D cT zt A nL rho0 (pc) L (vI x :: r) h :=
  fun rho H locs cells slots ls hp hst hI => lv_istore hx hb hd hI.2.2.2.2.2.2.1.has (hI.lt hs) rfl fun ls' hl' => k rho H locs cells slots ls' hp (mm_okt hst) (hI.store (v := vI x) trivial hs hl')
theorem mr_istore_n (hx : p.tables.exec = Jvm.exec) (hb : c.code = cc) {n : Fin 4} {x : Int32} {L' : mm_L} (hs : mm_set L n.val (vI x) = some L') (hd : decode cc pc = .ok (.istore_n n, 1)) (k : mm_W p l e R s m args below meth c Q D cT zt A nL rho0 (pc + 1) L' (r) h) : mm_W p l e R s m args below meth c Q D cT zt A nL rho0 (pc) L (vI x :: r) h :=
  fun rho H locs cells slots ls hp hst hI => lv_istore_n hx hb hd rfl hI.2.2.2.2.2.2.1.has (hI.lt hs) rfl fun ls' hl' => k rho H locs cells slots ls' hp (mm_okt hst) (hI.store (v := vI x) trivial hs hl')
theorem mr_astore (hx : p.tables.exec = Jvm.exec) (hb : c.code = cc) {i : Nat} {q : Option Nat} {L' : mm_L} (hs : mm_set L i (vQ q) = some L') (hd : decode cc pc = .ok (.astore i, 2)) (k : mm_W p l e R s m args below meth c Q D cT zt A nL rho0 (pc + 2) L' (r) h) : mm_W p l e R s m args below meth c Q D cT zt A nL rho0 (pc) L (vQ q :: r) h := by
  intro rho H locs cells slots ls hp hst hI
  cases q with
  | none => exact lv_astoreN hx hb hd hI.2.2.2.2.2.2.1.has (hI.lt hs) rfl fun ls' hl' => k rho H locs cells slots ls' hp (mm_okt hst) (hI.store (mm_okh hst) hs hl')
  | some a => exact lv_astore hx hb hd hI.2.2.2.2.2.2.1.has (hI.lt hs) rfl fun ls' hl' => k rho H locs cells slots ls' hp (mm_okt hst) (hI.store (mm_okh hst) hs hl')
theorem mr_astore_n (hx : p.tables.exec = Jvm.exec) (hb : c.code = cc) {n : Fin 4} {q : Option Nat} {L' : mm_L} (hs : mm_set L n.val (vQ q) = some L') (hd : decode cc pc = .ok (.astore_n n, 1)) (k : mm_W p l e R s m args below meth c Q D cT zt A nL rho0 (pc + 1) L' (r) h) : mm_W p l e R s m args below meth c Q D cT zt A nL rho0 (pc) L (vQ q :: r) h := by
  intro rho H locs cells slots ls hp hst hI
  cases q with
  | none => exact lv_astore_nN hx hb hd rfl hI.2.2.2.2.2.2.1.has (hI.lt hs) rfl fun ls' hl' => k rho H locs cells slots ls' hp (mm_okt hst) (hI.store (mm_okh hst) hs hl')
  | some a => exact lv_astore_n hx hb hd rfl hI.2.2.2.2.2.2.1.has (hI.lt hs) rfl fun ls' hl' => k rho H locs cells slots ls' hp (mm_okt hst) (hI.store (mm_okh hst) hs hl')
theorem mr_iinc (hx : p.tables.exec = Jvm.exec) (hb : c.code = cc) {i : Nat} {n : Int} {x : Int32} {L' : mm_L} (hL : L[i]? = some (some (vI x))) (hs : mm_set L i (vI (x + Int32.ofInt n)) = some L') (hd : decode cc pc = .ok (.iinc i n, 3)) (k : mm_W p l e R s m args below meth c Q D cT zt A nL rho0 (pc + 3) L' (r) h) : mm_W p l e R s m args below meth c Q D cT zt A nL rho0 (pc) L (r) h := by
  intro rho H locs cells slots ls hp hst hI
  obtain ⟨j, hj⟩ := List.getElem?_of_mem (mm_as_mem (rho := rho) (zt := zt) hL)
  exact lv_iinc hx hb hd hI.2.2.2.2.2.2.1.has hj rfl (hI.lt hs) rfl fun ls' hl' => k rho H locs cells slots ls' hp hst (hI.store (v := vI (x + Int32.ofInt n)) trivial hs hl')
theorem mm_cat1 {rho : List Nat} {v : mm_V} (h : ∀ x, v ≠ vJ x) : (mm_v rho zt v).category = 1 := by
  obtain x | x | (_ | a) | j := v
  · rfl
  · exact absurd rfl (h x)
  · rfl
  · rfl
  · rfl
theorem mr_pop (hx : p.tables.exec = Jvm.exec) (hb : c.code = cc) {v : mm_V} (hv : ∀ x, v ≠ vJ x) (hd : decode cc pc = .ok (.pop, 1)) (k : mm_W p l e R s m args below meth c Q D cT zt A nL rho0 (pc + 1) L (r) h) : mm_W p l e R s m args below meth c Q D cT zt A nL rho0 (pc) L (v :: r) h :=
  fun rho H locs cells slots ls hp hst hI => lv_pop hx hb hd (mm_cat1 hv) (k rho H locs cells slots ls hp (mm_okt hst) hI)
theorem mr_dup (hx : p.tables.exec = Jvm.exec) (hb : c.code = cc) {v : mm_V} (hv : ∀ x, v ≠ vJ x) (hd : decode cc pc = .ok (.dup, 1)) (k : mm_W p l e R s m args below meth c Q D cT zt A nL rho0 (pc + 1) L (v :: v :: r) h) : mm_W p l e R s m args below meth c Q D cT zt A nL rho0 (pc) L (v :: r) h :=
  fun rho H locs cells slots ls hp hst hI => lv_dup hx hb hd (mm_cat1 hv) (k rho H locs cells slots ls hp (mm_okc (mm_okh hst) hst) hI)
theorem mr_goto (hx : p.tables.exec = Jvm.exec) (hb : c.code = cc) {off : Int} {tgt : Nat} (hd : decode cc pc = .ok (.goto off, 3)) (ht : (pc : Int) + off = (tgt : Int)) (k : mm_W p l e R s m args below meth c Q D cT zt A nL rho0 (tgt) L (r) h) : mm_W p l e R s m args below meth c Q D cT zt A nL rho0 (pc) L (r) h :=
  fun rho H locs cells slots ls hp hst hI => lv_goto hx hb hd ht (k rho H locs cells slots ls hp hst hI)
theorem mr_icmp_eq (hx : p.tables.exec = Jvm.exec) (hb : c.code = cc) {x y : Int32} {off : Int} {tgt : Nat} (hd : decode cc pc = .ok (.if_icmp .eq off, 3)) (ht : (pc : Int) + off = (tgt : Int)) (k1 : mm_cmp .eq x y → mm_W p l e R s m args below meth c Q D cT zt A nL rho0 (tgt) L (r) h) (k2 : ¬ mm_cmp .eq x y → mm_W p l e R s m args below meth c Q D cT zt A nL rho0 (pc + 3) L (r) h) : mm_W p l e R s m args below meth c Q D cT zt A nL rho0 (pc) L (vI y :: vI x :: r) h :=
  fun rho H locs cells slots ls hp hst hI => lv_icmp_eq hx hb hd ht (fun q => k1 q rho H locs cells slots ls hp (mm_okt (mm_okt hst)) hI) (fun q => k2 q rho H locs cells slots ls hp (mm_okt (mm_okt hst)) hI)
theorem mr_if_eq (hx : p.tables.exec = Jvm.exec) (hb : c.code = cc) {x : Int32} {off : Int} {tgt : Nat} (hd : decode cc pc = .ok (.ifCond .eq off, 3)) (ht : (pc : Int) + off = (tgt : Int)) (k1 : mm_cmp .eq x 0 → mm_W p l e R s m args below meth c Q D cT zt A nL rho0 (tgt) L (r) h) (k2 : ¬ mm_cmp .eq x 0 → mm_W p l e R s m args below meth c Q D cT zt A nL rho0 (pc + 3) L (r) h) : mm_W p l e R s m args below meth c Q D cT zt A nL rho0 (pc) L (vI x :: r) h :=
  fun rho H locs cells slots ls hp hst hI => lv_if_eq hx hb hd ht (fun q => k1 q rho H locs cells slots ls hp (mm_okt hst) hI) (fun q => k2 q rho H locs cells slots ls hp (mm_okt hst) hI)
theorem mr_icmp_ne (hx : p.tables.exec = Jvm.exec) (hb : c.code = cc) {x y : Int32} {off : Int} {tgt : Nat} (hd : decode cc pc = .ok (.if_icmp .ne off, 3)) (ht : (pc : Int) + off = (tgt : Int)) (k1 : mm_cmp .ne x y → mm_W p l e R s m args below meth c Q D cT zt A nL rho0 (tgt) L (r) h) (k2 : ¬ mm_cmp .ne x y → mm_W p l e R s m args below meth c Q D cT zt A nL rho0 (pc + 3) L (r) h) : mm_W p l e R s m args below meth c Q D cT zt A nL rho0 (pc) L (vI y :: vI x :: r) h :=
  fun rho H locs cells slots ls hp hst hI => lv_icmp_ne hx hb hd ht (fun q => k1 q rho H locs cells slots ls hp (mm_okt (mm_okt hst)) hI) (fun q => k2 (fun z => z q) rho H locs cells slots ls hp (mm_okt (mm_okt hst)) hI)
theorem mr_if_ne (hx : p.tables.exec = Jvm.exec) (hb : c.code = cc) {x : Int32} {off : Int} {tgt : Nat} (hd : decode cc pc = .ok (.ifCond .ne off, 3)) (ht : (pc : Int) + off = (tgt : Int)) (k1 : mm_cmp .ne x 0 → mm_W p l e R s m args below meth c Q D cT zt A nL rho0 (tgt) L (r) h) (k2 : ¬ mm_cmp .ne x 0 → mm_W p l e R s m args below meth c Q D cT zt A nL rho0 (pc + 3) L (r) h) : mm_W p l e R s m args below meth c Q D cT zt A nL rho0 (pc) L (vI x :: r) h :=
  fun rho H locs cells slots ls hp hst hI => lv_if_ne hx hb hd ht (fun q => k1 q rho H locs cells slots ls hp (mm_okt hst) hI) (fun q => k2 (fun z => z q) rho H locs cells slots ls hp (mm_okt hst) hI)
theorem mr_icmp_lt (hx : p.tables.exec = Jvm.exec) (hb : c.code = cc) {x y : Int32} {off : Int} {tgt : Nat} (hd : decode cc pc = .ok (.if_icmp .lt off, 3)) (ht : (pc : Int) + off = (tgt : Int)) (k1 : mm_cmp .lt x y → mm_W p l e R s m args below meth c Q D cT zt A nL rho0 (tgt) L (r) h) (k2 : ¬ mm_cmp .lt x y → mm_W p l e R s m args below meth c Q D cT zt A nL rho0 (pc + 3) L (r) h) : mm_W p l e R s m args below meth c Q D cT zt A nL rho0 (pc) L (vI y :: vI x :: r) h :=
  fun rho H locs cells slots ls hp hst hI => lv_icmp_lt hx hb hd ht (fun q => k1 q rho H locs cells slots ls hp (mm_okt (mm_okt hst)) hI) (fun q => k2 q rho H locs cells slots ls hp (mm_okt (mm_okt hst)) hI)
theorem mr_if_lt (hx : p.tables.exec = Jvm.exec) (hb : c.code = cc) {x : Int32} {off : Int} {tgt : Nat} (hd : decode cc pc = .ok (.ifCond .lt off, 3)) (ht : (pc : Int) + off = (tgt : Int)) (k1 : mm_cmp .lt x 0 → mm_W p l e R s m args below meth c Q D cT zt A nL rho0 (tgt) L (r) h) (k2 : ¬ mm_cmp .lt x 0 → mm_W p l e R s m args below meth c Q D cT zt A nL rho0 (pc + 3) L (r) h) : mm_W p l e R s m args below meth c Q D cT zt A nL rho0 (pc) L (vI x :: r) h :=
  fun rho H locs cells slots ls hp hst hI => lv_if_lt hx hb hd ht (fun q => k1 q rho H locs cells slots ls hp (mm_okt hst) hI) (fun q => k2 q rho H locs cells slots ls hp (mm_okt hst) hI)
theorem mr_icmp_ge (hx : p.tables.exec = Jvm.exec) (hb : c.code = cc) {x y : Int32} {off : Int} {tgt : Nat} (hd : decode cc pc = .ok (.if_icmp .ge off, 3)) (ht : (pc : Int) + off = (tgt : Int)) (k1 : mm_cmp .ge x y → mm_W p l e R s m args below meth c Q D cT zt A nL rho0 (tgt) L (r) h) (k2 : ¬ mm_cmp .ge x y → mm_W p l e R s m args below meth c Q D cT zt A nL rho0 (pc + 3) L (r) h) : mm_W p l e R s m args below meth c Q D cT zt A nL rho0 (pc) L (vI y :: vI x :: r) h :=
  fun rho H locs cells slots ls hp hst hI => lv_icmp_ge hx hb hd ht (fun q => k1 q rho H locs cells slots ls hp (mm_okt (mm_okt hst)) hI) (fun q => k2 q rho H locs cells slots ls hp (mm_okt (mm_okt hst)) hI)
theorem mr_if_ge (hx : p.tables.exec = Jvm.exec) (hb : c.code = cc) {x : Int32} {off : Int} {tgt : Nat} (hd : decode cc pc = .ok (.ifCond .ge off, 3)) (ht : (pc : Int) + off = (tgt : Int)) (k1 : mm_cmp .ge x 0 → mm_W p l e R s m args below meth c Q D cT zt A nL rho0 (tgt) L (r) h) (k2 : ¬ mm_cmp .ge x 0 → mm_W p l e R s m args below meth c Q D cT zt A nL rho0 (pc + 3) L (r) h) : mm_W p l e R s m args below meth c Q D cT zt A nL rho0 (pc) L (vI x :: r) h :=
  fun rho H locs cells slots ls hp hst hI => lv_if_ge hx hb hd ht (fun q => k1 q rho H locs cells slots ls hp (mm_okt hst) hI) (fun q => k2 q rho H locs cells slots ls hp (mm_okt hst) hI)
theorem mr_icmp_gt (hx : p.tables.exec = Jvm.exec) (hb : c.code = cc) {x y : Int32} {off : Int} {tgt : Nat} (hd : decode cc pc = .ok (.if_icmp .gt off, 3)) (ht : (pc : Int) + off = (tgt : Int)) (k1 : mm_cmp .gt x y → mm_W p l e R s m args below meth c Q D cT zt A nL rho0 (tgt) L (r) h) (k2 : ¬ mm_cmp .gt x y → mm_W p l e R s m args below meth c Q D cT zt A nL rho0 (pc + 3) L (r) h) : mm_W p l e R s m args below meth c Q D cT zt A nL rho0 (pc) L (vI y :: vI x :: r) h :=
  fun rho H locs cells slots ls hp hst hI => lv_icmp_gt hx hb hd ht (fun q => k1 q rho H locs cells slots ls hp (mm_okt (mm_okt hst)) hI) (fun q => k2 q rho H locs cells slots ls hp (mm_okt (mm_okt hst)) hI)
theorem mr_if_gt (hx : p.tables.exec = Jvm.exec) (hb : c.code = cc) {x : Int32} {off : Int} {tgt : Nat} (hd : decode cc pc = .ok (.ifCond .gt off, 3)) (ht : (pc : Int) + off = (tgt : Int)) (k1 : mm_cmp .gt x 0 → mm_W p l e R s m args below meth c Q D cT zt A nL rho0 (tgt) L (r) h) (k2 : ¬ mm_cmp .gt x 0 → mm_W p l e R s m args below meth c Q D cT zt A nL rho0 (pc + 3) L (r) h) : mm_W p l e R s m args below meth c Q D cT zt A nL rho0 (pc) L (vI x :: r) h :=
  fun rho H locs cells slots ls hp hst hI => lv_if_gt hx hb hd ht (fun q => k1 q rho H locs cells slots ls hp (mm_okt hst) hI) (fun q => k2 q rho H locs cells slots ls hp (mm_okt hst) hI)
theorem mr_icmp_le (hx : p.tables.exec = Jvm.exec) (hb : c.code = cc) {x y : Int32} {off : Int} {tgt : Nat} (hd : decode cc pc = .ok (.if_icmp .le off, 3)) (ht : (pc : Int) + off = (tgt : Int)) (k1 : mm_cmp .le x y → mm_W p l e R s m args below meth c Q D cT zt A nL rho0 (tgt) L (r) h) (k2 : ¬ mm_cmp .le x y → mm_W p l e R s m args below meth c Q D cT zt A nL rho0 (pc + 3) L (r) h) : mm_W p l e R s m args below meth c Q D cT zt A nL rho0 (pc) L (vI y :: vI x :: r) h :=
  fun rho H locs cells slots ls hp hst hI => lv_icmp_le hx hb hd ht (fun q => k1 q rho H locs cells slots ls hp (mm_okt (mm_okt hst)) hI) (fun q => k2 q rho H locs cells slots ls hp (mm_okt (mm_okt hst)) hI)
theorem mr_if_le (hx : p.tables.exec = Jvm.exec) (hb : c.code = cc) {x : Int32} {off : Int} {tgt : Nat} (hd : decode cc pc = .ok (.ifCond .le off, 3)) (ht : (pc : Int) + off = (tgt : Int)) (k1 : mm_cmp .le x 0 → mm_W p l e R s m args below meth c Q D cT zt A nL rho0 (tgt) L (r) h) (k2 : ¬ mm_cmp .le x 0 → mm_W p l e R s m args below meth c Q D cT zt A nL rho0 (pc + 3) L (r) h) : mm_W p l e R s m args below meth c Q D cT zt A nL rho0 (pc) L (vI x :: r) h :=
  fun rho H locs cells slots ls hp hst hI => lv_if_le hx hb hd ht (fun q => k1 q rho H locs cells slots ls hp (mm_okt hst) hI) (fun q => k2 q rho H locs cells slots ls hp (mm_okt hst) hI)
theorem mr_ifnull (hx : p.tables.exec = Jvm.exec) (hb : c.code = cc) {q : Option Nat} {off : Int} {tgt : Nat} (hd : decode cc pc = .ok (.ifnull off, 3)) (ht : (pc : Int) + off = (tgt : Int)) (k1 : q = none → mm_W p l e R s m args below meth c Q D cT zt A nL rho0 (tgt) L (r) h) (k2 : ¬ q = none → mm_W p l e R s m args below meth c Q D cT zt A nL rho0 (pc + 3) L (r) h) : mm_W p l e R s m args below meth c Q D cT zt A nL rho0 (pc) L (vQ q :: r) h := by
  intro rho H locs cells slots ls hp hst hI
  cases q with
  | none => exact lv_ifnullN hx hb hd ht (k1 rfl rho H locs cells slots ls hp (mm_okt hst) hI)
  | some a => exact lv_ifnull hx hb hd (k2 (by simp) rho H locs cells slots ls hp (mm_okt hst) hI)
theorem mr_ifnonnull (hx : p.tables.exec = Jvm.exec) (hb : c.code = cc) {q : Option Nat} {off : Int} {tgt : Nat} (hd : decode cc pc = .ok (.ifnonnull off, 3)) (ht : (pc : Int) + off = (tgt : Int)) (k1 : ¬ q = none → mm_W p l e R s m args below meth c Q D cT zt A nL rho0 (tgt) L (r) h) (k2 : q = none → mm_W p l e R s m args below meth c Q D cT zt A nL rho0 (pc + 3) L (r) h) : mm_W p l e R s m args below meth c Q D cT zt A nL rho0 (pc) L (vQ q :: r) h := by
  intro rho H locs cells slots ls hp hst hI
  cases q with
  | none => exact lv_ifnonnullN hx hb hd (k2 rfl rho H locs cells slots ls hp (mm_okt hst) hI)
  | some a => exact lv_ifnonnull hx hb hd ht (k1 (by simp) rho H locs cells slots ls hp (mm_okt hst) hI)
theorem mm_vQ (rho : List Nat) (q : Option Nat) : mm_v rho zt (vQ q) = va_rf (mm_q rho q) := by cases q <;> rfl
theorem mm_rho_inj {rho : List Nat} {cs : List mm_O} (hl : rho.length = cs.length) (hD : va_D A (mm_w rho zt cT cs)) {a b : Nat} (ha : a < cs.length) (hb : b < cs.length) (hab : rho.getD a 0 = rho.getD b 0) : a = b := by
  obtain ⟨x, hx⟩ : ∃ x, cs[a]? = some x := ⟨cs[a], List.getElem?_eq_getElem ha⟩
  obtain ⟨y, hy⟩ : ∃ y, cs[b]? = some y := ⟨cs[b], List.getElem?_eq_getElem hb⟩
  exact hD.1 a b _ _ (mm_w_at hl hx) (mm_w_at hl hy) hab
theorem mm_q_inj {rho : List Nat} {cs : List mm_O} (hl : rho.length = cs.length) (hD : va_D A (mm_w rho zt cT cs)) {a b : Option Nat} (ha : mm_ok cs.length (vQ a)) (hb : mm_ok cs.length (vQ b)) : mm_q rho a = mm_q rho b ↔ a = b := by
  refine ⟨fun hq => ?_, fun hq => by rw [hq]⟩
  cases a with
  | none => cases b with
    | none => rfl
    | some y => simp [mm_q] at hq
  | some x => cases b with
    | none => simp [mm_q] at hq
    | some y =>
      simp only [mm_q, Option.map_some, Option.some.injEq] at hq
      rw [mm_rho_inj hl hD ha hb hq]
theorem mr_acmp_eq (hx : p.tables.exec = Jvm.exec) (hb : c.code = cc) {a b : Option Nat} {off : Int} {tgt : Nat} (hd : decode cc pc = .ok (.if_acmp .eq off, 3)) (ht : (pc : Int) + off = (tgt : Int)) (k1 : a = b → mm_W p l e R s m args below meth c Q D cT zt A nL rho0 (tgt) L (r) h) (k2 : ¬ a = b → mm_W p l e R s m args below meth c Q D cT zt A nL rho0 (pc + 3) L (r) h) : mm_W p l e R s m args below meth c Q D cT zt A nL rho0 (pc) L (vQ b :: vQ a :: r) h := by
  intro rho H locs cells slots ls hp hst hI
  have hq := mm_q_inj (zt := zt) (cT := cT) (A := A) hI.1 hI.2.2.2.2.1 (a := a) (b := b) (mm_okh (mm_okt hst)) (mm_okh hst)
  rw [List.map_cons, List.map_cons, mm_vQ, mm_vQ]
  exact lv_acmp_eq hx hb hd ht (fun z => k1 (hq.mp z) rho H locs cells slots ls hp (mm_okt (mm_okt hst)) hI) (fun z => k2 (fun y => z (hq.mpr y)) rho H locs cells slots ls hp (mm_okt (mm_okt hst)) hI)
theorem mr_acmp_ne (hx : p.tables.exec = Jvm.exec) (hb : c.code = cc) {a b : Option Nat} {off : Int} {tgt : Nat} (hd : decode cc pc = .ok (.if_acmp .ne off, 3)) (ht : (pc : Int) + off = (tgt : Int)) (k1 : ¬ a = b → mm_W p l e R s m args below meth c Q D cT zt A nL rho0 (tgt) L (r) h) (k2 : a = b → mm_W p l e R s m args below meth c Q D cT zt A nL rho0 (pc + 3) L (r) h) : mm_W p l e R s m args below meth c Q D cT zt A nL rho0 (pc) L (vQ b :: vQ a :: r) h := by
  intro rho H locs cells slots ls hp hst hI
  have hq := mm_q_inj (zt := zt) (cT := cT) (A := A) hI.1 hI.2.2.2.2.1 (a := a) (b := b) (mm_okh (mm_okt hst)) (mm_okh hst)
  rw [List.map_cons, List.map_cons, mm_vQ, mm_vQ]
  exact lv_acmp_ne hx hb hd ht (fun z => k1 (fun y => z (hq.mpr y)) rho H locs cells slots ls hp (mm_okt (mm_okt hst)) hI) (fun z => k2 (hq.mp z) rho H locs cells slots ls hp (mm_okt (mm_okt hst)) hI)
end MR
end
section
theorem mm_fld_of {h : mm_H} {a ci k : Nat} {v : mm_V} (hv : mm_fld h a ci k = some v) : ∃ fs, h.1[a]? = some (.inl (ci, fs)) ∧ fs[k]? = some v := by
  unfold mm_fld at hv
  split at hv
  · rename_i cq fs hq
    split at hv
    · rename_i hc
      subst hc
      exact ⟨fs, hq, hv⟩
    · cases hv
  · cases hv
theorem mm_put_of {h h' : mm_H} {a ci k : Nat} {v : mm_V} (hv : mm_put h a ci k v = some h') : ∃ fs, h.1[a]? = some (.inl (ci, fs)) ∧ k < fs.length ∧ h' = (h.1.set a (.inl (ci, fs.set k v)), h.2) := by
  unfold mm_put at hv
  split at hv
  · rename_i cq fs hq
    split at hv
    · rename_i hc
      obtain ⟨rfl, hk⟩ := hc
      cases hv
      exact ⟨fs, hq, hk, rfl⟩
    · cases hv
  · cases hv
theorem mm_int_of {h : mm_H} {a kd : Nat} {xs : List Int32} (hv : mm_int h a kd = some xs) : h.1[a]? = some (.inr (.inl (kd, xs))) := by
  unfold mm_int at hv
  split at hv
  · rename_i q hq
    split at hv
    · rename_i hk
      subst hk
      cases hv
      exact hq
    · cases hv
  · cases hv
theorem mm_lng_of {h : mm_H} {a : Nat} {xs : List Int64} (hv : mm_lng h a = some xs) : h.1[a]? = some (.inr (.inr (.inl xs))) := by
  unfold mm_lng at hv
  split at hv
  · rename_i hq; cases hv; exact hq
  · cases hv
theorem mm_refs_of {h : mm_H} {a : Nat} {q : Nat × List (Option Nat)} (hv : mm_refs h a = some q) : h.1[a]? = some (.inr (.inr (.inr q))) ∧ q.1 < 2 := by
  unfold mm_refs at hv
  split at hv
  · rename_i q' hq
    split at hv
    · rename_i hk
      cases hv
      exact ⟨hq, hk⟩
    · cases hv
  · cases hv
theorem mm_tys_q {cT : Nat → ClassId} {j : Nat} (hj : j < 2) : ∃ C T N, (mm_tys cT)[j + 4]? = some (cT (j + 4), .object C) ∧ vwCl[mm_el j]? = some (C, T, N) := by
  match j, hj with
  | 0, _ => exact ⟨_, _, _, rfl, rfl⟩
  | 1, _ => exact ⟨_, _, _, rfl, rfl⟩
theorem mm_ix_of {i : Int32} {n k : Nat} (h : mm_ix i n = some k) : vp_in i n ∧ i.toNatClampNeg = k ∧ k < n := by
  unfold mm_ix at h
  split at h
  · cases h
  · rename_i h0
    split at h
    · rename_i h1
      cases h
      exact ⟨fun q => q.elim h0 (fun z => absurd h1 (Nat.not_lt.mpr z)), rfl, h1⟩
    · cases h
theorem mm_okO_set {cs : List mm_O} {a : Nat} {x : mm_O} (hok : ∀ o ∈ cs, mm_okO cs.length o) (hx : mm_okO cs.length x) : ∀ o ∈ cs.set a x, mm_okO (cs.set a x).length o := by
  intro o ho
  rw [List.length_set]
  rcases List.mem_or_eq_of_mem_set ho with h1 | h1
  · exact hok o h1
  · rw [h1]; exact hx
theorem mm_rep_getD {α : Type} (n j : Nat) (d : α) : (List.replicate n d).getD j d = d := by
  simp only [List.getD_eq_getElem?_getD, List.getElem?_replicate]
  split <;> rfl
theorem mm_mem_set {α : Type} {l : List α} {k : Nat} {v w : α} (h : w ∈ l.set k v) : w ∈ l ∨ w = v := List.mem_or_eq_of_mem_set h
section MR
variable {p : Program} {l : Launch} {e : Env} {R : Room} {s : State} {m : MethodId} {args : Array Value} {below : List Frame} {meth : Method} {c : Code} {Q : State → Prop} {D : va_G} {cT : Nat → ClassId} {zt : Nat → Nat} {A : Nat → Prop} {nL : Nat} {rho0 : List Nat} {cc : ByteArray} {pc : Nat} {L : mm_L} {r : List mm_V} {h : mm_H} {Ts : List Jvm.Cond}
theorem mm_at {rho : List Nat} {H : Heap} {locs : List Loc} {cells slots : Nat} {ls : Array Slot} (hI : mm_I R s D cT zt A nL rho L h H locs cells slots ls) {a : Nat} {o : mm_O} (ho : h.1[a]? = some o) : (mm_w rho zt cT h.1)[a]? = some (rho.getD a 0, mm_e rho zt cT o) := mm_w_at hI.1 ho
/-- behind a write into the cell a -/
theorem mm_I.wrote {rho : List Nat} {H H1 : Heap} {locs locs1 : List Loc} {cells slots : Nat} {ls : Array Slot} (hI : mm_I R s D cT zt A nL rho L h H locs cells slots ls) {a : Nat} {o0 x : mm_O} (ho : h.1[a]? = some o0) (hx : mm_okO h.1.length x) (hP : va_P D vwCl ((mm_w rho zt cT h.1).set a (rho.getD a 0, mm_e rho zt cT x)) H1) (hD : va_D A ((mm_w rho zt cT h.1).set a (rho.getD a 0, mm_e rho zt cT x))) (hS : va_S A s.heap H1 locs1) : mm_I R s D cT zt A nL rho L (h.1.set a x, h.2) H1 locs1 cells slots ls := by
  have ha : a < h.1.length := (List.getElem?_eq_some_iff.mp ho).1
  rw [← mm_w_set hI.1 ha] at hP hD
  refine ⟨by rw [List.length_set]; exact hI.1, mm_okO_set hI.2.1 hx, fun v hv => by rw [List.length_set]; exact hI.2.2.1 v hv, hP, hD, hS, hI.2.2.2.2.2.2⟩
/-- behind a new cell -/
theorem mm_I.made {rho : List Nat} {H H1 : Heap} {locs : List Loc} {cells slots n : Nat} {ls : Array Slot} (hI : mm_I R s D cT zt A nL rho L h H locs cells slots ls) {x : mm_O} {q : Nat} {E : va_E} {h' : mm_H} (hn : mm_new h x n = some h') (hx : mm_okO 0 x) (hE : E = mm_e rho zt cT x) (hP : va_P D vwCl (mm_w rho zt cT h.1 ++ [(q, E)]) H1) (hD : va_D A (mm_w rho zt cT h.1 ++ [(q, E)])) (hS : va_S A s.heap H1 locs) : mm_I R s D cT zt A nL (rho ++ [q]) L h' H1 locs (cells + 1) (slots + n) ls := by
  unfold mm_new at hn
  split at hn
  · rename_i hb
    cases hn
    have hx0 : mm_okO rho.length x := mm_okO_mono (Nat.zero_le _) hx
    rw [hE, ← mm_e_app (t := [q]) hx0, ← mm_w_app hI.1 hI.2.1] at hP hD
    have hlen : (h.1 ++ [x]).length = h.1.length + 1 := by simp
    refine ⟨by simp [hI.1], fun o ho => ?_, fun v hv => mm_ok_mono (by simp) (hI.2.2.1 v hv), hP, hD, hS, hI.2.2.2.2.2.2.1.grow (fun v hv => by rw [hI.1]; exact hI.2.2.1 v hv), ?_, ?_⟩
    · rcases List.mem_append.mp ho with h1 | h1
      · exact mm_okO_mono (by simp) (hI.2.1 o h1)
      · rw [List.mem_singleton.mp h1]; exact mm_okO_mono (Nat.zero_le _) hx
    · have := hI.2.2.2.2.2.2.2.1
      show cells + 1 + (h.2.1 - 1) ≤ R.cells
      omega
    · have := hI.2.2.2.2.2.2.2.2
      show slots + n + (h.2.2 - n) ≤ R.slots
      omega
  · cases hn
theorem mm_new_of {x : mm_O} {n : Nat} {h' : mm_H} (hn : mm_new h x n = some h') : 1 ≤ h.2.1 ∧ n ≤ h.2.2 ∧ h'.1.length = h.1.length + 1 := by
  unfold mm_new at hn
  split at hn
  · rename_i hb
    cases hn
    exact ⟨hb.1, hb.2, by simp⟩
  · cases hn
theorem mr_get (hx : p.tables.exec = Jvm.exec) (hb : c.code = cc) {own C : String} {T : u_T} {N ci index k : Nat} (hts : ∀ w ∈ Ts, w.before args s = true) (hin : ∀ w ∈ u_ws C T N, w ∈ Ts) (hown : s.vm.findClass own = some m.cls) (hK : va_K D vwCl (mm_tys cT) s) (hc : vwCl[ci]? = some (C, T, N)) (hk : k < N) (hl : (Jvm.Cond.fieldLink own index (T k).1 (T k).2.1 (T k).2.2.1).before args s = true) {a : Nat} {v : mm_V} (hv : mm_fld h a ci k = some v) (hd : decode cc pc = .ok (.getfield index, 3)) (kk : mm_W p l e R s m args below meth c Q D cT zt A nL rho0 (pc + 3) L (v :: r) h) : mm_W p l e R s m args below meth c Q D cT zt A nL rho0 (pc) L (vR a :: r) h := by
  intro rho H locs cells slots ls hp hst hI
  obtain ⟨fs, h1, h2⟩ := mm_fld_of hv
  have hok : mm_ok h.1.length v := hI.2.1 _ (List.mem_of_getElem? h1) v (List.mem_of_getElem? h2)
  exact va_get hx hb hts hin hown hK hI.2.2.2.1 a (mm_at hI h1) hc k hk hl (fun _ z => z) (v := mm_v rho zt v) (by rw [List.getElem?_map, h2]; rfl) hd (kk rho H locs cells slots ls hp (mm_okc hok (mm_okt hst)) hI)
theorem mr_getN (hx : p.tables.exec = Jvm.exec) (hb : c.code = cc) {own C : String} {host : String} {T : u_T} {N ci index k : Nat} (hts : ∀ w ∈ Ts, w.before args s = true) (hin : ∀ w ∈ u_ws C T N, w ∈ Ts) (hown : s.vm.findClass own = some m.cls) (hK : va_K D vwCl (mm_tys cT) s) (hc : vwCl[ci]? = some (C, T, N)) (hk : k < N) (hl : (Jvm.Cond.fieldLinkNest own index (T k).1 (T k).2.1 (T k).2.2.1 host).before args s = true) {a : Nat} {v : mm_V} (hv : mm_fld h a ci k = some v) (hd : decode cc pc = .ok (.getfield index, 3)) (kk : mm_W p l e R s m args below meth c Q D cT zt A nL rho0 (pc + 3) L (v :: r) h) : mm_W p l e R s m args below meth c Q D cT zt A nL rho0 (pc) L (vR a :: r) h := by
  intro rho H locs cells slots ls hp hst hI
  obtain ⟨fs, h1, h2⟩ := mm_fld_of hv
  have hok : mm_ok h.1.length v := hI.2.1 _ (List.mem_of_getElem? h1) v (List.mem_of_getElem? h2)
  exact va_getN hx hb hts hin hown hK hI.2.2.2.1 a (mm_at hI h1) hc k hk hl (fun _ z => z) (v := mm_v rho zt v) (by rw [List.getElem?_map, h2]; rfl) hd (kk rho H locs cells slots ls hp (mm_okc hok (mm_okt hst)) hI)
theorem mr_put (hx : p.tables.exec = Jvm.exec) (hb : c.code = cc) {own C : String} {T : u_T} {N ci index k : Nat} (hts : ∀ w ∈ Ts, w.before args s = true) (hin : ∀ w ∈ u_ws C T N, w ∈ Ts) (ty0 : Nat → FieldType) (hty : ∀ k, k < N → parseFieldDescriptor (T k).2.2.1 = some (ty0 k)) (hnm : ∀ a, a < N → ∀ b, b < N → a ≠ b → (T a).2.1 ≠ (T b).2.1) (hown : s.vm.findClass own = some m.cls) (hK : va_K D vwCl (mm_tys cT) s) (hc : vwCl[ci]? = some (C, T, N)) (hk : k < N) (hl : (Jvm.Cond.fieldLink own index (T k).1 (T k).2.1 (T k).2.2.1).before args s = true) (hfin : (T k).2.2.2 = false) {a : Nat} {v : mm_V} {h' : mm_H} (hn : ∀ rho : List Nat, narrow (ty0 k) (mm_v rho zt v) = mm_v rho zt v ∧ fits (ty0 k) (mm_v rho zt v) = true) (hv : mm_put h a ci k v = some h') (hd : decode cc pc = .ok (.putfield index, 3)) (kk : mm_W p l e R s m args below meth c Q D cT zt A nL rho0 (pc + 3) L (r) h') : mm_W p l e R s m args below meth c Q D cT zt A nL rho0 (pc) L (v :: vR a :: r) h := by
  intro rho H locs cells slots ls hp hst hI
  obtain ⟨fs, h1, h2, rfl⟩ := mm_put_of hv
  refine va_put hx hb hts hin ty0 hty hnm hown hK hI.2.2.2.1 hI.2.2.2.2.1 hI.2.2.2.2.2.1 a (mm_at hI h1) hc k hk hl (fun _ z => z) hfin (hty k hk) (hn rho).1 (hn rho).2 (by rw [List.length_map]; exact h2) hd fun H1 locs1 hP hD hS => ?_
  rw [← List.map_set] at hP hD
  have hx2 : mm_okO h.1.length (.inl (ci, fs.set k v)) := fun w hw => by
    rcases mm_mem_set hw with z | z
    · exact hI.2.1 _ (List.mem_of_getElem? h1) w z
    · rw [z]; exact mm_okh hst
  exact kk rho H1 locs1 cells slots ls hp (by rw [List.length_set]; exact mm_okt (mm_okt hst)) (hI.wrote h1 hx2 hP hD hS)
theorem mr_putF (hx : p.tables.exec = Jvm.exec) (hb : c.code = cc) {own C : String} {T : u_T} {N ci index k : Nat} (hts : ∀ w ∈ Ts, w.before args s = true) (hin : ∀ w ∈ u_ws C T N, w ∈ Ts) (ty0 : Nat → FieldType) (hty : ∀ k, k < N → parseFieldDescriptor (T k).2.2.1 = some (ty0 k)) (hnm : ∀ a, a < N → ∀ b, b < N → a ≠ b → (T a).2.1 ≠ (T b).2.1) (hown : s.vm.findClass own = some m.cls) (hK : va_K D vwCl (mm_tys cT) s) (hc : vwCl[ci]? = some (C, T, N)) (hk : k < N) (hl : (Jvm.Cond.fieldLink own index (T k).1 (T k).2.1 (T k).2.2.1).before args s = true) (hfin : (T k).2.2.2 = true) (hin2 : meth.name = "<init>") (hdecl : (T k).1 = own) {a : Nat} {v : mm_V} {h' : mm_H} (hn : ∀ rho : List Nat, narrow (ty0 k) (mm_v rho zt v) = mm_v rho zt v ∧ fits (ty0 k) (mm_v rho zt v) = true) (hv : mm_put h a ci k v = some h') (hd : decode cc pc = .ok (.putfield index, 3)) (kk : mm_W p l e R s m args below meth c Q D cT zt A nL rho0 (pc + 3) L (r) h') : mm_W p l e R s m args below meth c Q D cT zt A nL rho0 (pc) L (v :: vR a :: r) h := by
  intro rho H locs cells slots ls hp hst hI
  obtain ⟨fs, h1, h2, rfl⟩ := mm_put_of hv
  refine va_putF hx hb hts hin ty0 hty hnm hown hK hI.2.2.2.1 hI.2.2.2.2.1 hI.2.2.2.2.2.1 a (mm_at hI h1) hc k hk hl (fun _ z => z) hfin hin2 hdecl (hty k hk) (hn rho).1 (hn rho).2 (by rw [List.length_map]; exact h2) hd fun H1 locs1 hP hD hS => ?_
  rw [← List.map_set] at hP hD
  have hx2 : mm_okO h.1.length (.inl (ci, fs.set k v)) := fun w hw => by
    rcases mm_mem_set hw with z | z
    · exact hI.2.1 _ (List.mem_of_getElem? h1) w z
    · rw [z]; exact mm_okh hst
  exact kk rho H1 locs1 cells slots ls hp (by rw [List.length_set]; exact mm_okt (mm_okt hst)) (hI.wrote h1 hx2 hP hD hS)
theorem mr_putN (hx : p.tables.exec = Jvm.exec) (hb : c.code = cc) {own C : String} {host : String} {T : u_T} {N ci index k : Nat} (hts : ∀ w ∈ Ts, w.before args s = true) (hin : ∀ w ∈ u_ws C T N, w ∈ Ts) (ty0 : Nat → FieldType) (hty : ∀ k, k < N → parseFieldDescriptor (T k).2.2.1 = some (ty0 k)) (hnm : ∀ a, a < N → ∀ b, b < N → a ≠ b → (T a).2.1 ≠ (T b).2.1) (hown : s.vm.findClass own = some m.cls) (hK : va_K D vwCl (mm_tys cT) s) (hc : vwCl[ci]? = some (C, T, N)) (hk : k < N) (hl : (Jvm.Cond.fieldLinkNest own index (T k).1 (T k).2.1 (T k).2.2.1 host).before args s = true) (hfin : (T k).2.2.2 = false) {a : Nat} {v : mm_V} {h' : mm_H} (hn : ∀ rho : List Nat, narrow (ty0 k) (mm_v rho zt v) = mm_v rho zt v ∧ fits (ty0 k) (mm_v rho zt v) = true) (hv : mm_put h a ci k v = some h') (hd : decode cc pc = .ok (.putfield index, 3)) (kk : mm_W p l e R s m args below meth c Q D cT zt A nL rho0 (pc + 3) L (r) h') : mm_W p l e R s m args below meth c Q D cT zt A nL rho0 (pc) L (v :: vR a :: r) h := by
  intro rho H locs cells slots ls hp hst hI
  obtain ⟨fs, h1, h2, rfl⟩ := mm_put_of hv
  refine va_putN hx hb hts hin ty0 hty hnm hown hK hI.2.2.2.1 hI.2.2.2.2.1 hI.2.2.2.2.2.1 a (mm_at hI h1) hc k hk hl (fun _ z => z) hfin (hty k hk) (hn rho).1 (hn rho).2 (by rw [List.length_map]; exact h2) hd fun H1 locs1 hP hD hS => ?_
  rw [← List.map_set] at hP hD
  have hx2 : mm_okO h.1.length (.inl (ci, fs.set k v)) := fun w hw => by
    rcases mm_mem_set hw with z | z
    · exact hI.2.1 _ (List.mem_of_getElem? h1) w z
    · rw [z]; exact mm_okh hst
  exact kk rho H1 locs1 cells slots ls hp (by rw [List.length_set]; exact mm_okt (mm_okt hst)) (hI.wrote h1 hx2 hP hD hS)
theorem mr_new (hx : p.tables.exec = Jvm.exec) (hb : c.code = cc) {own C : String} {T : u_T} {N ci index : Nat} (hts : ∀ w ∈ Ts, w.before args s = true) (hin : ∀ w ∈ u_ws C T N, w ∈ Ts) (ty0 : Nat → FieldType) (hty : ∀ k, k < N → parseFieldDescriptor (T k).2.2.1 = some (ty0 k)) (hown : s.vm.findClass own = some m.cls) (hcl : (Jvm.Cond.classLink own index C).before args s = true) (hinst : (Jvm.Cond.instantiable C N).before args s = true) (hini : (Jvm.Cond.initialized C).before args s = true) (hK : va_K D vwCl (mm_tys cT) s) (hA : ∀ q, s.heap.size ≤ q → A q) (hc : vwCl[ci]? = some (C, T, N)) {fs : List mm_V} {h' : mm_H} (hfs : ∀ (rho : List Nat) (j : Nat), j < N → defaultValue (ty0 j) = vp_V (fs.map (mm_v rho zt)) j) (hf0 : ∀ v ∈ fs, mm_ok 0 v) (hn : mm_new h (.inl (ci, fs)) N = some h') (hd : decode cc pc = .ok (.new index, 3)) (kk : mm_W p l e R s m args below meth c Q D cT zt A nL rho0 (pc + 3) L (vR h.1.length :: r) h') : mm_W p l e R s m args below meth c Q D cT zt A nL rho0 (pc) L (r) h := by
  intro rho H locs cells slots ls hp hst hI
  obtain ⟨b1, b2, b3⟩ := mm_new_of hn
  have q1 := hI.2.2.2.2.2.2.2.1
  have q2 := hI.2.2.2.2.2.2.2.2
  refine va_new hx hb hts hin ty0 hty hown hcl hinst hini hK hI.2.2.2.1 hI.2.2.2.2.1 hI.2.2.2.2.2.1 hA hc (fs := fs.map (mm_v rho zt)) (hfs rho) (by omega) (by omega) hd fun q H1 hP hD hS => ?_
  have hI' := hI.made hn hf0 rfl hP hD hS
  have hz : (rho ++ [q]).getD h.1.length 0 = q := by rw [← hI.1]; simp [List.getD_eq_getElem?_getD]
  have := kk (rho ++ [q]) H1 locs (cells + 1) (slots + N) ls (hp.trans (List.prefix_append _ _)) (mm_okc (by show h.1.length < _; omega) (fun w hw => mm_ok_mono (by omega) (hst w hw))) hI'
  rw [List.map_cons, mm_map_app (fun w hw => by rw [hI.1]; exact hst w hw)] at this
  simp only [mm_v, hz] at this
  exact this
theorem mr_newa_int (hx : p.tables.exec = Jvm.exec) (hb : c.code = cc) (harr : (Jvm.Cond.arrayClass .int).before args s = true) (hK : va_K D vwCl (mm_tys cT) s) (hA : ∀ q, s.heap.size ≤ q → A q) {n : Int32} {N : Nat} {h' : mm_H} (h0 : ¬ n < 0) (hN : n.toNatClampNeg = N) (hbig : N * 4 ≤ 536870912) (hn : mm_new h (.inr (.inl (0, List.replicate N (0 : Int32)))) N = some h') (hd : decode cc pc = .ok (.newarray .int, 2)) (kk : mm_W p l e R s m args below meth c Q D cT zt A nL rho0 (pc + 2) L (vR h.1.length :: r) h') : mm_W p l e R s m args below meth c Q D cT zt A nL rho0 (pc) L (vI n :: r) h := by
  intro rho H locs cells slots ls hp hst hI
  obtain ⟨b1, b2, b3⟩ := mm_new_of hn
  have q1 := hI.2.2.2.2.2.2.2.1
  have q2 := hI.2.2.2.2.2.2.2.2
  refine va_newa hx hb (atype := .int) harr (ty := .int) rfl hK hI.2.2.2.1 hI.2.2.2.2.1 hI.2.2.2.2.2.1 hA (N' := N) (a0 := (N, .inl fun _ => (0 : Int32))) (fun _ => rfl) h0 hN hbig (by omega) (by omega) hd fun q cA H1 hK1 hP hD hS => ?_
  have hcA : cA = cT 0 := by
    have e1 : va_RA s cA .int := (hK1.2 6 (cA, .int) rfl).2
    have e2 : va_RA s (cT 0) .int := (hK.2 0 _ rfl).2
    exact Option.some.inj (e1.symm.trans e2)
  subst hcA
  have hI' := hI.made (x := .inr (.inl (0, List.replicate N (0 : Int32)))) hn trivial (by simp only [mm_e, List.length_replicate, mm_rep_getD]) hP hD hS
  have hz : (rho ++ [q]).getD h.1.length 0 = q := by rw [← hI.1]; simp [List.getD_eq_getElem?_getD]
  have := kk (rho ++ [q]) H1 locs (cells + 1) (slots + N) ls (hp.trans (List.prefix_append _ _)) (mm_okc (by show h.1.length < _; omega) (fun w hw => mm_ok_mono (by omega) (mm_okt hst w hw))) hI'
  rw [List.map_cons, mm_map_app (fun w hw => by rw [hI.1]; exact mm_okt hst w hw)] at this
  simp only [mm_v, hz] at this
  exact this
theorem mr_newa_byte (hx : p.tables.exec = Jvm.exec) (hb : c.code = cc) (harr : (Jvm.Cond.arrayClass .byte).before args s = true) (hK : va_K D vwCl (mm_tys cT) s) (hA : ∀ q, s.heap.size ≤ q → A q) {n : Int32} {N : Nat} {h' : mm_H} (h0 : ¬ n < 0) (hN : n.toNatClampNeg = N) (hbig : N * 1 ≤ 536870912) (hn : mm_new h (.inr (.inl (1, List.replicate N (0 : Int32)))) N = some h') (hd : decode cc pc = .ok (.newarray .byte, 2)) (kk : mm_W p l e R s m args below meth c Q D cT zt A nL rho0 (pc + 2) L (vR h.1.length :: r) h') : mm_W p l e R s m args below meth c Q D cT zt A nL rho0 (pc) L (vI n :: r) h := by
  intro rho H locs cells slots ls hp hst hI
  obtain ⟨b1, b2, b3⟩ := mm_new_of hn
  have q1 := hI.2.2.2.2.2.2.2.1
  have q2 := hI.2.2.2.2.2.2.2.2
  refine va_newa hx hb (atype := .byte) harr (ty := .byte) rfl hK hI.2.2.2.1 hI.2.2.2.2.1 hI.2.2.2.2.2.1 hA (N' := N) (a0 := (N, .inl fun _ => (0 : Int32))) (fun _ => rfl) h0 hN hbig (by omega) (by omega) hd fun q cA H1 hK1 hP hD hS => ?_
  have hcA : cA = cT 1 := by
    have e1 : va_RA s cA .byte := (hK1.2 6 (cA, .byte) rfl).2
    have e2 : va_RA s (cT 1) .byte := (hK.2 1 _ rfl).2
    exact Option.some.inj (e1.symm.trans e2)
  subst hcA
  have hI' := hI.made (x := .inr (.inl (1, List.replicate N (0 : Int32)))) hn trivial (by simp only [mm_e, List.length_replicate, mm_rep_getD]) hP hD hS
  have hz : (rho ++ [q]).getD h.1.length 0 = q := by rw [← hI.1]; simp [List.getD_eq_getElem?_getD]
  have := kk (rho ++ [q]) H1 locs (cells + 1) (slots + N) ls (hp.trans (List.prefix_append _ _)) (mm_okc (by show h.1.length < _; omega) (fun w hw => mm_ok_mono (by omega) (mm_okt hst w hw))) hI'
  rw [List.map_cons, mm_map_app (fun w hw => by rw [hI.1]; exact mm_okt hst w hw)] at this
  simp only [mm_v, hz] at this
  exact this
theorem mr_newa_char (hx : p.tables.exec = Jvm.exec) (hb : c.code = cc) (harr : (Jvm.Cond.arrayClass .char).before args s = true) (hK : va_K D vwCl (mm_tys cT) s) (hA : ∀ q, s.heap.size ≤ q → A q) {n : Int32} {N : Nat} {h' : mm_H} (h0 : ¬ n < 0) (hN : n.toNatClampNeg = N) (hbig : N * 2 ≤ 536870912) (hn : mm_new h (.inr (.inl (2, List.replicate N (0 : Int32)))) N = some h') (hd : decode cc pc = .ok (.newarray .char, 2)) (kk : mm_W p l e R s m args below meth c Q D cT zt A nL rho0 (pc + 2) L (vR h.1.length :: r) h') : mm_W p l e R s m args below meth c Q D cT zt A nL rho0 (pc) L (vI n :: r) h := by
  intro rho H locs cells slots ls hp hst hI
  obtain ⟨b1, b2, b3⟩ := mm_new_of hn
  have q1 := hI.2.2.2.2.2.2.2.1
  have q2 := hI.2.2.2.2.2.2.2.2
  refine va_newa hx hb (atype := .char) harr (ty := .char) rfl hK hI.2.2.2.1 hI.2.2.2.2.1 hI.2.2.2.2.2.1 hA (N' := N) (a0 := (N, .inl fun _ => (0 : Int32))) (fun _ => rfl) h0 hN hbig (by omega) (by omega) hd fun q cA H1 hK1 hP hD hS => ?_
  have hcA : cA = cT 2 := by
    have e1 : va_RA s cA .char := (hK1.2 6 (cA, .char) rfl).2
    have e2 : va_RA s (cT 2) .char := (hK.2 2 _ rfl).2
    exact Option.some.inj (e1.symm.trans e2)
  subst hcA
  have hI' := hI.made (x := .inr (.inl (2, List.replicate N (0 : Int32)))) hn trivial (by simp only [mm_e, List.length_replicate, mm_rep_getD]) hP hD hS
  have hz : (rho ++ [q]).getD h.1.length 0 = q := by rw [← hI.1]; simp [List.getD_eq_getElem?_getD]
  have := kk (rho ++ [q]) H1 locs (cells + 1) (slots + N) ls (hp.trans (List.prefix_append _ _)) (mm_okc (by show h.1.length < _; omega) (fun w hw => mm_ok_mono (by omega) (mm_okt hst w hw))) hI'
  rw [List.map_cons, mm_map_app (fun w hw => by rw [hI.1]; exact mm_okt hst w hw)] at this
  simp only [mm_v, hz] at this
  exact this
theorem mr_newa_long (hx : p.tables.exec = Jvm.exec) (hb : c.code = cc) (harr : (Jvm.Cond.arrayClass .long).before args s = true) (hK : va_K D vwCl (mm_tys cT) s) (hA : ∀ q, s.heap.size ≤ q → A q) {n : Int32} {N : Nat} {h' : mm_H} (h0 : ¬ n < 0) (hN : n.toNatClampNeg = N) (hbig : N * 8 ≤ 536870912) (hn : mm_new h (.inr (.inr (.inl (List.replicate N (0 : Int64))))) N = some h') (hd : decode cc pc = .ok (.newarray .long, 2)) (kk : mm_W p l e R s m args below meth c Q D cT zt A nL rho0 (pc + 2) L (vR h.1.length :: r) h') : mm_W p l e R s m args below meth c Q D cT zt A nL rho0 (pc) L (vI n :: r) h := by
  intro rho H locs cells slots ls hp hst hI
  obtain ⟨b1, b2, b3⟩ := mm_new_of hn
  have q1 := hI.2.2.2.2.2.2.2.1
  have q2 := hI.2.2.2.2.2.2.2.2
  refine va_newa hx hb (atype := .long) harr (ty := .long) rfl hK hI.2.2.2.1 hI.2.2.2.2.1 hI.2.2.2.2.2.1 hA (N' := N) (a0 := (N, .inr (.inl fun _ => (0 : Int64)))) (fun _ => rfl) h0 hN hbig (by omega) (by omega) hd fun q cA H1 hK1 hP hD hS => ?_
  have hcA : cA = cT 3 := by
    have e1 : va_RA s cA .long := (hK1.2 6 (cA, .long) rfl).2
    have e2 : va_RA s (cT 3) .long := (hK.2 3 _ rfl).2
    exact Option.some.inj (e1.symm.trans e2)
  subst hcA
  have hI' := hI.made (x := .inr (.inr (.inl (List.replicate N (0 : Int64))))) hn trivial (by simp only [mm_e, List.length_replicate, mm_rep_getD]) hP hD hS
  have hz : (rho ++ [q]).getD h.1.length 0 = q := by rw [← hI.1]; simp [List.getD_eq_getElem?_getD]
  have := kk (rho ++ [q]) H1 locs (cells + 1) (slots + N) ls (hp.trans (List.prefix_append _ _)) (mm_okc (by show h.1.length < _; omega) (fun w hw => mm_ok_mono (by omega) (mm_okt hst w hw))) hI'
  rw [List.map_cons, mm_map_app (fun w hw => by rw [hI.1]; exact mm_okt hst w hw)] at this
  simp only [mm_v, hz] at this
  exact this
theorem mr_newq (hx : p.tables.exec = Jvm.exec) (hb : c.code = cc) {own C : String} {index j : Nat} (hown : s.vm.findClass own = some m.cls) (hclink : (Jvm.Cond.classLink own index C).before args s = true) (hover : va_AO C s) (hK : va_K D vwCl (mm_tys cT) s) (ht : (mm_tys cT)[j + 4]? = some (cT (j + 4), .object C)) (hA : ∀ q, s.heap.size ≤ q → A q) {n : Int32} {N : Nat} {h' : mm_H} (h0 : ¬ n < 0) (hN : n.toNatClampNeg = N) (hbig : N * 4 ≤ 536870912) (hn : mm_new h (.inr (.inr (.inr (j, List.replicate N none)))) N = some h') (hd : decode cc pc = .ok (.anewarray index, 3)) (kk : mm_W p l e R s m args below meth c Q D cT zt A nL rho0 (pc + 3) L (vR h.1.length :: r) h') : mm_W p l e R s m args below meth c Q D cT zt A nL rho0 (pc) L (vI n :: r) h := by
  intro rho H locs cells slots ls hp hst hI
  obtain ⟨b1, b2, b3⟩ := mm_new_of hn
  have q1 := hI.2.2.2.2.2.2.2.1
  have q2 := hI.2.2.2.2.2.2.2.2
  refine va_newq hx hb hown hclink hover hK hI.2.2.2.1 hI.2.2.2.2.1 hI.2.2.2.2.2.1 hA (N' := N) h0 hN hbig (by omega) (by omega) hd fun q cA H1 hK1 hP hD hS => ?_
  have hcA : cA = cT (j + 4) := by
    obtain ⟨_, _, _, _, _, e1⟩ := (hK1.2 6 (cA, .object C) rfl).2
    obtain ⟨_, _, _, _, _, e2⟩ := (hK.2 _ _ ht).2
    exact Option.some.inj (e1.symm.trans e2)
  subst hcA
  have hI' := hI.made (x := .inr (.inr (.inr (j, List.replicate N none)))) hn (fun a ha => by simp at ha) (by simp only [mm_e, List.length_replicate, mm_rep_getD, mm_q, Option.map_none]) hP hD hS
  have hz : (rho ++ [q]).getD h.1.length 0 = q := by rw [← hI.1]; simp [List.getD_eq_getElem?_getD]
  have := kk (rho ++ [q]) H1 locs (cells + 1) (slots + N) ls (hp.trans (List.prefix_append _ _)) (mm_okc (by show h.1.length < _; omega) (fun w hw => mm_ok_mono (by omega) (mm_okt hst w hw))) hI'
  rw [List.map_cons, mm_map_app (fun w hw => by rw [hI.1]; exact mm_okt hst w hw)] at this
  simp only [mm_v, hz] at this
  exact this
theorem mr_alen (hx : p.tables.exec = Jvm.exec) (hb : c.code = cc) (hK : va_K D vwCl (mm_tys cT) s) {a : Nat} {n : Int32} (hv : mm_len h a = some n) (hd : decode cc pc = .ok (.arraylength, 1)) (kk : mm_W p l e R s m args below meth c Q D cT zt A nL rho0 (pc + 1) L (vI n :: r) h) : mm_W p l e R s m args below meth c Q D cT zt A nL rho0 (pc) L (vR a :: r) h := by
  intro rho H locs cells slots ls hp hst hI
  have k2 := kk rho H locs cells slots ls hp (mm_okc trivial (mm_okt hst)) hI
  unfold mm_len at hv
  split at hv
  · rename_i q hq
    split at hv
    · rename_i hk
      cases hv
      obtain ⟨kd, xs⟩ := q
      match kd, hk with
      | 0, _ => exact va_alen hx hb hK hI.2.2.2.1 a 0 (mm_at hI hq) rfl rfl hd k2
      | 1, _ => exact va_alen hx hb hK hI.2.2.2.1 a 1 (mm_at hI hq) rfl rfl hd k2
      | 2, _ => exact va_alen hx hb hK hI.2.2.2.1 a 2 (mm_at hI hq) rfl rfl hd k2
    · cases hv
  · rename_i xs hq
    cases hv
    exact va_alen hx hb hK hI.2.2.2.1 a 3 (mm_at hI hq) rfl rfl hd k2
  · rename_i q hq
    split at hv
    · rename_i hk
      cases hv
      obtain ⟨C, T, N, hC, -⟩ := mm_tys_q (cT := cT) hk
      exact va_alen hx hb hK hI.2.2.2.1 a (q.1 + 4) (mm_at hI hq) hC rfl hd k2
    · cases hv
  · cases hv
theorem mm_getD_of {α : Type} {xs : List α} {k : Nat} {x d : α} (h : xs[k]? = some x) : xs.getD k d = x := by simp [List.getD_eq_getElem?_getD, h]
theorem mm_set_getD {α : Type} {xs : List α} {k : Nat} (x d : α) (hk : k < xs.length) (j : Nat) : (xs.set k x).getD j d = if j = k then x else xs.getD j d := by
  by_cases hj : j = k
  · subst hj; simp [List.getD_eq_getElem?_getD, hk]
  · simp [List.getD_eq_getElem?_getD, List.getElem?_set_ne (Ne.symm hj), hj]
theorem mr_iald (hx : p.tables.exec = Jvm.exec) (hb : c.code = cc) (hK : va_K D vwCl (mm_tys cT) s) {a : Nat} {i x : Int32} (hv : mm_iald h a 0 i = some x) (hd : decode cc pc = .ok (.iaload, 1)) (kk : mm_W p l e R s m args below meth c Q D cT zt A nL rho0 (pc + 1) L (vI x :: r) h) : mm_W p l e R s m args below meth c Q D cT zt A nL rho0 (pc) L (vI i :: vR a :: r) h := by
  intro rho H locs cells slots ls hp hst hI
  simp only [mm_iald, Option.bind_eq_some_iff] at hv
  obtain ⟨xs, h1, k, h2, h3⟩ := hv
  obtain ⟨g1, g2, g3⟩ := mm_ix_of h2
  refine va_iald hx hb hK hI.2.2.2.1 a 0 (mm_at hI (mm_int_of h1)) rfl g1 hd ?_
  rw [g2, mm_getD_of h3]
  exact kk rho H locs cells slots ls hp (mm_okc trivial (mm_okt (mm_okt hst))) hI
theorem mr_iast (hx : p.tables.exec = Jvm.exec) (hb : c.code = cc) (hK : va_K D vwCl (mm_tys cT) s) {a : Nat} {i x : Int32} {h' : mm_H} (hv : mm_iast h a 0 i (x) = some h') (hd : decode cc pc = .ok (.iastore, 1)) (kk : mm_W p l e R s m args below meth c Q D cT zt A nL rho0 (pc + 1) L (r) h') : mm_W p l e R s m args below meth c Q D cT zt A nL rho0 (pc) L (vI x :: vI i :: vR a :: r) h := by
  intro rho H locs cells slots ls hp hst hI
  simp only [mm_iast, Option.bind_eq_some_iff, Option.map_eq_some_iff] at hv
  obtain ⟨xs, h1, k, h2, rfl⟩ := hv
  obtain ⟨g1, g2, g3⟩ := mm_ix_of h2
  refine va_iast hx hb hK hI.2.2.2.1 hI.2.2.2.2.1 hI.2.2.2.2.2.1 a 0 (mm_at hI (mm_int_of h1)) rfl g1 hd fun H1 locs1 hP hD hS => ?_
  have hE : (Sum.inl (cT 0, xs.length, .inl (upd (fun j => xs.getD j 0) i.toNatClampNeg (x))) : va_E) = mm_e rho zt cT (.inr (.inl (0, xs.set k (x)))) := by
    simp only [mm_e, List.length_set]
    have hf : upd (fun j => xs.getD j 0) i.toNatClampNeg (x) = fun j => (xs.set k (x)).getD j 0 := by
      funext j
      rw [mm_set_getD (x) 0 g3 j, g2]
      rfl
    rw [hf]
  exact kk rho H1 locs1 cells slots ls hp (by rw [List.length_set]; exact mm_okt (mm_okt (mm_okt hst))) (hI.wrote (mm_int_of h1) trivial (by rw [← hE]; exact hP) (by rw [← hE]; exact hD) hS)
theorem mr_bald (hx : p.tables.exec = Jvm.exec) (hb : c.code = cc) (hK : va_K D vwCl (mm_tys cT) s) {a : Nat} {i x : Int32} (hv : mm_iald h a 1 i = some x) (hd : decode cc pc = .ok (.baload, 1)) (kk : mm_W p l e R s m args below meth c Q D cT zt A nL rho0 (pc + 1) L (vI x :: r) h) : mm_W p l e R s m args below meth c Q D cT zt A nL rho0 (pc) L (vI i :: vR a :: r) h := by
  intro rho H locs cells slots ls hp hst hI
  simp only [mm_iald, Option.bind_eq_some_iff] at hv
  obtain ⟨xs, h1, k, h2, h3⟩ := hv
  obtain ⟨g1, g2, g3⟩ := mm_ix_of h2
  refine va_bald hx hb hK hI.2.2.2.1 a 1 (mm_at hI (mm_int_of h1)) rfl g1 hd ?_
  rw [g2, mm_getD_of h3]
  exact kk rho H locs cells slots ls hp (mm_okc trivial (mm_okt (mm_okt hst))) hI
theorem mr_bast (hx : p.tables.exec = Jvm.exec) (hb : c.code = cc) (hK : va_K D vwCl (mm_tys cT) s) {a : Nat} {i x : Int32} {h' : mm_H} (hv : mm_iast h a 1 i (vp_nar .byte x) = some h') (hd : decode cc pc = .ok (.bastore, 1)) (kk : mm_W p l e R s m args below meth c Q D cT zt A nL rho0 (pc + 1) L (r) h') : mm_W p l e R s m args below meth c Q D cT zt A nL rho0 (pc) L (vI x :: vI i :: vR a :: r) h := by
  intro rho H locs cells slots ls hp hst hI
  simp only [mm_iast, Option.bind_eq_some_iff, Option.map_eq_some_iff] at hv
  obtain ⟨xs, h1, k, h2, rfl⟩ := hv
  obtain ⟨g1, g2, g3⟩ := mm_ix_of h2
  refine va_bast hx hb hK hI.2.2.2.1 hI.2.2.2.2.1 hI.2.2.2.2.2.1 a 1 (mm_at hI (mm_int_of h1)) rfl g1 hd fun H1 locs1 hP hD hS => ?_
  have hE : (Sum.inl (cT 1, xs.length, .inl (upd (fun j => xs.getD j 0) i.toNatClampNeg (vp_nar .byte x))) : va_E) = mm_e rho zt cT (.inr (.inl (1, xs.set k (vp_nar .byte x)))) := by
    simp only [mm_e, List.length_set]
    have hf : upd (fun j => xs.getD j 0) i.toNatClampNeg (vp_nar .byte x) = fun j => (xs.set k (vp_nar .byte x)).getD j 0 := by
      funext j
      rw [mm_set_getD (vp_nar .byte x) 0 g3 j, g2]
      rfl
    rw [hf]
  exact kk rho H1 locs1 cells slots ls hp (by rw [List.length_set]; exact mm_okt (mm_okt (mm_okt hst))) (hI.wrote (mm_int_of h1) trivial (by rw [← hE]; exact hP) (by rw [← hE]; exact hD) hS)
theorem mr_cald (hx : p.tables.exec = Jvm.exec) (hb : c.code = cc) (hK : va_K D vwCl (mm_tys cT) s) {a : Nat} {i x : Int32} (hv : mm_iald h a 2 i = some x) (hd : decode cc pc = .ok (.caload, 1)) (kk : mm_W p l e R s m args below meth c Q D cT zt A nL rho0 (pc + 1) L (vI x :: r) h) : mm_W p l e R s m args below meth c Q D cT zt A nL rho0 (pc) L (vI i :: vR a :: r) h := by
  intro rho H locs cells slots ls hp hst hI
  simp only [mm_iald, Option.bind_eq_some_iff] at hv
  obtain ⟨xs, h1, k, h2, h3⟩ := hv
  obtain ⟨g1, g2, g3⟩ := mm_ix_of h2
  refine va_cald hx hb hK hI.2.2.2.1 a 2 (mm_at hI (mm_int_of h1)) rfl g1 hd ?_
  rw [g2, mm_getD_of h3]
  exact kk rho H locs cells slots ls hp (mm_okc trivial (mm_okt (mm_okt hst))) hI
theorem mr_cast (hx : p.tables.exec = Jvm.exec) (hb : c.code = cc) (hK : va_K D vwCl (mm_tys cT) s) {a : Nat} {i x : Int32} {h' : mm_H} (hv : mm_iast h a 2 i (vp_nar .char x) = some h') (hd : decode cc pc = .ok (.castore, 1)) (kk : mm_W p l e R s m args below meth c Q D cT zt A nL rho0 (pc + 1) L (r) h') : mm_W p l e R s m args below meth c Q D cT zt A nL rho0 (pc) L (vI x :: vI i :: vR a :: r) h := by
  intro rho H locs cells slots ls hp hst hI
  simp only [mm_iast, Option.bind_eq_some_iff, Option.map_eq_some_iff] at hv
  obtain ⟨xs, h1, k, h2, rfl⟩ := hv
  obtain ⟨g1, g2, g3⟩ := mm_ix_of h2
  refine va_cast hx hb hK hI.2.2.2.1 hI.2.2.2.2.1 hI.2.2.2.2.2.1 a 2 (mm_at hI (mm_int_of h1)) rfl g1 hd fun H1 locs1 hP hD hS => ?_
  have hE : (Sum.inl (cT 2, xs.length, .inl (upd (fun j => xs.getD j 0) i.toNatClampNeg (vp_nar .char x))) : va_E) = mm_e rho zt cT (.inr (.inl (2, xs.set k (vp_nar .char x)))) := by
    simp only [mm_e, List.length_set]
    have hf : upd (fun j => xs.getD j 0) i.toNatClampNeg (vp_nar .char x) = fun j => (xs.set k (vp_nar .char x)).getD j 0 := by
      funext j
      rw [mm_set_getD (vp_nar .char x) 0 g3 j, g2]
      rfl
    rw [hf]
  exact kk rho H1 locs1 cells slots ls hp (by rw [List.length_set]; exact mm_okt (mm_okt (mm_okt hst))) (hI.wrote (mm_int_of h1) trivial (by rw [← hE]; exact hP) (by rw [← hE]; exact hD) hS)
theorem mr_lald (hx : p.tables.exec = Jvm.exec) (hb : c.code = cc) (hK : va_K D vwCl (mm_tys cT) s) {a : Nat} {i : Int32} {x : Int64} (hv : mm_lald h a i = some x) (hd : decode cc pc = .ok (.laload, 1)) (kk : mm_W p l e R s m args below meth c Q D cT zt A nL rho0 (pc + 1) L (vJ x :: r) h) : mm_W p l e R s m args below meth c Q D cT zt A nL rho0 (pc) L (vI i :: vR a :: r) h := by
  intro rho H locs cells slots ls hp hst hI
  simp only [mm_lald, Option.bind_eq_some_iff] at hv
  obtain ⟨xs, h1, k, h2, h3⟩ := hv
  obtain ⟨g1, g2, g3⟩ := mm_ix_of h2
  refine va_lald hx hb hK hI.2.2.2.1 a 3 (mm_at hI (mm_lng_of h1)) rfl g1 hd ?_
  rw [g2, mm_getD_of h3]
  exact kk rho H locs cells slots ls hp (mm_okc trivial (mm_okt (mm_okt hst))) hI
theorem mr_last (hx : p.tables.exec = Jvm.exec) (hb : c.code = cc) (hK : va_K D vwCl (mm_tys cT) s) {a : Nat} {i : Int32} {x : Int64} {h' : mm_H} (hv : mm_last h a i x = some h') (hd : decode cc pc = .ok (.lastore, 1)) (kk : mm_W p l e R s m args below meth c Q D cT zt A nL rho0 (pc + 1) L (r) h') : mm_W p l e R s m args below meth c Q D cT zt A nL rho0 (pc) L (vJ x :: vI i :: vR a :: r) h := by
  intro rho H locs cells slots ls hp hst hI
  simp only [mm_last, Option.bind_eq_some_iff, Option.map_eq_some_iff] at hv
  obtain ⟨xs, h1, k, h2, rfl⟩ := hv
  obtain ⟨g1, g2, g3⟩ := mm_ix_of h2
  refine va_last hx hb hK hI.2.2.2.1 hI.2.2.2.2.1 hI.2.2.2.2.2.1 a 3 (mm_at hI (mm_lng_of h1)) rfl g1 hd fun H1 locs1 hP hD hS => ?_
  have hE : (Sum.inl (cT 3, xs.length, .inr (.inl (vp_updL (fun j => xs.getD j 0) i.toNatClampNeg x))) : va_E) = mm_e rho zt cT (.inr (.inr (.inl (xs.set k x)))) := by
    simp only [mm_e, List.length_set]
    have hf : vp_updL (fun j => xs.getD j 0) i.toNatClampNeg x = fun j => (xs.set k x).getD j 0 := by
      funext j
      rw [mm_set_getD x 0 g3 j, g2]
      rfl
    rw [hf]
  exact kk rho H1 locs1 cells slots ls hp (by rw [List.length_set]; exact mm_okt (mm_okt (mm_okt hst))) (hI.wrote (mm_lng_of h1) trivial (by rw [← hE]; exact hP) (by rw [← hE]; exact hD) hS)
theorem mr_aald (hx : p.tables.exec = Jvm.exec) (hb : c.code = cc) (hK : va_K D vwCl (mm_tys cT) s) {a : Nat} {i : Int32} {y : Option Nat} (hv : mm_aald h a i = some y) (hd : decode cc pc = .ok (.aaload, 1)) (kk : mm_W p l e R s m args below meth c Q D cT zt A nL rho0 (pc + 1) L (vQ y :: r) h) : mm_W p l e R s m args below meth c Q D cT zt A nL rho0 (pc) L (vI i :: vR a :: r) h := by
  intro rho H locs cells slots ls hp hst hI
  simp only [mm_aald, Option.bind_eq_some_iff] at hv
  obtain ⟨q, h1, k, h2, h3⟩ := hv
  obtain ⟨g1, g2, g3⟩ := mm_ix_of h2
  obtain ⟨h1, hq2⟩ := mm_refs_of h1
  obtain ⟨C, T, N, hC, -⟩ := mm_tys_q (cT := cT) hq2
  refine va_aldq hx hb hK hI.2.2.2.1 a (q.1 + 4) (mm_at hI h1) hC g1 hd ?_
  rw [g2, mm_getD_of h3, ← mm_vQ (zt := zt)]
  refine kk rho H locs cells slots ls hp (mm_okc ?_ (mm_okt (mm_okt hst))) hI
  cases y with
  | none => trivial
  | some b => exact hI.2.1 _ (List.mem_of_getElem? h1) b (List.mem_of_getElem? h3)
theorem mr_aast (hx : p.tables.exec = Jvm.exec) (hb : c.code = cc) (hK : va_K D vwCl (mm_tys cT) s) {a : Nat} {i : Int32} {y : Option Nat} {h' : mm_H} (hv : mm_aast h a i y = some h') (hd : decode cc pc = .ok (.aastore, 1)) (kk : mm_W p l e R s m args below meth c Q D cT zt A nL rho0 (pc + 1) L (r) h') : mm_W p l e R s m args below meth c Q D cT zt A nL rho0 (pc) L (vQ y :: vI i :: vR a :: r) h := by
  intro rho H locs cells slots ls hp hst hI
  simp only [mm_aast, Option.bind_eq_some_iff] at hv
  obtain ⟨q, h1, hv⟩ := hv
  split at hv
  · rename_i hof
    simp only [Option.map_eq_some_iff] at hv
    obtain ⟨k, h2, rfl⟩ := hv
    obtain ⟨g1, g2, g3⟩ := mm_ix_of h2
    obtain ⟨h1, hq2⟩ := mm_refs_of h1
    obtain ⟨C, T, N, hC, hcl⟩ := mm_tys_q (cT := cT) hq2
    have hE : ∀ y0 : Option Nat, mm_q rho y = y0 → (Sum.inl (cT (q.1 + 4), q.2.length, .inr (.inr (.inr (.inr (va_up (fun j => mm_q rho (q.2.getD j none)) i.toNatClampNeg y0))))) : va_E) = mm_e rho zt cT (.inr (.inr (.inr (q.1, q.2.set k y)))) := by
      intro y0 hy
      have hf : va_up (fun j => mm_q rho (q.2.getD j none)) i.toNatClampNeg y0 = fun j => mm_q rho ((q.2.set k y).getD j none) := by
        funext j
        rw [mm_set_getD y none g3 j, g2]
        simp only [va_up]
        split
        · rw [hy]
        · rfl
      simp only [mm_e, List.length_set]
      rw [hf]
    have hok : mm_okO h.1.length (.inr (.inr (.inr (q.1, q.2.set k y)))) := by
      intro b hb2
      rcases mm_mem_set hb2 with z | z
      · exact hI.2.1 _ (List.mem_of_getElem? h1) b z
      · have := mm_okh hst
        rw [← z] at this
        exact this
    cases y with
    | none =>
      refine va_astqN hx hb hK hI.2.2.2.1 hI.2.2.2.2.1 hI.2.2.2.2.2.1 a (q.1 + 4) (mm_at hI h1) hC g1 hd fun H1 locs1 hP hD hS => ?_
      exact kk rho H1 locs1 cells slots ls hp (by rw [List.length_set]; exact mm_okt (mm_okt (mm_okt hst))) (hI.wrote h1 hok (by rw [← hE none rfl]; exact hP) (by rw [← hE none rfl]; exact hD) hS)
    | some b =>
      simp only [mm_of] at hof
      split at hof
      · rename_i cq fs hcell
        have hcq : cq = mm_el q.1 := by simpa using hof
        subst hcq
        refine va_astq hx hb hK hI.2.2.2.1 hI.2.2.2.2.1 hI.2.2.2.2.2.1 a (q.1 + 4) b (mm_el q.1) (mm_at hI h1) hC (mm_at hI hcell) hcl g1 hd fun H1 locs1 hP hD hS => ?_
        exact kk rho H1 locs1 cells slots ls hp (by rw [List.length_set]; exact mm_okt (mm_okt (mm_okt hst))) (hI.wrote h1 hok (by rw [← hE (some (rho.getD b 0)) rfl]; exact hP) (by rw [← hE (some (rho.getD b 0)) rfl]; exact hD) hS)
      · cases hof
  · cases hv
theorem mr_zlen (hx : p.tables.exec = Jvm.exec) (hb : c.code = cc) {j n : Nat} {f : Nat → Value} (hT : va_T .int (zt j) n f A s s.heap) (hd : decode cc pc = .ok (.arraylength, 1)) (kk : mm_W p l e R s m args below meth c Q D cT zt A nL rho0 (pc + 1) L (vI (Int32.ofNat n) :: r) h) : mm_W p l e R s m args below meth c Q D cT zt A nL rho0 (pc) L (vZ j :: r) h :=
  fun rho H locs cells slots ls hp hst hI => va_tlen hx hb hT hI.2.2.2.2.2.1 rfl hd (kk rho H locs cells slots ls hp (mm_okc trivial (mm_okt hst)) hI)
theorem mr_zald (hx : p.tables.exec = Jvm.exec) (hb : c.code = cc) {Z : Nat → List Int32} {j : Nat} (hT : va_T .int (zt j) (Z j).length (fun k => .int ((Z j).getD k 0)) A s s.heap) {i x : Int32} (hv : mm_zald Z j i = some x) (hd : decode cc pc = .ok (.iaload, 1)) (kk : mm_W p l e R s m args below meth c Q D cT zt A nL rho0 (pc + 1) L (vI x :: r) h) : mm_W p l e R s m args below meth c Q D cT zt A nL rho0 (pc) L (vI i :: vZ j :: r) h := by
  intro rho H locs cells slots ls hp hst hI
  simp only [mm_zald, Option.bind_eq_some_iff] at hv
  obtain ⟨k, h2, h3⟩ := hv
  obtain ⟨g1, g2, g3⟩ := mm_ix_of h2
  exact va_ti hx hb hT hI.2.2.2.2.2.1 g1 (v := .int x) (by rw [g2, mm_getD_of h3]) hd (kk rho H locs cells slots ls hp (mm_okc trivial (mm_okt (mm_okt hst))) hI)
theorem mr_getsN (hx : p.tables.exec = Jvm.exec) (hb : c.code = cc) {C n d own host : String} {index j : Nat} (hZ : va_Z C n d (.ref (zt j)) A s s.heap) (hown : s.vm.findClass own = some m.cls) (hl : (Jvm.Cond.fieldLinkNest own index C n d host).before args s = true) (hd : decode cc pc = .ok (.getstatic index, 3)) (kk : mm_W p l e R s m args below meth c Q D cT zt A nL rho0 (pc + 3) L (vZ j :: r) h) : mm_W p l e R s m args below meth c Q D cT zt A nL rho0 (pc) L (r) h :=
  fun rho H locs cells slots ls hp hst hI => va_getsN hx hb hZ hI.2.2.2.2.2.1 hown hl (fun _ z => z) hd (kk rho H locs cells slots ls hp (mm_okc trivial hst) hI)
theorem mr_objInit (hx : p.tables.exec = Jvm.exec) (hb : c.code = cc) {own : String} {idx : Nat} (hml : c.maxLocals = nL) (hown : s.vm.findClass own = some m.cls) (hlink : (Jvm.Cond.methodLink own idx Lib.objectInit).before args s = true) (hinst : (Jvm.Cond.instanceMethod Lib.objectInit).before args s = true) (hcode : (Jvm.Cond.code Lib.objectInit ⟨#[0xb1]⟩ 1 none).before args s = true) (hfr : 1 ≤ R.frames) (hlo : 44 ≤ R.locals) (hlen : r.length ≤ 16) {a : Nat} (hd : decode cc pc = .ok (.invokespecial idx, 3)) (kk : mm_W p l e R s m args below meth c Q D cT zt A nL rho0 (pc + 3) L (r) h) : mm_W p l e R s m args below meth c Q D cT zt A nL rho0 (pc) L (vR a :: r) h := by
  intro rho H locs cells slots ls hp hst hI
  refine W.objInit hx hb hown hlink hinst hcode rfl (by rw [hml]; exact hI.2.2.2.2.2.2.1.2.1) rfl hd hfr ?_ (kk rho H locs cells slots ls hp (mm_okt hst) hI)
  have hcat : ∀ (l : List Value), (l.map fun v => v.category).sum ≤ 2 * l.length := by
    intro l
    induction l with
    | nil => simp
    | cons v l ih =>
      have := lv_cat v
      simp only [List.map_cons, List.sum_cons, List.length_cons]
      omega
  have := hcat (r.map (mm_v rho zt))
  rw [List.length_map] at this
  show 2 * 0 + _ + 12 ≤ _
  omega
end MR
end
section
/-! FRAMES, ENDS, CALLS of the small machine over the real one -/
def mm_thr (x : Addr) (C : String) (t : State) : Prop := ∃ cell : Cell, t.heap[x]? = some cell ∧ cell.vm.isStatics = false ∧ t.vm.findClass C = some cell.cls
def mm_out (h' : mm_H) (rho : List Nat) (zt : Nat → Nat) (r : mm_A) (o : Outcome) (t : State) : Prop := match r with
  | .inl v => o = .returned (v.map (mm_v rho zt)) ∧ ∀ w, v = some w → mm_ok h'.1.length w
  | .inr ex => ∃ x, o = .threw x ∧ mm_thr x (mm_ex ex) t
/-- a method's end: what its answer and its heap are; what has changed -/
def mm_End (R : Room) (s : State) (below : List Frame) (D : va_G) (cT : Nat → ClassId) (zt : Nat → Nat) (A : Nat → Prop) (rho0 : List Nat) (Post : mm_A → mm_H → Prop) : State → Prop := fun t => ∃ (r : mm_A) (h' : mm_H) (rho : List Nat) (o : Outcome) (Lc : List Loc) (k n : Nat), Post r h' ∧ t.status = .running ∧ Ended t below o ∧ mm_out h' rho zt r o t ∧ s.WarmedH t.vm ∧ s.sameButNew ({ t with vm := s.vm } : State) Lc k n ∧ rho0 <+: rho ∧ rho.length = h'.1.length ∧ (∀ x ∈ h'.1, mm_okO h'.1.length x) ∧ va_P D vwCl (mm_w rho zt cT h'.1) t.heap ∧ va_D A (mm_w rho zt cT h'.1) ∧ va_S A s.heap t.heap Lc ∧ k + h'.2.1 ≤ R.cells ∧ n + h'.2.2 ≤ R.slots
/-- a static of Throwable: it is laid, and holds a reference or null -/
def mm_Zl (C n d : String) (A : Nat → Prop) (s : State) : Prop := va_Zq C n d A s s.heap ∧ ∀ args : Array Value, (Jvm.Cond.laysStatic C n d).before args s = true
theorem mm_Zl_of {C n d : String} {A : Nat → Prop} {s : State} {args : Array Value} (h : va_Zq C n d A s s.heap) (hl : (Jvm.Cond.laysStatic C n d).before args s = true) : mm_Zl C n d A s := by
  refine ⟨h, fun a' => ?_⟩
  obtain ⟨c, k, i, f, a, cell, hc, hi, hst, ha, hcell, hs, hcls, hlt, hty⟩ := Cond.laysStatic_spec hl
  exact Cond.laysStatic_of hc hi hst ha hcell hs hcls hlt hty
theorem mm_Zl.moved {C n d : String} {s U : State} {A B : Nat → Prop} (hvm : s.vm.Alike U.vm) (hk : ∀ q : Nat, q < s.heap.size → ¬ A q → U.heap[q]? = s.heap[q]?) (hAB : ∀ q, B q → A q) (h : mm_Zl C n d A s) : mm_Zl C n d B U := by
  obtain ⟨hz, hl⟩ := h
  refine ⟨?_, fun a' => ?_⟩
  · have h1 := (hz.kept hk).moved hvm
    rcases h1 with h1 | ⟨t, h1⟩
    · exact Or.inl (h1.narrow hAB)
    · exact Or.inr ⟨t, h1.narrow hAB⟩
  · obtain ⟨c, k, i, f, a, cell, hc, hi, hst, ha, hcell, hs, hcls, hlt, hty⟩ := Cond.laysStatic_spec (hl #[])
    have hna : ¬ A a := by
      rcases hz with ⟨cf, kf, fi, f2, a2, cell2, h1, h2, h3, h4, h5, h6, h7, h8⟩ | ⟨t, cf, kf, fi, f2, a2, cell2, h1, h2, h3, h4, h5, h6, h7, h8⟩
      · cases hi.symm.trans h1
        cases ha.symm.trans h4
        exact h8
      · cases hi.symm.trans h1
        cases ha.symm.trans h4
        exact h8
    obtain ⟨k', hi', hek⟩ := State.fieldFound?_setVm hvm hi
    have hi2 : U.fieldFound? C n d = some (c, k', i, f) := by simpa only [State.fieldFound?, State.vm_setVm] using hi'
    exact Cond.laysStatic_of (by rw [hvm.findClass]; exact hc) hi2 hst (by rw [hek]; exact ha) (by rw [hk a (Array.getElem?_eq_some_iff.mp hcell).1 hna]; exact hcell) hs hcls hlt (by rw [hek]; exact hty)
/-- the constant array of the class; the two statics of Throwable that hold a reference or null -/
def mm_Zs (Z : Nat → List Int32) (s : State) (zt : Nat → Nat) (A : Nat → Prop) : Prop :=
  va_Z "LispForge" "STEP_LENGTHS" "[I" (.ref (zt 0)) A s s.heap ∧ (∀ j, j < 2 → va_T .int (zt j) (Z j).length (fun k => .int ((Z j).getD k 0)) A s s.heap) ∧ mm_Zl "java/lang/Throwable" "UNASSIGNED_STACK" "[Ljava/lang/StackTraceElement;" A s ∧ mm_Zl "java/lang/Throwable" "SUPPRESSED_SENTINEL" "Ljava/util/List;" A s
/-- what the tables say at a frame's start -/
def mm_T (Z : Nat → List Int32) (s : State) (D : va_G) (cT : Nat → ClassId) (zt : Nat → Nat) (A : Nat → Prop) : Prop :=
  (∀ w ∈ lw_tbl, mm_gd w = true → w.before #[] s = true) ∧ va_K D vwCl (mm_tys cT) s ∧ (∀ C ∈ mm_over, va_AO C s) ∧ mm_Zs Z s zt A
/-- a frame of the method mi, d frames of room under it -/
def mm_F (Z : Nat → List Int32) (mi d : Nat) (p : Program) (e : Env) (R : Room) (s : State) (m : MethodId) (meth : Method) (c : Code) (D : va_G) (cT : Nat → ClassId) (zt : Nat → Nat) (A : Nat → Prop) : Prop :=
  p.tables.exec = Jvm.exec ∧ e.platform.stackTraces = false ∧ c.code = mm_cd mi ∧ meth.sig.returnType = mm_rt mi ∧ c.maxLocals = mm_ml mi ∧ s.vm.findClass (mm_nm mi).cls = some m.cls ∧ meth.name = (mm_nm mi).name ∧ meth.locks = false ∧ c.exceptionTable.toList.map mm_et = mm_hd mi ∧ d ≤ R.frames ∧ 64 * d ≤ R.locals ∧ (∀ q, s.heap.size ≤ q → A q) ∧ mm_T Z s D cT zt A
/-- THE CONTRACT: the method mi, called with the values vs over the heap h, ends, and Post holds of answer and heap -/
def mm_G (Z : Nat → List Int32) (d mi : Nat) (vs : List mm_V) (h : mm_H) (Post : mm_A → mm_H → Prop) : Prop :=
  ∀ (p : Program) (l : Launch) (e : Env) (R : Room) (s : State) (m : MethodId) (below : List Frame) (meth : Method) (c : Code) (D : va_G) (cT : Nat → ClassId) (zt : Nat → Nat) (A : Nat → Prop) (rho : List Nat), mm_F Z mi d p e R s m meth c D cT zt A → (∀ v ∈ vs, mm_ok h.1.length v) → rho.length = h.1.length → (∀ x ∈ h.1, mm_okO h.1.length x) → va_P D vwCl (mm_w rho zt cT h.1) s.heap → va_D A (mm_w rho zt cT h.1) → h.2.1 ≤ R.cells → h.2.2 ≤ R.slots →
    W p l e R s m (vs.map (mm_v rho zt)).toArray below meth c s.heap [] 0 0 (mm_End R s below D cT zt A rho Post) (entryFrame m (vs.map (mm_v rho zt)).toArray (mm_ml mi))
/-- at the place pc of the method mi -/
def mm_P (Z : Nat → List Int32) (d mi pc : Nat) (L : mm_L) (st : List mm_V) (h : mm_H) (Post : mm_A → mm_H → Prop) : Prop :=
  ∀ (p : Program) (l : Launch) (e : Env) (R : Room) (s : State) (m : MethodId) (args : Array Value) (below : List Frame) (meth : Method) (c : Code) (D : va_G) (cT : Nat → ClassId) (zt : Nat → Nat) (A : Nat → Prop) (rho0 : List Nat), mm_F Z mi d p e R s m meth c D cT zt A → mm_W p l e R s m args below meth c (mm_End R s below D cT zt A rho0 Post) D cT zt A (mm_ml mi) rho0 pc L st h
/-! the entry -/
def mm_argsL : List mm_V → mm_L
  | [] => []
  | v :: vs => match v with
    | .inr (.inl x) => some (vJ x) :: none :: mm_argsL vs
    | v => some v :: mm_argsL vs
def mm_ent (n : Nat) (vs : List mm_V) : mm_L := mm_argsL vs ++ List.replicate (n - (mm_argsL vs).length) none
theorem mm_sl_len (rho : List Nat) (zt : Nat → Nat) : ∀ vs : List mm_V, (lg_sl (vs.map (mm_v rho zt))).length = (mm_argsL vs).length
  | [] => rfl
  | v :: vs => by
    have ih := mm_sl_len rho zt vs
    unfold lg_sl at ih ⊢
    rw [List.map_cons, List.flatMap_cons, List.length_append, ih]
    obtain x | x | (_ | a) | j := v <;> simp [mm_v, Value.category, mm_argsL] <;> omega
theorem mm_args_mem (rho : List Nat) (zt : Nat → Nat) : ∀ (vs : List mm_V) (b i : Nat) (v : mm_V), (mm_argsL vs)[i]? = some (some v) → (b + i, mm_v rho zt v) ∈ lv_args b (vs.map (mm_v rho zt))
  | [], b, i, v, h => by simp [mm_argsL] at h
  | w :: vs, b, i, v, h => by
    rw [List.map_cons]
    unfold lv_args
    have ih := mm_args_mem rho zt vs
    obtain x | x | (_ | a) | j := w
    · cases i with
      | zero => simp [mm_argsL] at h; subst h; exact List.mem_cons_self
      | succ i => simp [mm_argsL] at h; refine List.mem_cons_of_mem _ ?_; have := ih (b + 1) i v h; rw [if_neg (by simp [mm_v, Value.category])]; rw [show b + (i + 1) = b + 1 + i by omega]; exact this
    · cases i with
      | zero => simp [mm_argsL] at h; subst h; exact List.mem_cons_self
      | succ i => cases i with
        | zero => simp [mm_argsL] at h
        | succ i => simp [mm_argsL] at h; refine List.mem_cons_of_mem _ ?_; have := ih (b + 2) i v h; rw [if_pos (by simp [mm_v, Value.category])]; rw [show b + (i + 1 + 1) = b + 2 + i by omega]; exact this
    · cases i with
      | zero => simp [mm_argsL] at h; subst h; exact List.mem_cons_self
      | succ i => simp [mm_argsL] at h; refine List.mem_cons_of_mem _ ?_; have := ih (b + 1) i v h; rw [if_neg (by simp [mm_v, Value.category])]; rw [show b + (i + 1) = b + 1 + i by omega]; exact this
    · cases i with
      | zero => simp [mm_argsL] at h; subst h; exact List.mem_cons_self
      | succ i => simp [mm_argsL] at h; refine List.mem_cons_of_mem _ ?_; have := ih (b + 1) i v h; rw [if_neg (by simp [mm_v, Value.category])]; rw [show b + (i + 1) = b + 1 + i by omega]; exact this
    · cases i with
      | zero => simp [mm_argsL] at h; subst h; exact List.mem_cons_self
      | succ i => simp [mm_argsL] at h; refine List.mem_cons_of_mem _ ?_; have := ih (b + 1) i v h; rw [if_neg (by simp [mm_v, Value.category])]; rw [show b + (i + 1) = b + 1 + i by omega]; exact this
theorem mm_args_in : ∀ (vs : List mm_V) (v : mm_V), some v ∈ mm_argsL vs → v ∈ vs
  | [], v, h => by simp [mm_argsL] at h
  | w :: vs, v, h => by
    have ih := mm_args_in vs v
    obtain x | x | (_ | a) | j := w <;> simp [mm_argsL] at h <;> rcases h with h | h <;> simp_all
theorem mm_rep_in {n : Nat} {v : mm_V} {l : mm_L} (h : some v ∈ l ++ List.replicate n none) : some v ∈ l := by
  rcases List.mem_append.mp h with h | h
  · exact h
  · simp at h
/-- a method's contract from its first place -/
theorem mm_G_of {Z : Nat → List Int32} {d mi : Nat} {vs : List mm_V} {h : mm_H} {Post : mm_A → mm_H → Prop} (hn : (mm_argsL vs).length ≤ mm_ml mi) (k : mm_P Z d mi 0 (mm_ent (mm_ml mi) vs) [] h Post) : mm_G Z d mi vs h Post := by
  intro p l e R s m below meth c D cT zt A rho hF hvs hl hok hP hD h1 h2
  have hle : (lg_sl (vs.map (mm_v rho zt))).length ≤ mm_ml mi := by rw [mm_sl_len]; exact hn
  have hls := lv_entry (vs.map (mm_v rho zt)) hle
  rw [lg_entry_eq]
  generalize (lg_sl (vs.map (mm_v rho zt)) ++ List.replicate (mm_ml mi - (lg_sl (vs.map (mm_v rho zt))).length) Slot.unset).toArray = ls at hls ⊢
  refine k p l e R s m _ below meth c D cT zt A rho hF rho s.heap [] 0 0 ls (List.prefix_refl _) (fun v hv => by cases hv) ⟨hl, hok, fun v hv => hvs v (mm_args_in vs v (mm_rep_in hv)), hP, hD, va_S.rf, ⟨?_, hls.1, hls.2.1, fun i v hi => ?_⟩, by omega, by omega⟩
  · simp only [mm_ent, List.length_append, List.length_replicate]; omega
  · have hi2 : (mm_argsL vs)[i]? = some (some v) := by
      unfold mm_ent at hi
      by_cases hil : i < (mm_argsL vs).length
      · rwa [List.getElem?_append_left hil] at hi
      · rw [List.getElem?_append_right (by omega), List.getElem?_replicate] at hi
        split at hi <;> cases hi
    have := mm_args_mem rho zt vs 0 i v hi2
    rw [Nat.zero_add] at this
    exact hls.2.2 _ this
section ME
variable {Z : Nat → List Int32} {p : Program} {l : Launch} {e : Env} {R : Room} {s : State} {m : MethodId} {args : Array Value} {below : List Frame} {meth : Method} {c : Code} {Post : mm_A → mm_H → Prop} {D : va_G} {cT : Nat → ClassId} {zt : Nat → Nat} {A : Nat → Prop} {nL : Nat} {rho0 : List Nat} {cc : ByteArray} {pc : Nat} {L : mm_L} {h : mm_H}
theorem mr_vret (hx : p.tables.exec = Jvm.exec) (hb : c.code = cc) (hr : meth.sig.returnType = none) (hlk : meth.locks = false) (hd : decode cc pc = .ok (.return_, 1)) (hq : Post aV h) : mm_W p l e R s m args below meth c (mm_End R s below D cT zt A rho0 Post) D cT zt A nL rho0 pc L [] h := by
  intro rho H locs cells slots ls hp hst hI T hT X
  obtain ⟨fs, hret, hrun, hended, hW, hframe⟩ := X.leave (v := none) (fun _ => rfl) hlk
  have hmeth' : T.vm.method? m = some meth := X.method'
  have hh : (T.setFrames fs).heap = H := hT
  refine ⟨T.setFrames fs, ?_, aV, h, rho, .returned none, locs, cells, slots, hq, hrun, hended, ⟨rfl, fun w hw => by cases hw⟩, hW, hframe, hp, hI.1, hI.2.1, by rw [hh]; exact hI.2.2.2.1, hI.2.2.2.2.1, by rw [hh]; exact hI.2.2.2.2.2.1, hI.2.2.2.2.2.2.2.1, hI.2.2.2.2.2.2.2.2⟩
  jvm_step X.here [X.here.top, hx, hb, hd, hmeth', hr]
  (try refine ⟨rfl, ?_⟩); (try refine ⟨rfl, ?_⟩)
  first | (intro acts; rw [hret _ acts rfl rfl rfl]) | rw [hret _ _ rfl rfl rfl]
  exact Steps.refl _
theorem mr_iret (hx : p.tables.exec = Jvm.exec) (hb : c.code = cc) {ty : FieldType} {x : Int32} (hr : meth.sig.returnType = some ty) (hn : narrow ty (.int x) = .int x) (hlk : meth.locks = false) (hd : decode cc pc = .ok (.ireturn, 1)) (hq : Post (aX (vI x)) h) : mm_W p l e R s m args below meth c (mm_End R s below D cT zt A rho0 Post) D cT zt A nL rho0 pc L [vI x] h := by
  intro rho H locs cells slots ls hp hst hI T hT X
  obtain ⟨fs, hret, hrun, hended, hW, hframe⟩ := X.leave (v := some (.int x)) (fun z => by rw [hr] at z; cases z) hlk
  have hmeth' : T.vm.method? m = some meth := X.method'
  have hh : (T.setFrames fs).heap = H := hT
  refine ⟨T.setFrames fs, ?_, aX (vI x), h, rho, .returned (some (.int x)), locs, cells, slots, hq, hrun, hended, ⟨rfl, fun w hw => by cases hw; trivial⟩, hW, hframe, hp, hI.1, hI.2.1, by rw [hh]; exact hI.2.2.2.1, hI.2.2.2.2.1, by rw [hh]; exact hI.2.2.2.2.2.1, hI.2.2.2.2.2.2.2.1, hI.2.2.2.2.2.2.2.2⟩
  show Steps p.tables e below (T.setTop (F0 m pc ls [.int x])) _
  jvm_step X.here [X.here.top, hx, hb, hd, hmeth', hr, hn]
  (try refine ⟨rfl, ?_⟩); (try refine ⟨rfl, ?_⟩)
  first | (intro acts; rw [hret _ acts rfl rfl rfl]) | rw [hret _ _ rfl rfl rfl]
  exact Steps.refl _
theorem mr_aret (hx : p.tables.exec = Jvm.exec) (hb : c.code = cc) {rt : FieldType} {q : Option Nat} (hr : meth.sig.returnType = some rt) (hrt : (∃ n, rt = .object n) ∨ ∃ t, rt = .array t) (hlk : meth.locks = false) (hd : decode cc pc = .ok (.areturn, 1)) (hq : Post (aX (vQ q)) h) : mm_W p l e R s m args below meth c (mm_End R s below D cT zt A rho0 Post) D cT zt A nL rho0 pc L [vQ q] h := by
  intro rho H locs cells slots ls hp hst hI T hT X
  obtain ⟨fs, hret, hrun, hended, hW, hframe⟩ := X.leave (v := some (mm_v rho zt (vQ q))) (fun z => by rw [hr] at z; cases z) hlk
  have hmeth' : T.vm.method? m = some meth := X.method'
  have hh : (T.setFrames fs).heap = H := hT
  refine ⟨T.setFrames fs, ?_, aX (vQ q), h, rho, .returned (some (mm_v rho zt (vQ q))), locs, cells, slots, hq, hrun, hended, ⟨rfl, fun w hw => by cases hw; exact mm_okh hst⟩, hW, hframe, hp, hI.1, hI.2.1, by rw [hh]; exact hI.2.2.2.1, hI.2.2.2.2.1, by rw [hh]; exact hI.2.2.2.2.2.1, hI.2.2.2.2.2.2.2.1, hI.2.2.2.2.2.2.2.2⟩
  have hvv : mm_v rho zt (vQ q) = .null ∨ ∃ a, mm_v rho zt (vQ q) = .ref a := by
    cases q with
    | none => exact Or.inl rfl
    | some a => exact Or.inr ⟨_, rfl⟩
  show Steps p.tables e below (T.setTop (F0 m pc ls [mm_v rho zt (vQ q)])) _
  generalize mm_v rho zt (vQ q) = v at hret hvv ⊢
  rcases hrt with ⟨n, rfl⟩ | ⟨t, rfl⟩ <;> rcases hvv with rfl | ⟨a, rfl⟩ <;>
    (jvm_step X.here [X.here.top, hx, hb, hd, hmeth', hr]
     (try refine ⟨rfl, ?_⟩); (try refine ⟨rfl, ?_⟩)
     first | (intro acts; rw [hret _ acts rfl rfl rfl]) | rw [hret _ _ rfl rfl rfl]
     exact Steps.refl _)
end ME
end
section
/-! CALLS -/
theorem mm_catSum : ∀ l : List Value, (l.map fun v => v.category).sum ≤ 2 * l.length
  | [] => by simp
  | v :: l => by
    have h1 := mm_catSum l
    have h2 := lv_cat v
    simp only [List.map_cons, List.sum_cons, List.length_cons]
    omega
theorem mm_steps_weaken {tb : Tables} {e : Env} {mid below : List Frame} {a b : State} (h : Steps tb e (mid ++ below) a b) : Steps tb e below a b := by
  obtain ⟨n, hn, w⟩ := h
  exact ⟨n, hn, fun k hk => (w k hk).weaken⟩
theorem mm_Zs.moved {Z : Nat → List Int32} {s U : State} {zt : Nat → Nat} {A B : Nat → Prop} (hvm : s.vm.Alike U.vm) (hk : ∀ q : Nat, q < s.heap.size → ¬ A q → U.heap[q]? = s.heap[q]?) (hAB : ∀ q, B q → A q) (h : mm_Zs Z s zt A) : mm_Zs Z U zt B := by
  obtain ⟨h1, h2, h3, h4⟩ := h
  exact ⟨((h1.kept hk).moved hvm).narrow hAB, fun j hj => (((h2 j hj).kept hk).moved hvm).narrow hAB, h3.moved hvm hk hAB, h4.moved hvm hk hAB⟩
/-- the tables' words go with the tables -/
theorem mm_T.moved {Z : Nat → List Int32} {s U : State} {D : va_G} {cT : Nat → ClassId} {zt : Nat → Nat} {A B : Nat → Prop} (hW : s.WarmedH U.vm) (hk : ∀ q : Nat, q < s.heap.size → ¬ A q → U.heap[q]? = s.heap[q]?) (hAB : ∀ q, B q → A q) (h : mm_T Z s D cT zt A) : mm_T Z U D cT zt B := by
  obtain ⟨h1, h2, h3, h5⟩ := h
  exact ⟨fun w hw hg => mm_gd_warm hW hg (h1 w hw hg), va_K.moved hW.alike h2, fun C hC => va_AO.moved hW.alike (h3 C hC), h5.moved hW.alike hk hAB⟩
section MC
variable {Z : Nat → List Int32} {p : Program} {l : Launch} {e : Env} {R : Room} {s : State} {m : MethodId} {args : Array Value} {below : List Frame} {meth : Method} {c : Code} {Post : mm_A → mm_H → Prop} {D : va_G} {cT : Nat → ClassId} {zt : Nat → Nat} {A : Nat → Prop} {nL : Nat} {rho0 : List Nat} {pc : Nat} {L : mm_L} {h : mm_H}
/-- what the word of a method's code says -/
def mm_spec (s : State) (mi : Nat) (mk : MethodId) : Prop := ∃ methk ck, s.vm.method? mk = some methk ∧ methk.code = some ck ∧ ck.code = mm_cd mi ∧ ck.maxLocals = mm_ml mi ∧ methk.sig.returnType = mm_rt mi ∧ methk.locks = false ∧ ck.exceptionTable.toList.map mm_et = mm_hd mi
theorem mm_spec_of {s : State} {mi : Nat} {mk : MethodId} {args : Array Value} (hhk : mm_hd mi = []) (hnamed : s.methodNamed? (mm_nm mi) = some mk) (h : (Jvm.Cond.code (mm_nm mi) (mm_cd mi) (mm_ml mi) (mm_rt mi)).before args s = true) : mm_spec s mi mk := by
  obtain ⟨methk, ck, k1, k2, k3, k4, k5, k6, k7, k8⟩ := Cond.code_spec hnamed h
  refine ⟨methk, ck, k1, k2, k3, k4, k5, k6, ?_⟩
  have h1 : ck.exceptionTable.toList = [] := by simpa using k7
  rw [h1, hhk]; rfl
theorem mm_spec_with {s : State} {mi : Nat} {mk : MethodId} {args : Array Value} (hnamed : s.methodNamed? (mm_nm mi) = some mk) (h : (Jvm.Cond.codeWith (mm_nm mi) (mm_cd mi) (mm_ml mi) (mm_rt mi) (mm_hd mi)).before args s = true) : mm_spec s mi mk := by
  obtain ⟨m2, methk, ck, k0, k1, k2, k3, k4, k5, k6, k7, k8⟩ := Cond.codeWith_spec h
  cases hnamed.symm.trans k0
  exact ⟨methk, ck, k1, k2, k3, k4, k6, k7, k5⟩
/-- the callee mi, entered from the frame at pc, ends, and the caller goes on behind it, or at what came thrown -/
theorem mm_thru0 {T : State} {locs : List Loc} {cells slots mi0 mi d : Nat} {rho : List Nat} {ls : Array Slot} {rest vs : List mm_V} {G0 : mm_A → mm_H → Prop} {ig : Instr} (X : Stand p l e R s m args below meth c T locs cells slots) (hF : mm_F Z mi0 (d + 1) p e R s m meth c D cT zt A) (hnL : nL = mm_ml mi0)
    (hI : mm_I R s D cT zt A nL rho L h T.heap locs cells slots ls) (hp : rho0 <+: rho) (hrest : ∀ v ∈ rest, mm_ok h.1.length v) (hvs : ∀ v ∈ vs, mm_ok h.1.length v) (hlen : rest.length ≤ 12) (hdg : decode c.code pc = .ok (ig, 3))
    {mk : MethodId} (hspec : mm_spec s mi mk) (hnamed : s.methodNamed? (mm_nm mi) = some mk) (hpl : plainName (mm_nm mi).cls = true) (hmax : mm_ml mi ≤ 20)
    (hG : mm_G Z d mi vs h G0) (kk : ∀ v h', G0 (.inl v) h' → mm_W p l e R s m args below meth c (mm_End R s below D cT zt A rho0 Post) D cT zt A nL rho0 (pc + 3) L (v.toList ++ rest) h')
    (kx : ∀ ex h' T' rho' locs' cells' slots' x, G0 (.inr ex) h' → mm_thr x (mm_ex ex) T' → rho0 <+: rho' → Stand p l e R s m args below meth c T' locs' cells' slots' → mm_I R s D cT zt A nL rho' L h' T'.heap locs' cells' slots' ls → ∃ t, Steps p.tables e below ((T'.setTop (F0 m pc ls (rest.map (mm_v rho zt)))).pushFrame (.throwing x)) t ∧ mm_End R s below D cT zt A rho0 Post t) :
    ∃ t, Steps p.tables e below (doInvoke e (T.setTop (F0 m pc ls (rest.map (mm_v rho zt)))) [] mk (vs.map (mm_v rho zt)).toArray).1 t ∧ mm_End R s below D cT zt A rho0 Post t := by
  obtain ⟨hx, htr, hb, hr, hml, hown, hnm, hlk, hex, hd1, hd2, hA, hTb⟩ := hF
  obtain ⟨methk, ck, k1, k2, k3, k4, k5, k6, k7⟩ := hspec
  have hmk : T.vm.method? mk = some methk := by rw [X.warmed.alike.method?]; exact k1
  have hcls : ∀ k : Class, s.vm.classes[mk.cls]? = some k → plainName k.name = true := fun k hk => by
    obtain ⟨k', hk', hn⟩ := className_of_methodNamed hnamed
    cases hk.symm.trans hk'
    rw [hn]; exact hpl
  have hpk : T.plainMethod mk := X.warmed.plainAt hcls
  have hsize : ls.size = c.maxLocals := by rw [hml, ← hnL]; exact hI.2.2.2.2.2.2.1.2.1
  have hcat := mm_catSum (rest.map (mm_v rho zt))
  rw [List.length_map] at hcat
  have hbc := hI.2.2.2.2.2.2.2.1
  have hbs := hI.2.2.2.2.2.2.2.2
  obtain ⟨Y₀, hin⟩ := X.into (g := F0 m pc ls (rest.map (mm_v rho zt))) rfl hsize hdg (vs.map (mm_v rho zt)).toArray (R' := { frames := d, cells := h.2.1, slots := h.2.2, locals := 64 * d }) hmk k2 k6 hpk hd1 (by
    show 2 * 0 + ((rest.map (mm_v rho zt)).map fun v => v.category).sum + (ck.maxLocals + 11) + 64 * d ≤ R.locals
    rw [k4]
    omega) hbc hbs
  generalize hg : F0 m pc ls (rest.map (mm_v rho zt)) = g at Y₀ hin
  have hsv : (T.calling g mk (vs.map (mm_v rho zt)).toArray).vm = T.vm := rfl
  have hsh : (T.calling g mk (vs.map (mm_v rho zt)).toArray).heap = T.heap := rfl
  have hWs : s.WarmedH (T.calling g mk (vs.map (mm_v rho zt)).toArray).vm := X.warmed
  have hFA : ∀ q, va_A (mm_w rho zt cT h.1) T.heap.size q → A q := by
    intro q hq
    rcases hq with ⟨k, e, hq⟩ | hq
    · exact hI.2.2.2.2.1.2 k _ hq
    · exact hA q (Nat.le_trans hI.2.2.2.2.2.1.1 hq)
  have hTb' : mm_T Z (T.calling g mk (vs.map (mm_v rho zt)).toArray) D cT zt (va_A (mm_w rho zt cT h.1) T.heap.size) := hTb.moved hWs hI.2.2.2.2.2.1.2.1 hFA
  have hF' : mm_F Z mi d p e { frames := d, cells := h.2.1, slots := h.2.2, locals := 64 * d } (T.calling g mk (vs.map (mm_v rho zt)).toArray) mk methk ck D cT zt (va_A (mm_w rho zt cT h.1) T.heap.size) :=
    ⟨hx, htr, k3, k5, k4, by rw [hsv, X.warmed.alike.findClass]; exact findClass_of_methodNamed hnamed, (name_of_methodNamed hnamed k1).1, k6, k7, Nat.le_refl _, Nat.le_refl _, fun q hq => Or.inr hq, hTb'⟩
  have hK := hG p l e { frames := d, cells := h.2.1, slots := h.2.2, locals := 64 * d } _ mk (.java g :: below) methk ck D cT zt _ rho hF' hvs hI.1 hI.2.1 hI.2.2.2.1 hI.2.2.2.2.1.self (Nat.le_refl _) (Nat.le_refl _)
  rw [← k4] at hK
  obtain ⟨t, st1, r, h', rho', o, Lc, k, n, hpost, hrun, hend, hout, hW, hsame, hpre, hlen', hok', hP', hD', hS', hc', hn'⟩ := hK ((T.setTop g).pushFrame (.java (entryFrame mk (vs.map (mm_v rho zt)).toArray ck.maxLocals))) rfl Y₀
  have st1' : Steps p.tables e below _ t := mm_steps_weaken (mid := [.java g]) st1
  obtain ⟨tl, rfl⟩ := hpre
  have hgrow : h.1.length ≤ h'.1.length := by rw [← hlen', ← hI.1, List.length_append]; omega
  rw [hin []]
  have hmI : ∀ T' : State, T'.heap = t.heap → mm_I R s D cT zt A nL (rho ++ tl) L h' T'.heap (locs ++ Lc) (cells + k) (slots + n) ls := by
    intro T' hT'
    rw [hT']
    refine ⟨hlen', hok', fun v hv => mm_ok_mono hgrow (hI.2.2.1 v hv), hP', hD'.weaken (fun _ q _ hq => hFA q.1 hq), ⟨Nat.le_trans hI.2.2.2.2.2.1.1 hS'.1, fun q h1 h2 => ?_, fun q hq => ?_⟩, hI.2.2.2.2.2.2.1.grow (fun v hv => by rw [hI.1]; exact hI.2.2.1 v hv), ?_, ?_⟩
    · rw [hS'.2.1 q (Nat.lt_of_lt_of_le h1 hI.2.2.2.2.2.1.1) (fun z => h2 (hFA q z))]
      exact hI.2.2.2.2.2.1.2.1 q h1 h2
    · rcases List.mem_append.mp hq with z | z
      · exact hI.2.2.2.2.2.1.2.2 q z
      · exact hFA _ (hS'.2.2 q z)
    · have : k + h'.2.1 ≤ h.2.1 := hc'
      omega
    · have : n + h'.2.2 ≤ h.2.2 := hn'
      omega
  cases r with
  | inl v =>
    obtain ⟨rfl, hv⟩ := hout
    obtain ⟨T', X', hW', hB', ht⟩ := X.outOf (g := g) (by rw [← hg]) (by rw [← hg]; exact hdg) hend hW hsame
    have hT' : T'.heap = t.heap := (congrArg State.heap ht).symm
    obtain ⟨t2, st2, q2⟩ := kk _ h' hpost (rho ++ tl) T'.heap (locs ++ Lc) (cells + k) (slots + n) ls (hp.trans (List.prefix_append _ _)) (fun w hw => by
      rcases List.mem_append.mp hw with z | z
      · exact hv w (by cases v with
          | none => simp at z
          | some y => simp at z; rw [z])
      · exact mm_ok_mono hgrow (hrest w z)) (hmI T' hT') T' rfl X'
    refine ⟨t2, st1'.trans ?_, q2⟩
    rw [ht, ← hg]
    have : (F0 m (pc + 3) ls ((v.toList ++ rest).map (mm_v (rho ++ tl) zt)) : JFrame) = { F0 m pc ls (rest.map (mm_v rho zt)) with pc := (F0 m pc ls (rest.map (mm_v rho zt))).pc + 3, stack := (v.map (mm_v (rho ++ tl) zt)).toList ++ (F0 m pc ls (rest.map (mm_v rho zt))).stack } := by
      have hm : rest.map (mm_v (rho ++ tl) zt) = rest.map (mm_v rho zt) := mm_map_app (fun w hw => by rw [hI.1]; exact hrest w hw)
      cases v with
      | none => simp [hm]
      | some w => simp [hm]
    rw [← this]
    exact st2
  | inr ex =>
    obtain ⟨x, rfl, hx2⟩ := hout
    obtain ⟨T', X', hW', hB', ht⟩ := X.outOfThrown (g := g) (by rw [← hg]) hend hW hsame
    have hT' : T'.heap = t.heap := (congrArg State.heap ht).symm
    have hV' : T'.vm = t.vm := (congrArg State.vm ht).symm
    obtain ⟨cell, c1, c2, c3⟩ := hx2
    obtain ⟨t2, st2, q2⟩ := kx ex h' T' (rho ++ tl) (locs ++ Lc) (cells + k) (slots + n) x hpost ⟨cell, by rw [hT']; exact c1, c2, by rw [hV']; exact c3⟩ (hp.trans (List.prefix_append _ _)) X' (hmI T' hT')
    refine ⟨t2, st1'.trans ?_, q2⟩
    rw [ht, ← hg]
    exact st2
/-- the callee mi, entered from the frame at pc, ends, and the caller (without handlers) goes on behind it, or is left too -/
theorem mm_thru {T : State} {locs : List Loc} {cells slots mi0 mi d : Nat} {rho : List Nat} {ls : Array Slot} {rest vs : List mm_V} {F : List mm_V → mm_H → Prop} {ig : Instr} (X : Stand p l e R s m args below meth c T locs cells slots) (hF : mm_F Z mi0 (d + 1) p e R s m meth c D cT zt A) (hnL : nL = mm_ml mi0)
    (hI : mm_I R s D cT zt A nL rho L h T.heap locs cells slots ls) (hp : rho0 <+: rho) (hrest : ∀ v ∈ rest, mm_ok h.1.length v) (hvs : ∀ v ∈ vs, mm_ok h.1.length v) (hlen : rest.length ≤ 12) (hdg : decode c.code pc = .ok (ig, 3))
    (hh0 : mm_hd mi0 = []) {mk : MethodId} (hspec : mm_spec s mi mk) (hpl : plainName (mm_nm mi).cls = true) (hmax : mm_ml mi ≤ 20)
    (hG : mm_G Z d mi vs h (mm_Kt Post F rest)) (kk : ∀ st h', F st h' → mm_W p l e R s m args below meth c (mm_End R s below D cT zt A rho0 Post) D cT zt A nL rho0 (pc + 3) L st h')
    (hnamed : s.methodNamed? (mm_nm mi) = some mk) :
    ∃ t, Steps p.tables e below (doInvoke e (T.setTop (F0 m pc ls (rest.map (mm_v rho zt)))) [] mk (vs.map (mm_v rho zt)).toArray).1 t ∧ mm_End R s below D cT zt A rho0 Post t := by
  have hex : c.exceptionTable.toList = [] := by
    have := hF.2.2.2.2.2.2.2.2.1
    rw [hh0] at this
    exact List.map_eq_nil_iff.mp this
  have hlk : meth.locks = false := hF.2.2.2.2.2.2.2.1
  refine mm_thru0 X hF hnL hI hp hrest hvs hlen hdg hspec hnamed hpl hmax hG (fun v h' hv => kk _ h' (by
    cases v with
    | none => exact hv
    | some w => exact hv)) (fun ex h' T' rho' locs' cells' slots' x hpost hthr hp' X' hJ => ?_)
  obtain ⟨w1, w2, w3, w4, w5⟩ := X'.leaveThrown x (g := F0 m pc ls (rest.map (mm_v rho zt))) rfl rfl rfl (by rw [hex]; intro y hy; cases hy) hlk
  exact ⟨T'.setFrames (.throwing x :: below), w1, .inr ex, h', rho', .threw x, locs', cells', slots', hpost, w2, w3, ⟨x, rfl, hthr⟩, w4, w5, hp', hJ.1, hJ.2.1, hJ.2.2.2.1, hJ.2.2.2.2.1, hJ.2.2.2.2.2.1, hJ.2.2.2.2.2.2.2.1, hJ.2.2.2.2.2.2.2.2⟩
end MC
end
section
section MCR
variable {Z : Nat → List Int32} {p : Program} {l : Launch} {e : Env} {R : Room} {s : State} {m : MethodId} {args : Array Value} {below : List Frame} {meth : Method} {c : Code} {Post : mm_A → mm_H → Prop} {D : va_G} {cT : Nat → ClassId} {zt : Nat → Nat} {A : Nat → Prop} {rho0 : List Nat} {pc : Nat} {L : mm_L} {h : mm_H}
theorem mm_len_of {y : MethodName} {n : Nat} (hn : (parseMethodDescriptor y.desc).map (fun d => d.parameters.length) = some n) : ∀ sig, parseMethodDescriptor y.desc = some sig → n = sig.parameters.length := fun sig h => by
  rw [h] at hn
  exact (Option.some.inj hn).symm
def mm_yok (y : MethodName) : Bool := plainName y.cls && y.cls != "java/lang/invoke/MethodHandle" && y.cls != "java/lang/invoke/VarHandle"
theorem mm_yok_of {y : MethodName} (h : mm_yok y = true) : plainName y.cls = true ∧ (y.cls ≠ "java/lang/invoke/MethodHandle" ∧ y.cls ≠ "java/lang/invoke/VarHandle") := by
  simp only [mm_yok, Bool.and_eq_true, bne_iff_ne] at h
  exact ⟨h.1.1, h.1.2, h.2⟩
theorem mr_callS {mi0 mi d idx : Nat} {vs rest : List mm_V} {F : List mm_V → mm_H → Prop} (hF : mm_F Z mi0 (d + 1) p e R s m meth c D cT zt A) (hl : (Jvm.Cond.methodLink (mm_nm mi0).cls idx (mm_nm mi)).before args s = true) (hstat : (Jvm.Cond.static (mm_nm mi)).before args s = true) (hini : (Jvm.Cond.initialized (mm_nm mi).cls).before args s = true) (hcode : Jvm.Cond.code (mm_nm mi) (mm_cd mi) (mm_ml mi) (mm_rt mi) ∈ lw_tbl) (hgc : mm_gd (Jvm.Cond.code (mm_nm mi) (mm_cd mi) (mm_ml mi) (mm_rt mi)) = true) (hyo : mm_yok (mm_nm mi) = true) (hmax : mm_ml mi ≤ 20) (hh0 : mm_hd mi0 = []) (hhk : mm_hd mi = []) (hn : (parseMethodDescriptor (mm_nm mi).desc).map (fun d => d.parameters.length) = some vs.length) (hlen : rest.length ≤ 12) (hd : decode (mm_cd mi0) pc = .ok (.invokestatic idx, 3)) (hG : mm_G Z d mi vs h (mm_Kt Post F rest)) (kk : ∀ st h', F st h' → mm_W p l e R s m args below meth c (mm_End R s below D cT zt A rho0 Post) D cT zt A (mm_ml mi0) rho0 (pc + 3) L st h') : mm_W p l e R s m args below meth c (mm_End R s below D cT zt A rho0 Post) D cT zt A (mm_ml mi0) rho0 pc L (vs.reverse ++ rest) h := by
  intro rho H locs cells slots ls hp hst hI T hT X
  obtain ⟨hx, htr, hb, hr, hml, hown, hnm, hlk, hex, hd1, hd2, hA, hTb⟩ := id hF
  obtain ⟨hpl, hy⟩ := mm_yok_of hyo
  have hcs : (Jvm.Cond.code (mm_nm mi) (mm_cd mi) (mm_ml mi) (mm_rt mi)).before #[] s = true := hTb.1 _ hcode hgc
  obtain ⟨mk, hnamed⟩ := Cond.code_named hcs
  obtain ⟨methM, cM, hmethM, -, -, -, -, -, -, hsigM⟩ := Cond.code_spec hnamed hcs
  have hstatic : methM.isStatic = true := Cond.static_spec hnamed hmethM hstat
  obtain ⟨kP, hkP, -⟩ := className_of_methodNamed hnamed
  have hinitP : kP.init = .initialized := Cond.initialized_spec (findClass_of_methodNamed hnamed) hkP hini
  obtain ⟨vm₁, X₁, hstep₁⟩ := X.invokestatic hx hown hl hnamed hmethM hstatic hkP hinitP hy (g := F0 m pc ls ((vs.reverse ++ rest).map (mm_v rho zt))) rfl (argsL := vs.map (mm_v rho zt)) (rest := rest.map (mm_v rho zt)) (by rw [List.length_map]; exact mm_len_of hn _ hsigM) (by simp) (by rw [hb]; exact hd)
  subst hT
  obtain ⟨t, st, q⟩ := mm_thru X₁ hF rfl hI hp (fun v hv => hst v (List.mem_append_right _ hv)) (fun v hv => hst v (List.mem_append_left _ (List.mem_reverse.mpr hv))) hlen (by rw [hb]; exact hd) hh0 (mm_spec_of hhk hnamed (hTb.1 _ hcode hgc)) hpl hmax hG kk hnamed
  exact ⟨t, hstep₁ t (fun acts => by rw [doInvoke_state]; exact st), q⟩
theorem mr_callI {mi0 mi d idx : Nat} {a : Nat} {as rest : List mm_V} {F : List mm_V → mm_H → Prop} (hF : mm_F Z mi0 (d + 1) p e R s m meth c D cT zt A) (hl : (Jvm.Cond.methodLink (mm_nm mi0).cls idx (mm_nm mi)).before args s = true) (hinst : (Jvm.Cond.instanceMethod (mm_nm mi)).before args s = true) (hcode : Jvm.Cond.code (mm_nm mi) (mm_cd mi) (mm_ml mi) (mm_rt mi) ∈ lw_tbl) (hgc : mm_gd (Jvm.Cond.code (mm_nm mi) (mm_cd mi) (mm_ml mi) (mm_rt mi)) = true) (hyo : mm_yok (mm_nm mi) = true) (hmax : mm_ml mi ≤ 20) (hh0 : mm_hd mi0 = []) (hhk : mm_hd mi = []) (hin : (mm_nm mi).name = "<init>") (hrt : mm_rt mi = none) (hn : (parseMethodDescriptor (mm_nm mi).desc).map (fun d => d.parameters.length) = some as.length) (hlen : rest.length ≤ 12) (hd : decode (mm_cd mi0) pc = .ok (.invokespecial idx, 3)) (hG : mm_G Z d mi (vR a :: as) h (mm_Kt Post F rest)) (kk : ∀ st h', F st h' → mm_W p l e R s m args below meth c (mm_End R s below D cT zt A rho0 Post) D cT zt A (mm_ml mi0) rho0 (pc + 3) L st h') : mm_W p l e R s m args below meth c (mm_End R s below D cT zt A rho0 Post) D cT zt A (mm_ml mi0) rho0 pc L ((vR a :: as).reverse ++ rest) h := by
  intro rho H locs cells slots ls hp hst hI T hT X
  obtain ⟨hx, htr, hb, hr, hml, hown, hnm, hlk, hex, hd1, hd2, hA, hTb⟩ := id hF
  obtain ⟨hpl, hy⟩ := mm_yok_of hyo
  have hcs : (Jvm.Cond.code (mm_nm mi) (mm_cd mi) (mm_ml mi) none).before args s = true := by
    rw [← hrt]
    exact mm_gd_args hgc (hTb.1 _ hcode hgc)
  have hpm : e.platform.magicAccessors = ({} : Platform).magicAccessors := by rw [X.admits.platform]
  obtain ⟨mk, methM, cM, kP, vm₁, hnamed, hmethM, hcodeM, -, hlocalsM, -, hkP, -, hW₁, hstep₁⟩ := Steps.initColdArgs (e := e) X.here hx X.warmed hpm hown hin hy hl hinst hcs (f := F0 m pc ls (((vR a :: as).reverse ++ rest).map (mm_v rho zt))) rfl (a := rho.getD a 0) (argsL := as.map (mm_v rho zt)) (rest := rest.map (mm_v rho zt)) (by rw [List.length_map]; exact mm_len_of hn) (by simp [mm_v]) (by rw [hb]; exact hd)
  have X₁ := X.noted hW₁
  subst hT
  obtain ⟨t, st, q⟩ := mm_thru X₁ hF rfl hI hp (fun v hv => hst v (List.mem_append_right _ hv)) (vs := vR a :: as) (fun v hv => hst v (List.mem_append_left _ (List.mem_reverse.mpr hv))) hlen (by rw [hb]; exact hd) hh0 (mm_spec_of hhk hnamed (hTb.1 _ hcode hgc)) hpl hmax hG kk hnamed
  exact ⟨t, hstep₁ t (fun acts => by rw [doInvoke_state]; exact st), q⟩
theorem mr_callSN {mi0 mi d idx : Nat} {host : String} {vs rest : List mm_V} {F : List mm_V → mm_H → Prop} (hF : mm_F Z mi0 (d + 1) p e R s m meth c D cT zt A) (hl : (Jvm.Cond.methodLinkNest (mm_nm mi0).cls idx (mm_nm mi) host).before args s = true) (hstat : (Jvm.Cond.static (mm_nm mi)).before args s = true) (hini : (Jvm.Cond.initialized (mm_nm mi).cls).before args s = true) (hcode : Jvm.Cond.code (mm_nm mi) (mm_cd mi) (mm_ml mi) (mm_rt mi) ∈ lw_tbl) (hgc : mm_gd (Jvm.Cond.code (mm_nm mi) (mm_cd mi) (mm_ml mi) (mm_rt mi)) = true) (hyo : mm_yok (mm_nm mi) = true) (hmax : mm_ml mi ≤ 20) (hh0 : mm_hd mi0 = []) (hhk : mm_hd mi = []) (hn : (parseMethodDescriptor (mm_nm mi).desc).map (fun d => d.parameters.length) = some vs.length) (hlen : rest.length ≤ 12) (hd : decode (mm_cd mi0) pc = .ok (.invokestatic idx, 3)) (hG : mm_G Z d mi vs h (mm_Kt Post F rest)) (kk : ∀ st h', F st h' → mm_W p l e R s m args below meth c (mm_End R s below D cT zt A rho0 Post) D cT zt A (mm_ml mi0) rho0 (pc + 3) L st h') : mm_W p l e R s m args below meth c (mm_End R s below D cT zt A rho0 Post) D cT zt A (mm_ml mi0) rho0 pc L (vs.reverse ++ rest) h := by
  intro rho H locs cells slots ls hp hst hI T hT X
  obtain ⟨hx, htr, hb, hr, hml, hown, hnm, hlk, hex, hd1, hd2, hA, hTb⟩ := id hF
  obtain ⟨hpl, hy⟩ := mm_yok_of hyo
  have hcs : (Jvm.Cond.code (mm_nm mi) (mm_cd mi) (mm_ml mi) (mm_rt mi)).before #[] s = true := hTb.1 _ hcode hgc
  obtain ⟨mk, hnamed⟩ := Cond.code_named hcs
  obtain ⟨methM, cM, hmethM, -, -, -, -, -, -, hsigM⟩ := Cond.code_spec hnamed hcs
  have hstatic : methM.isStatic = true := Cond.static_spec hnamed hmethM hstat
  obtain ⟨kP, hkP, -⟩ := className_of_methodNamed hnamed
  have hinitP : kP.init = .initialized := Cond.initialized_spec (findClass_of_methodNamed hnamed) hkP hini
  obtain ⟨vm₁, X₁, hstep₁⟩ := X.invokestaticNest hx hown hl hnamed hmethM hstatic hkP hinitP hy (g := F0 m pc ls ((vs.reverse ++ rest).map (mm_v rho zt))) rfl (argsL := vs.map (mm_v rho zt)) (rest := rest.map (mm_v rho zt)) (by rw [List.length_map]; exact mm_len_of hn _ hsigM) (by simp) (by rw [hb]; exact hd)
  subst hT
  obtain ⟨t, st, q⟩ := mm_thru X₁ hF rfl hI hp (fun v hv => hst v (List.mem_append_right _ hv)) (fun v hv => hst v (List.mem_append_left _ (List.mem_reverse.mpr hv))) hlen (by rw [hb]; exact hd) hh0 (mm_spec_of hhk hnamed (hTb.1 _ hcode hgc)) hpl hmax hG kk hnamed
  exact ⟨t, hstep₁ t (fun acts => by rw [doInvoke_state]; exact st), q⟩
theorem mr_callIN {mi0 mi d idx : Nat} {host : String} {a : Nat} {as rest : List mm_V} {F : List mm_V → mm_H → Prop} (hF : mm_F Z mi0 (d + 1) p e R s m meth c D cT zt A) (hl : (Jvm.Cond.methodLinkNest (mm_nm mi0).cls idx (mm_nm mi) host).before args s = true) (hinst : (Jvm.Cond.instanceMethod (mm_nm mi)).before args s = true) (hcode : Jvm.Cond.code (mm_nm mi) (mm_cd mi) (mm_ml mi) (mm_rt mi) ∈ lw_tbl) (hgc : mm_gd (Jvm.Cond.code (mm_nm mi) (mm_cd mi) (mm_ml mi) (mm_rt mi)) = true) (hyo : mm_yok (mm_nm mi) = true) (hmax : mm_ml mi ≤ 20) (hh0 : mm_hd mi0 = []) (hhk : mm_hd mi = []) (hin : (mm_nm mi).name = "<init>") (hrt : mm_rt mi = none) (hn : (parseMethodDescriptor (mm_nm mi).desc).map (fun d => d.parameters.length) = some as.length) (hlen : rest.length ≤ 12) (hd : decode (mm_cd mi0) pc = .ok (.invokespecial idx, 3)) (hG : mm_G Z d mi (vR a :: as) h (mm_Kt Post F rest)) (kk : ∀ st h', F st h' → mm_W p l e R s m args below meth c (mm_End R s below D cT zt A rho0 Post) D cT zt A (mm_ml mi0) rho0 (pc + 3) L st h') : mm_W p l e R s m args below meth c (mm_End R s below D cT zt A rho0 Post) D cT zt A (mm_ml mi0) rho0 pc L ((vR a :: as).reverse ++ rest) h := by
  intro rho H locs cells slots ls hp hst hI T hT X
  obtain ⟨hx, htr, hb, hr, hml, hown, hnm, hlk, hex, hd1, hd2, hA, hTb⟩ := id hF
  obtain ⟨hpl, hy⟩ := mm_yok_of hyo
  have hcs : (Jvm.Cond.code (mm_nm mi) (mm_cd mi) (mm_ml mi) none).before args s = true := by
    rw [← hrt]
    exact mm_gd_args hgc (hTb.1 _ hcode hgc)
  have hpm : e.platform.magicAccessors = ({} : Platform).magicAccessors := by rw [X.admits.platform]
  obtain ⟨mk, methM, cM, kP, vm₁, hnamed, hmethM, hcodeM, -, hlocalsM, -, hkP, -, hW₁, hstep₁⟩ := Steps.initColdArgsNest (e := e) X.here hx X.warmed hpm hown hin hy hl hinst hcs (f := F0 m pc ls (((vR a :: as).reverse ++ rest).map (mm_v rho zt))) rfl (a := rho.getD a 0) (argsL := as.map (mm_v rho zt)) (rest := rest.map (mm_v rho zt)) (by rw [List.length_map]; exact mm_len_of hn) (by simp [mm_v]) (by rw [hb]; exact hd)
  have X₁ := X.noted hW₁
  subst hT
  obtain ⟨t, st, q⟩ := mm_thru X₁ hF rfl hI hp (fun v hv => hst v (List.mem_append_right _ hv)) (vs := vR a :: as) (fun v hv => hst v (List.mem_append_left _ (List.mem_reverse.mpr hv))) hlen (by rw [hb]; exact hd) hh0 (mm_spec_of hhk hnamed (hTb.1 _ hcode hgc)) hpl hmax hG kk hnamed
  exact ⟨t, hstep₁ t (fun acts => by rw [doInvoke_state]; exact st), q⟩
theorem mr_callV {mi0 mi d idx ci : Nat} {a : Nat} {as rest : List mm_V} {fs : List mm_V} {q : vw_C} {F : List mm_V → mm_H → Prop} (hF : mm_F Z mi0 (d + 1) p e R s m meth c D cT zt A) (hl : (Jvm.Cond.methodLink (mm_nm mi0).cls idx (mm_nm mi)).before args s = true) (hinst : (Jvm.Cond.instanceMethod (mm_nm mi)).before args s = true) (hsel : (Jvm.Cond.selects q.1 (mm_nm mi) (mm_nm mi)).before args s = true) (hcode : Jvm.Cond.code (mm_nm mi) (mm_cd mi) (mm_ml mi) (mm_rt mi) ∈ lw_tbl) (hgc : mm_gd (Jvm.Cond.code (mm_nm mi) (mm_cd mi) (mm_ml mi) (mm_rt mi)) = true) (hyo : mm_yok (mm_nm mi) = true) (hmax : mm_ml mi ≤ 20) (hh0 : mm_hd mi0 = []) (hhk : mm_hd mi = []) (hq : vwCl[ci]? = some q) (ha : h.1[a]? = some (.inl (ci, fs))) (hn : (parseMethodDescriptor (mm_nm mi).desc).map (fun d => d.parameters.length) = some as.length) (hlen : rest.length ≤ 12) (hd : decode (mm_cd mi0) pc = .ok (.invokevirtual idx, 3)) (hG : mm_G Z d mi (vR a :: as) h (mm_Kt Post F rest)) (kk : ∀ st h', F st h' → mm_W p l e R s m args below meth c (mm_End R s below D cT zt A rho0 Post) D cT zt A (mm_ml mi0) rho0 (pc + 3) L st h') : mm_W p l e R s m args below meth c (mm_End R s below D cT zt A rho0 Post) D cT zt A (mm_ml mi0) rho0 pc L ((vR a :: as).reverse ++ rest) h := by
  intro rho H locs cells slots ls hp hst hI T hT X
  obtain ⟨hx, htr, hb, hr, hml, hown, hnm, hlk, hex, hd1, hd2, hA, hTb⟩ := id hF
  obtain ⟨hpl, hy⟩ := mm_yok_of hyo
  have hcs : (Jvm.Cond.code (mm_nm mi) (mm_cd mi) (mm_ml mi) (mm_rt mi)).before #[] s = true := hTb.1 _ hcode hgc
  obtain ⟨cellB, hcB, hoB, hclB⟩ := va_recv hTb.2.1 hI.2.2.2.1 hq (mm_at hI ha)
  obtain ⟨mk, methM, hnamed, hmethM, hstM, habM⟩ := Cond.instanceMethod_spec hinst
  obtain ⟨methM', cM, hmethM', -, -, -, -, -, -, hsigM⟩ := Cond.code_spec hnamed hcs
  cases hmethM.symm.trans hmethM'
  obtain ⟨c2, r2, m2, q1, q2, q3, q4, kP, hkP, hkPi⟩ := Cond.selects_spec hsel
  cases hclB.symm.trans q1
  cases (State.methodFound?_of_named hnamed hy).symm.trans q2
  cases hnamed.symm.trans q3
  have hselP : selectMethod e.platform s.vm cellB.cls mk = .method mk := by rw [Launch.admits_selectMethod X.admits]; exact q4
  subst hT
  obtain ⟨vm₁, X₁, hstep₁⟩ := X.invokevirtual hx hown hl hnamed hmethM hstM hkP hkPi hy (a := rho.getD a 0) (cell := cellB) hcB (fun z h => by rw [h] at hoB; cases hoB) hselP hmethM habM hkP hkPi (g := F0 m pc ls (((vR a :: as).reverse ++ rest).map (mm_v rho zt))) rfl (argsL := as.map (mm_v rho zt)) (rest := rest.map (mm_v rho zt)) (by rw [List.length_map]; exact mm_len_of hn _ hsigM) (by simp [mm_v]) (by rw [hb]; exact hd)
  obtain ⟨t, st, q⟩ := mm_thru X₁ hF rfl hI hp (fun v hv => hst v (List.mem_append_right _ hv)) (vs := vR a :: as) (fun v hv => hst v (List.mem_append_left _ (List.mem_reverse.mpr hv))) hlen (by rw [hb]; exact hd) hh0 (mm_spec_of hhk hnamed (hTb.1 _ hcode hgc)) hpl hmax hG kk hnamed
  exact ⟨t, hstep₁ t (fun acts => by rw [doInvoke_state]; exact st), q⟩
theorem mr_callSW {mi0 mi d idx : Nat} {vs rest : List mm_V} {F : List mm_V → mm_H → Prop} (hF : mm_F Z mi0 (d + 1) p e R s m meth c D cT zt A) (hl : (Jvm.Cond.methodLink (mm_nm mi0).cls idx (mm_nm mi)).before args s = true) (hstat : (Jvm.Cond.static (mm_nm mi)).before args s = true) (hini : (Jvm.Cond.initialized (mm_nm mi).cls).before args s = true) (hcode : Jvm.Cond.codeWith (mm_nm mi) (mm_cd mi) (mm_ml mi) (mm_rt mi) (mm_hd mi) ∈ lw_tbl) (hgc : mm_gd (Jvm.Cond.codeWith (mm_nm mi) (mm_cd mi) (mm_ml mi) (mm_rt mi) (mm_hd mi)) = true) (hyo : mm_yok (mm_nm mi) = true) (hmax : mm_ml mi ≤ 20) (hh0 : mm_hd mi0 = []) (hn : (parseMethodDescriptor (mm_nm mi).desc).map (fun d => d.parameters.length) = some vs.length) (hlen : rest.length ≤ 12) (hd : decode (mm_cd mi0) pc = .ok (.invokestatic idx, 3)) (hG : mm_G Z d mi vs h (mm_Kt Post F rest)) (kk : ∀ st h', F st h' → mm_W p l e R s m args below meth c (mm_End R s below D cT zt A rho0 Post) D cT zt A (mm_ml mi0) rho0 (pc + 3) L st h') : mm_W p l e R s m args below meth c (mm_End R s below D cT zt A rho0 Post) D cT zt A (mm_ml mi0) rho0 pc L (vs.reverse ++ rest) h := by
  intro rho H locs cells slots ls hp hst hI T hT X
  obtain ⟨hx, htr, hb, hr, hml, hown, hnm, hlk, hex, hd1, hd2, hA, hTb⟩ := id hF
  obtain ⟨hpl, hy⟩ := mm_yok_of hyo
  have hcs : (Jvm.Cond.codeWith (mm_nm mi) (mm_cd mi) (mm_ml mi) (mm_rt mi) (mm_hd mi)).before #[] s = true := hTb.1 _ hcode hgc
  obtain ⟨mk, methM, cM, hnamed, hmethM, -, -, -, -, -, -, hsigM⟩ := Cond.codeWith_spec hcs
  have hstatic : methM.isStatic = true := Cond.static_spec hnamed hmethM hstat
  obtain ⟨kP, hkP, -⟩ := className_of_methodNamed hnamed
  have hinitP : kP.init = .initialized := Cond.initialized_spec (findClass_of_methodNamed hnamed) hkP hini
  obtain ⟨vm₁, X₁, hstep₁⟩ := X.invokestatic hx hown hl hnamed hmethM hstatic hkP hinitP hy (g := F0 m pc ls ((vs.reverse ++ rest).map (mm_v rho zt))) rfl (argsL := vs.map (mm_v rho zt)) (rest := rest.map (mm_v rho zt)) (by rw [List.length_map]; exact mm_len_of hn _ hsigM) (by simp) (by rw [hb]; exact hd)
  subst hT
  obtain ⟨t, st, q⟩ := mm_thru X₁ hF rfl hI hp (fun v hv => hst v (List.mem_append_right _ hv)) (fun v hv => hst v (List.mem_append_left _ (List.mem_reverse.mpr hv))) hlen (by rw [hb]; exact hd) hh0 (mm_spec_with hnamed hcs) hpl hmax hG kk hnamed
  exact ⟨t, hstep₁ t (fun acts => by rw [doInvoke_state]; exact st), q⟩
theorem mr_callVC {mi0 mi d idx ci : Nat} {a : Nat} {as rest : List mm_V} {fs : List mm_V} {q : vw_C} {G0 : mm_A → mm_H → Prop} (hF : mm_F Z mi0 (d + 1) p e R s m meth c D cT zt A) (hl : (Jvm.Cond.methodLink (mm_nm mi0).cls idx (mm_nm mi)).before args s = true) (hinst : (Jvm.Cond.instanceMethod (mm_nm mi)).before args s = true) (hsel : (Jvm.Cond.selects q.1 (mm_nm mi) (mm_nm mi)).before args s = true) (hcode : Jvm.Cond.code (mm_nm mi) (mm_cd mi) (mm_ml mi) (mm_rt mi) ∈ lw_tbl) (hgc : mm_gd (Jvm.Cond.code (mm_nm mi) (mm_cd mi) (mm_ml mi) (mm_rt mi)) = true) (hyo : mm_yok (mm_nm mi) = true) (hmax : mm_ml mi ≤ 20) (hhk : mm_hd mi = []) (hq : vwCl[ci]? = some q) (ha : h.1[a]? = some (.inl (ci, fs))) (hn : (parseMethodDescriptor (mm_nm mi).desc).map (fun d => d.parameters.length) = some as.length) (hlen : rest.length ≤ 12) (hd : decode (mm_cd mi0) pc = .ok (.invokevirtual idx, 3)) (hG : mm_G Z d mi (vR a :: as) h G0) (kk : ∀ v h', G0 (.inl v) h' → mm_W p l e R s m args below meth c (mm_End R s below D cT zt A rho0 Post) D cT zt A (mm_ml mi0) rho0 (pc + 3) L (v.toList ++ rest) h') (kx : ∀ ex h' T' rho' locs' cells' slots' x ls stk, G0 (.inr ex) h' → mm_thr x (mm_ex ex) T' → rho0 <+: rho' → Stand p l e R s m args below meth c T' locs' cells' slots' → mm_I R s D cT zt A (mm_ml mi0) rho' L h' T'.heap locs' cells' slots' ls → ∃ t, Steps p.tables e below ((T'.setTop (F0 m pc ls stk)).pushFrame (.throwing x)) t ∧ mm_End R s below D cT zt A rho0 Post t) : mm_W p l e R s m args below meth c (mm_End R s below D cT zt A rho0 Post) D cT zt A (mm_ml mi0) rho0 pc L ((vR a :: as).reverse ++ rest) h := by
  intro rho H locs cells slots ls hp hst hI T hT X
  obtain ⟨hx, htr, hb, hr, hml, hown, hnm, hlk, hex, hd1, hd2, hA, hTb⟩ := id hF
  obtain ⟨hpl, hy⟩ := mm_yok_of hyo
  have hcs : (Jvm.Cond.code (mm_nm mi) (mm_cd mi) (mm_ml mi) (mm_rt mi)).before #[] s = true := hTb.1 _ hcode hgc
  obtain ⟨cellB, hcB, hoB, hclB⟩ := va_recv hTb.2.1 hI.2.2.2.1 hq (mm_at hI ha)
  obtain ⟨mk, methM, hnamed, hmethM, hstM, habM⟩ := Cond.instanceMethod_spec hinst
  obtain ⟨methM', cM, hmethM', -, -, -, -, -, -, hsigM⟩ := Cond.code_spec hnamed hcs
  cases hmethM.symm.trans hmethM'
  obtain ⟨c2, r2, m2, q1, q2, q3, q4, kP, hkP, hkPi⟩ := Cond.selects_spec hsel
  cases hclB.symm.trans q1
  cases (State.methodFound?_of_named hnamed hy).symm.trans q2
  cases hnamed.symm.trans q3
  have hselP : selectMethod e.platform s.vm cellB.cls mk = .method mk := by rw [Launch.admits_selectMethod X.admits]; exact q4
  subst hT
  obtain ⟨vm₁, X₁, hstep₁⟩ := X.invokevirtual hx hown hl hnamed hmethM hstM hkP hkPi hy (a := rho.getD a 0) (cell := cellB) hcB (fun z h => by rw [h] at hoB; cases hoB) hselP hmethM habM hkP hkPi (g := F0 m pc ls (((vR a :: as).reverse ++ rest).map (mm_v rho zt))) rfl (argsL := as.map (mm_v rho zt)) (rest := rest.map (mm_v rho zt)) (by rw [List.length_map]; exact mm_len_of hn _ hsigM) (by simp [mm_v]) (by rw [hb]; exact hd)
  obtain ⟨t, st, q⟩ := mm_thru0 X₁ hF rfl hI hp (fun v hv => hst v (List.mem_append_right _ hv)) (vs := vR a :: as) (fun v hv => hst v (List.mem_append_left _ (List.mem_reverse.mpr hv))) hlen (by rw [hb]; exact hd) (mm_spec_of hhk hnamed (hTb.1 _ hcode hgc)) hnamed hpl hmax hG kk (fun ex h' T' rho' locs' cells' slots' x => kx ex h' T' rho' locs' cells' slots' x ls _)
  exact ⟨t, hstep₁ t (fun acts => by rw [doInvoke_state]; exact st), q⟩
end MCR
end
section
/-! AN EXCEPTION IS MADE AND THROWN -/
section MT
variable {p : Program} {l : Launch} {e : Env} {R : Room} {s : State} {m : MethodId} {args : Array Value} {below : List Frame} {meth : Method} {c : Code}
/-- the same walk, told from here on: nothing is written yet, nothing made -/
theorem mm_reroot {T : State} {locs : List Loc} {cells slots : Nat} (X : Stand p l e R s m args below meth c T locs cells slots) (hc : cells ≤ R.cells) (hs : slots ≤ R.slots) :
    Stand p l e { frames := R.frames, cells := R.cells - cells, slots := R.slots - slots, locals := R.locals } (T.setFrames (.invoking m args :: below)) m args below meth c T [] 0 0 := by
  obtain ⟨g₀, hfr⟩ := X.frames_eq
  have hcur : T.cur < T.threads.size := State.cur_lt_of_frames hfr
  have hfs : (T.setFrames (.invoking m args :: below)).frames = .invoking m args :: below := State.frames_setFrames _ hcur
  have hvm : (T.setFrames (.invoking m args :: below)).vm = T.vm := rfl
  have hm : (T.setFrames (.invoking m args :: below)).vm.method? m = some meth := X.method'
  have hl : (T.setFrames (.invoking m args :: below)).localsInUse = s.localsInUse := by
    rw [State.localsInUse_invoking hfs hm X.code, State.localsInUse_invoking X.frames X.method X.code]
  refine ⟨X.admits, X.cas, X.clock, hfs, ?_, ?_, hm, X.code, X.here, X.tail, State.WarmedH.refl _, ?_, ?_, ?_⟩
  · have hr := X.room
    simp only [State.hasRoom, Bool.and_eq_true, decide_eq_true_eq] at hr ⊢
    obtain ⟨⟨⟨⟨r1, r2⟩, r3⟩, r4⟩, r5⟩ := hr
    have hfl : (T.setFrames (.invoking m args :: below)).frames.length = s.frames.length := by rw [hfs, X.frames]
    have hlim : e.platform.stackLimits (T.setFrames (.invoking m args :: below)).me = e.platform.stackLimits s.me := by rw [State.stackLimits_setFrames, X.limits]
    have hby : (T.setFrames (.invoking m args :: below)).me.stackBytes = s.me.stackBytes := by rw [State.stackBytes_setFrames, X.bytes]
    have h1 := X.heapSize
    have h2 := X.used
    refine ⟨⟨⟨⟨by rw [hl]; exact r1, ?_⟩, ?_⟩, ?_⟩, X.book⟩
    · rw [hl, hfl, hlim, hby]; exact r2
    · show T.heap.size + (R.cells - cells) ≤ _
      omega
    · show T.slotsUsed + (R.slots - slots) ≤ _
      omega
  · have h := X.hears
    have ha := X.warmed.alike
    unfold State.hears at h ⊢
    split
    · simp only at h
      rw [State.code?_eq] at h ⊢
      rw [hvm, ha.method?]
      exact h
    · rfl
    · rfl
    · rename_i h1 h2 h3
      split at h
      · exact absurd rfl (h1 _ _)
      · exact absurd rfl (h2 _ _)
      · exact absurd rfl (h3 _ _)
      · rw [hvm, ha.method?]; exact h
  · rw [State.stackLimits_setFrames]
  · rw [State.stackBytes_setFrames]
  · obtain ⟨th, hth, -⟩ := State.frames_cons hfs
    have hcur' : (T.setFrames (.invoking m args :: below)).cur < (T.setFrames (.invoking m args :: below)).threads.size := State.cur_lt_of_frames hfs
    have h := (State.sameButNew.refl (T.setFrames (.invoking m args :: below)) hth).setFrames T.frames hcur'
    have he : (T.setFrames (.invoking m args :: below)).setFrames T.frames = T := by
      obtain ⟨th2, hth2, -⟩ := State.frames_cons hfr
      rw [State.setFrames_setFrames, State.setFrames_self hth2]
    rw [he] at h
    exact h
end MT
theorem mm_isRef {args : Array Value} {s : State} {C n d : String} {A : Nat → Prop} (h : va_Zq C n d A s s.heap) : (Jvm.Cond.isRef (.static C n d)).before args s = true := by
  rcases h with ⟨cf, kf, fi, f, a, cell, h1, h2, h3, h4, h5, h6, h7, h8⟩ | ⟨t, cf, kf, fi, f, a, cell, h1, h2, h3, h4, h5, h6, h7, h8⟩ <;>
    simp [Cond.before, Cond.holds, Cond.value, Term.eval, State.fieldNamed?, h1, h2, h4, h5, h6, h7]
def mm_up : List String := ["java/lang/RuntimeException", "java/lang/Exception"]
/-- the words of a throw: those that go with the tables; four are of the heap -/
def mm_tw (w : Jvm.Cond) : Bool := (decide (w ∈ lw_tbl) && mm_gd w) || decide (w = .isRef (.static "java/lang/Throwable" "UNASSIGNED_STACK" "[Ljava/lang/StackTraceElement;")) || decide (w = .isRef (.static "java/lang/Throwable" "SUPPRESSED_SENTINEL" "Ljava/util/List;")) || decide (w = .laysStatic "java/lang/Throwable" "UNASSIGNED_STACK" "[Ljava/lang/StackTraceElement;") || decide (w = .laysStatic "java/lang/Throwable" "SUPPRESSED_SENTINEL" "Ljava/util/List;")
theorem mm_tw0 : (Bundle.ownAtoms "LispForge" 85 (mm_ex 0) mm_up).all mm_tw = true := by decide +kernel
theorem mm_tw1 : (Bundle.ownAtoms "LispForge$Compiler" 71 (mm_ex 1) mm_up).all mm_tw = true := by decide +kernel
theorem mm_tw2 : (Bundle.ownAtoms "LispForge" 109 (mm_ex 2) mm_up).all mm_tw = true := by decide +kernel
theorem mm_tw_before {Z : Nat → List Int32} {s : State} {D : va_G} {cT : Nat → ClassId} {zt : Nat → Nat} {A : Nat → Prop} {args : Array Value} {w : Jvm.Cond} (hT : mm_T Z s D cT zt A) (h : mm_tw w = true) : w.before args s = true := by
  simp only [mm_tw, Bool.or_eq_true, Bool.and_eq_true, decide_eq_true_eq] at h
  rcases h with (((⟨h1, h2⟩ | h1) | h1) | h1) | h1
  · exact mm_gd_args h2 (hT.1 w h1 h2)
  · subst h1; exact mm_isRef hT.2.2.2.2.2.1.1
  · subst h1; exact mm_isRef hT.2.2.2.2.2.2.1
  · subst h1; exact hT.2.2.2.2.2.1.2 args
  · subst h1; exact hT.2.2.2.2.2.2.2 args
theorem mm_same_cells {s t : State} {k n : Nat} (h : s.sameButNew t [] k n) {q : Nat} (hq : q < s.heap.size) : t.heap[q]? = s.heap[q]? := by
  obtain ⟨-, -, -, -, -, h6⟩ := h
  have h1 : s.heap[q]? = some s.heap[q] := Array.getElem?_eq_getElem hq
  obtain ⟨c', g1, g2, g3, g4⟩ := h6 q _ h1
  have g5 : c'.slots = (s.heap[q]).slots := Array.ext_getElem? fun i => g4 i (by simp)
  rw [g1, h1, g2, g5]
end
section
section MTW
variable {Z : Nat → List Int32} {p : Program} {l : Launch} {e : Env} {R : Room} {s : State} {m : MethodId} {args : Array Value} {below : List Frame} {meth : Method} {c : Code} {H : Heap} {locs : List Loc} {cells slots : Nat} {Q : State → Prop} {cc : ByteArray} {pc : Nat} {ls : Array Slot} {rest : List Value}
/-- a String constant, by either of two instructions -/
theorem mm_ldcS (hx : p.tables.exec = Jvm.exec) (hb : c.code = cc) {own tx : String} {index : Nat} (hown : s.vm.findClass own = some m.cls) (hs : (Jvm.Cond.stringRef own index tx).before args s = true) {n : Nat} (hd : (n = 2 ∧ decode cc pc = .ok (.ldc index, 2)) ∨ (n = 3 ∧ decode cc pc = .ok (.ldc_w index, 3)))
    (k : ∀ a, W p l e R s m args below meth c H locs cells slots Q (F0 m (pc + n) ls (.ref a :: rest))) : W p l e R s m args below meth c H locs cells slots Q (F0 m pc ls rest) := by
  obtain ⟨kc, cf, i, a, hk, hcf, hcp, -, hr, hev⟩ := Cond.stringRef_spec hown hs
  intro T hT X
  obtain ⟨t, a1, b1⟩ := k a T hT X
  refine ⟨t, ?_, b1⟩
  rcases hd with ⟨rfl, hd⟩ | ⟨rfl, hd⟩
  · exact X.ldcString hx hown (text := tx) (a := a) hs hev (g := F0 m pc ls rest) rfl (by rw [hb]; exact hd) t a1
  · obtain ⟨k', hk', he⟩ := X.warmed.alike.2.2 _ _ hk
    have hr' : k'.resolved[index]? = some (some (.string a)) := by
      rcases X.warmed.entry hk hk' index with h | ⟨h, -⟩
      · rw [h]; exact hr
      · rw [hr] at h; cases h
    jvm_step X.here [hx, hb, hd, ldc_w.wp_string (e := e) (s := T) (f := F0 m pc ls rest) X.here.top hk' (by rw [he]; exact hcf) hcp hr']
    exact a1
/-- where the throw ends, told from its own beginning -/
def mm_ThrQ (s : State) (below : List Frame) (C : String) : State → Prop := fun t => ∃ a : Addr, t.status = .running ∧ Ended t below (.threw a) ∧ s.WarmedH t.vm ∧ s.sameButNew ({ t with vm := s.vm } : State) [] 1 6 ∧ mm_thr a C t
theorem mm_throwW {D : va_G} {cT : Nat → ClassId} {zt : Nat → Nat} {A : Nat → Prop} {own C tx : String} {i1 i2 i3 n : Nat} (hx : p.tables.exec = Jvm.exec) (htr : e.platform.stackTraces = false) (hb : c.code = cc) (hml : c.maxLocals = ls.size) (hlk : meth.locks = false) (hex : c.exceptionTable.toList = []) (hown : s.vm.findClass own = some m.cls) (hT : mm_T Z s D cT zt A)
    (hcl : (Jvm.Cond.classLink own i1 C).before args s = true) (hini : (Jvm.Cond.initialized C).before args s = true) (hstr : (Jvm.Cond.stringRef own i2 tx).before args s = true) (hat : (Bundle.ownAtoms own i3 C mm_up).all mm_tw = true) (hfit : Bundle.fit C = true)
    (d1 : decode cc pc = .ok (.new i1, 3)) (d2 : decode cc (pc + 3) = .ok (.dup, 1)) (d3 : (n = 2 ∧ decode cc (pc + 4) = .ok (.ldc i2, 2)) ∨ (n = 3 ∧ decode cc (pc + 4) = .ok (.ldc_w i2, 3))) (d4 : decode cc (pc + 4 + n) = .ok (.invokespecial i3, 3)) (d5 : decode cc (pc + 4 + n + 3) = .ok (.athrow, 1))
    (hfr : 5 < R.frames) (hlo : (rest.map fun v => v.category).sum + 82 ≤ R.locals) (hc1 : 1 ≤ R.cells) (hs6 : 6 ≤ R.slots) : W p l e R s m args below meth c s.heap [] 0 0 (mm_ThrQ s below C) (F0 m pc ls rest) := by
  have hall : ∀ w ∈ Bundle.ownAtoms own i3 C mm_up, w.before args s = true := fun w hw => mm_tw_before hT (List.all_eq_true.mp hat w hw)
  have hins : (Jvm.Cond.instantiable C 6).before args s = true := hall _ (by simp [Bundle.ownAtoms])
  obtain ⟨cX, kX, hfc, hkX, -⟩ := Cond.instantiable_spec hins
  refine W.newcK hx hb hown hcl hins hini rfl d1 (by omega) (by omega) hfc rfl fun H1 kC hkC e1 z1 o1 => ?_
  cases hkX.symm.trans hkC
  refine lv_dup hx hb d2 rfl ?_
  refine mm_ldcS hx hb hown hstr d3 fun q => ?_
  intro T hT2 X
  obtain ⟨U, st, hrun, hend, hW, hsame, ce, hce, oc⟩ := X.ctorThrowS hx htr (own := own) (cls := C) (names := mm_up) (ic := i3) hown hfit (by decide +kernel) hall (fun x hx => by cases hx) (a := s.heap.size) hfc hkX (by rw [hT2]; exact e1) (Nat.le_refl _) (msg := .ref q) rfl (g := F0 m (pc + 3 + 1 + n) ls (.ref q :: .ref s.heap.size :: .ref s.heap.size :: rest)) rfl hml.symm rfl rfl rfl (by rw [hb]; exact d4) (by rw [hb]; exact d5) (by rw [hex]; intro y hy; cases hy) (by simp [mm_up]; omega) (by
      show 2 * 0 + (1 + (rest.map fun v => v.category).sum) + (13 * (2 + 1) + 42) ≤ R.locals
      omega) hlk
  refine ⟨U, st, s.heap.size, hrun, hend, hW, hsame, ce, hce, ?_, ?_⟩
  · rw [oc.vm]; rfl
  · rw [hW.alike.findClass]; exact oc.cls
end MTW
section MTR
variable {Z : Nat → List Int32} {p : Program} {l : Launch} {e : Env} {R : Room} {s : State} {m : MethodId} {args : Array Value} {below : List Frame} {meth : Method} {c : Code} {Post : mm_A → mm_H → Prop} {D : va_G} {cT : Nat → ClassId} {zt : Nat → Nat} {A : Nat → Prop} {rho0 : List Nat} {pc : Nat} {L : mm_L} {st : List mm_V} {h : mm_H}
theorem mr_throw {mi0 d ex i1 i2 i3 n : Nat} {tx : String} (hh0 : mm_hd mi0 = []) (hF : mm_F Z mi0 d p e R s m meth c D cT zt A) (hd6 : 6 ≤ d) (hlen : st.length ≤ 12)
    (hcl : Jvm.Cond.classLink (mm_nm mi0).cls i1 (mm_ex ex) ∈ lw_tbl) (hclg : mm_gd (Jvm.Cond.classLink (mm_nm mi0).cls i1 (mm_ex ex)) = true) (hini : Jvm.Cond.initialized (mm_ex ex) ∈ lw_tbl) (hinig : mm_gd (Jvm.Cond.initialized (mm_ex ex)) = true) (hstr : Jvm.Cond.stringRef (mm_nm mi0).cls i2 tx ∈ lw_tbl) (hat : (Bundle.ownAtoms (mm_nm mi0).cls i3 (mm_ex ex) mm_up).all mm_tw = true) (hfit : Bundle.fit (mm_ex ex) = true)
    (d1 : decode (mm_cd mi0) pc = .ok (.new i1, 3)) (d2 : decode (mm_cd mi0) (pc + 3) = .ok (.dup, 1)) (d3 : (n = 2 ∧ decode (mm_cd mi0) (pc + 4) = .ok (.ldc i2, 2)) ∨ (n = 3 ∧ decode (mm_cd mi0) (pc + 4) = .ok (.ldc_w i2, 3))) (d4 : decode (mm_cd mi0) (pc + 4 + n) = .ok (.invokespecial i3, 3)) (d5 : decode (mm_cd mi0) (pc + 4 + n + 3) = .ok (.athrow, 1))
    (hb1 : 1 ≤ h.2.1) (hb6 : 6 ≤ h.2.2) (hq : Post (aT ex) (h.1, (h.2.1 - 1, h.2.2 - 6))) : mm_W p l e R s m args below meth c (mm_End R s below D cT zt A rho0 Post) D cT zt A (mm_ml mi0) rho0 pc L st h := by
  intro rho H locs cells slots ls hp hst hI T hT X
  obtain ⟨hx, htr, hb, hr, hml, hown, hnm, hlk, hex0, hd1, hd2, hA, hTb⟩ := id hF
  have hex : c.exceptionTable.toList = [] := by
    rw [hh0] at hex0
    exact List.map_eq_nil_iff.mp hex0
  have hbc := hI.2.2.2.2.2.2.2.1
  have hbs := hI.2.2.2.2.2.2.2.2
  have X' := mm_reroot X (by omega) (by omega)
  have hW0 : s.WarmedH (T.setFrames (.invoking m args :: below)).vm := X.warmed
  have hT1 : mm_T Z (T.setFrames (.invoking m args :: below)) D cT zt A := hTb.moved hW0 (fun q h1 h2 => by
    show T.heap[q]? = _
    rw [hT]
    exact hI.2.2.2.2.2.1.2.1 q h1 h2) (fun _ z => z)
  have hcat := mm_catSum (st.map (mm_v rho zt))
  rw [List.length_map] at hcat
  obtain ⟨U, st1, a, hrun, hend, hW, hsame, hthr⟩ := mm_throwW (l := l) (R := { frames := R.frames, cells := R.cells - cells, slots := R.slots - slots, locals := R.locals }) (s := T.setFrames (.invoking m args :: below)) (m := m) (args := args) (below := below) (ls := ls) (rest := st.map (mm_v rho zt)) (own := (mm_nm mi0).cls) (C := mm_ex ex) (tx := tx) hx htr hb (by rw [hml]; exact hI.2.2.2.2.2.2.1.2.1.symm) hlk hex (by
      show T.vm.findClass _ = _
      rw [X.warmed.alike.findClass]; exact hown) hT1 (mm_gd_args hclg (hT1.1 _ hcl hclg)) (mm_gd_args hinig (hT1.1 _ hini hinig)) (mm_gd_args rfl (hT1.1 _ hstr rfl)) hat hfit d1 d2 d3 d4 d5 (by show 5 < R.frames; omega) (by show _ ≤ R.locals; omega) (by show 1 ≤ R.cells - cells; omega) (by show 6 ≤ R.slots - slots; omega) T rfl X'
  obtain ⟨g₀, hfr⟩ := X.frames_eq
  obtain ⟨th, hth, -⟩ := State.frames_cons hfr
  have hcur : T.cur < T.threads.size := State.cur_lt_of_frames hfr
  have h0 : T.sameButNew (T.setFrames (.invoking m args :: below)) [] 0 0 := (State.sameButNew.refl T hth).setFrames _ hcur
  have h1 : T.sameButNew (U.setVm T.vm) ([] ++ []) (0 + 1) (0 + 6) := h0.trans hsame
  have h2 := X.same.trans (h1.setVm s.vm)
  have hheap : ∀ q, q < T.heap.size → U.heap[q]? = T.heap[q]? := fun q hq => mm_same_cells hsame (q := q) hq
  have hsz : T.heap.size ≤ U.heap.size := h1.2.1
  subst hT
  have hP : va_P D vwCl (mm_w rho zt cT h.1) U.heap := hI.2.2.2.1.kept (fun k q hk => hheap q.1 (hI.2.2.2.1 k q hk).lt)
  refine ⟨U, st1, aT ex, (h.1, (h.2.1 - 1, h.2.2 - 6)), rho, .threw a, locs, cells + 1, slots + 6, hq, hrun, hend, ⟨a, rfl, hthr⟩, State.WarmedH.trans X.warmed hW, ?_, hp, hI.1, hI.2.1, hP, hI.2.2.2.2.1, ⟨Nat.le_trans hI.2.2.2.2.2.1.1 hsz, fun q q1 q2 => ?_, hI.2.2.2.2.2.1.2.2⟩, ?_, ?_⟩
  · have h3 : s.sameButNew ((U.setVm T.vm).setVm s.vm) locs (cells + 1) (slots + 6) := by simpa using h2
    exact h3
  · rw [hheap q (Nat.lt_of_lt_of_le q1 hI.2.2.2.2.2.1.1)]
    exact hI.2.2.2.2.2.1.2.1 q q1 q2
  · show cells + 1 + (h.2.1 - 1) ≤ R.cells
    omega
  · show slots + 6 + (h.2.2 - 6) ≤ R.slots
    omega
end MTR
end
section
def mm_cil : List Nat := [0, 1, 99, 6, 8, 2, 4, 5, 0, 0, 1, 1, 0, 0, 8, 1, 1, 0, 8, 0, 0, 0, 5, 0, 0, 5, 0, 0, 6, 6, 6, 6, 6, 6, 3, 0, 6, 3, 6, 3, 6, 6, 6, 1, 2, 3, 2, 2, 2, 2, 2, 9, 2, 2, 2, 2, 2, 7, 2, 8, 2, 2, 7, 2, 2, 2, 2, 2, 2, 2, 2, 1, 2, 2, 2, 2, 2, 2, 1, 1, 99, 99, 2, 1, 1, 8, 8, 0, 4, 4, 4, 4, 4, 4, 1, 4, 4, 0, 5, 5, 5, 5, 5, 5, 5, 5, 5, 5, 10, 10, 10, 10, 10, 10, 10, 10, 10, 10, 10, 10, 10, 10, 10, 10, 10, 10, 10, 10, 10, 10, 10, 10, 10, 10, 10, 10, 10, 10, 10, 10, 10, 10, 10, 10, 10, 10, 10, 10, 10, 10, 10, 10, 10, 10, 10, 10, 10, 10, 10, 10, 10, 10, 10, 10, 10, 10, 99, 99, 99, 99]
def mm_ci (m : Nat) : Nat := mm_cil.getD m 99
/-- the word w stands at the place i of the table, and goes with it from frame to frame -/
def mm_wq (i : Nat) (w : Jvm.Cond) : Bool := decide (lw_tbl[i]? = some w) && mm_gd w
theorem mm_wq_of {i : Nat} {w : Jvm.Cond} (h : mm_wq i w = true) : w ∈ lw_tbl ∧ mm_gd w = true := by
  simp only [mm_wq, Bool.and_eq_true, decide_eq_true_eq] at h
  exact ⟨List.mem_of_getElem? h.1, h.2⟩
theorem mm_wq_before {Z : Nat → List Int32} {i : Nat} {w : Jvm.Cond} {s : State} {D : va_G} {cT : Nat → ClassId} {zt : Nat → Nat} {A : Nat → Prop} {args : Array Value} (h : mm_wq i w = true) (hT : mm_T Z s D cT zt A) : w.before args s = true := by
  obtain ⟨h1, h2⟩ := mm_wq_of h
  exact mm_gd_args h2 (hT.1 w h1 h2)
def mm_own (mi : Nat) : String := (mm_nm mi).cls
def mm_codeW (m : Nat) : Jvm.Cond := .code (mm_nm m) (mm_cd m) (mm_ml m) (mm_rt m)
def mm_pars (m : Nat) : Option Nat := (parseMethodDescriptor (mm_nm m).desc).map fun d => d.parameters.length
/-- the real instruction o, of len bytes at pc of the method mi, is the small machine's step i; hs: where its words stand -/
def mm_res (mi pc : Nat) (o : Instr) (len : Nat) (i : Instr) (hs : List Nat) : Bool := match i with
  | .sipush n => (match o with
    | .iconst k => decide (len = 1) && decide (Int32.ofInt k = Int32.ofInt n)
    | .bipush k => decide (len = 2) && decide ((Int8.ofInt k).toInt32 = Int32.ofInt n)
    | .sipush k => decide (len = 3) && decide ((Int16.ofInt k).toInt32 = Int32.ofInt n)
    | .ldc x => decide (len = 2) && mm_wq (hs.getD 0 0) (.constant (mm_own mi) x (Int32.ofInt n))
    | .ldc_w x => decide (len = 3) && mm_wq (hs.getD 0 0) (.constant (mm_own mi) x (Int32.ofInt n))
    | _ => false)
  | .jsr n => (match o with
    | .ldc2_w x => decide (len = 3) && mm_wq (hs.getD 0 0) (.constantLong (mm_own mi) x (Int64.ofInt n))
    | _ => false)
  | .getstatic j => (match o with
    | .getstatic x => decide (len = 3) && decide (j = 0) && mm_wq (hs.getD 0 0) (.fieldLinkNest (mm_own mi) x "LispForge" "STEP_LENGTHS" "[I" "LispForge")
    | _ => false)
  | .iload k => (match o with
    | .iload j => decide (len = 2) && decide (j = k)
    | .iload_n j => decide (len = 1) && decide (j.val = k)
    | _ => false)
  | .lload k => (match o with
    | .lload j => decide (len = 2) && decide (j = k)
    | .lload_n j => decide (len = 1) && decide (j.val = k)
    | _ => false)
  | .aload k => (match o with
    | .aload j => decide (len = 2) && decide (j = k)
    | .aload_n j => decide (len = 1) && decide (j.val = k)
    | _ => false)
  | .istore k => (match o with
    | .istore j => decide (len = 2) && decide (j = k)
    | .istore_n j => decide (len = 1) && decide (j.val = k)
    | _ => false)
  | .astore k => (match o with
    | .astore j => decide (len = 2) && decide (j = k)
    | .astore_n j => decide (len = 1) && decide (j.val = k)
    | _ => false)
  | .iinc k n => decide (o = .iinc k n) && decide (len = 3)
  | .invokeinterface ci k => (match o, vwCl[ci]? with
    | .getfield x, some q => decide (len = 3) && decide (k < q.2.2) && (mm_wq (hs.getD 0 0) (.fieldLink (mm_own mi) x (q.2.1 k).1 (q.2.1 k).2.1 (q.2.1 k).2.2.1) || mm_wq (hs.getD 0 0) (.fieldLinkNest (mm_own mi) x (q.2.1 k).1 (q.2.1 k).2.1 (q.2.1 k).2.2.1 "LispForge"))
    | _, _ => false)
  | .multianewarray ci k => (match o, vwCl[ci]? with
    | .putfield x, some q => decide (len = 3) && decide (k < q.2.2) && ((mm_wq (hs.getD 0 0) (.fieldLink (mm_own mi) x (q.2.1 k).1 (q.2.1 k).2.1 (q.2.1 k).2.2.1) && (decide ((q.2.1 k).2.2.2 = false) || (decide ((q.2.1 k).2.2.2 = true) && decide ((mm_nm mi).name = "<init>") && decide ((q.2.1 k).1 = mm_own mi)))) || (mm_wq (hs.getD 0 0) (.fieldLinkNest (mm_own mi) x (q.2.1 k).1 (q.2.1 k).2.1 (q.2.1 k).2.2.1 "LispForge") && decide ((q.2.1 k).2.2.2 = false)))
    | _, _ => false)
  | .new ci => (match o, vwCl[ci]? with
    | .new x, some q => decide (len = 3) && mm_wq (hs.getD 0 0) (.classLink (mm_own mi) x q.1) && mm_wq (hs.getD 1 0) (.instantiable q.1 q.2.2) && mm_wq (hs.getD 2 0) (.initialized q.1) && decide ((List.range q.2.2).all (fun j => match (mm_K ci).getD j .int with | .int => true | .boolean => true | .long => true | .object _ => true | .array _ => true | _ => false) = true)
    | _, _ => false)
  | .newarray .int => decide (o = .newarray .int) && decide (len = 2) && mm_wq (hs.getD 0 0) (.arrayClass .int)
  | .newarray .byte => decide (o = .newarray .byte) && decide (len = 2) && mm_wq (hs.getD 0 0) (.arrayClass .byte)
  | .newarray .char => decide (o = .newarray .char) && decide (len = 2) && mm_wq (hs.getD 0 0) (.arrayClass .char)
  | .newarray .long => decide (o = .newarray .long) && decide (len = 2) && mm_wq (hs.getD 0 0) (.arrayClass .long)
  | .anewarray j => (match o with
    | .anewarray x => decide (len = 3) && decide (j < 2) && mm_wq (hs.getD 0 0) (.classLink (mm_own mi) x (if j = 0 then "LispForge$Form" else "LispForge$Unit"))
    | _ => false)
  | .invokestatic m => (match o with
    | .invokestatic x => decide (len = 3) && (mm_wq (hs.getD 0 0) (.methodLink (mm_own mi) x (mm_nm m)) || mm_wq (hs.getD 0 0) (.methodLinkNest (mm_own mi) x (mm_nm m) "LispForge")) && mm_wq (hs.getD 1 0) (.static (mm_nm m)) && mm_wq (hs.getD 2 0) (.initialized (mm_nm m).cls) && mm_wq (hs.getD 3 0) (mm_codeW m) && mm_yok (mm_nm m) && decide (mm_ml m ≤ 20) && decide (mm_pars m = some (mm_na m)) && decide (mm_hd m = [])
    | _ => false)
  | .putstatic m => (match o with
    | .invokestatic x => decide (len = 3) && mm_wq (hs.getD 0 0) (.methodLink (mm_own mi) x (mm_nm m)) && mm_wq (hs.getD 1 0) (.static (mm_nm m)) && mm_wq (hs.getD 2 0) (.initialized (mm_nm m).cls) && mm_wq (hs.getD 3 0) (.codeWith (mm_nm m) (mm_cd m) (mm_ml m) (mm_rt m) (mm_hd m)) && mm_yok (mm_nm m) && decide (mm_ml m ≤ 20) && decide (mm_pars m = some (mm_na m))
    | _ => false)
  | .invokevirtual m => (match o, vwCl[mm_ci m]? with
    | .invokespecial x, some _ => decide (len = 3) && (mm_wq (hs.getD 0 0) (.methodLink (mm_own mi) x (mm_nm m)) || mm_wq (hs.getD 0 0) (.methodLinkNest (mm_own mi) x (mm_nm m) "LispForge")) && mm_wq (hs.getD 1 0) (.instanceMethod (mm_nm m)) && mm_wq (hs.getD 3 0) (mm_codeW m) && mm_yok (mm_nm m) && decide (mm_ml m ≤ 20) && decide ((mm_nm m).name = "<init>") && decide (mm_rt m = none) && decide ((mm_pars m).map (· + 1) = some (mm_na m)) && decide (mm_hd m = [])
    | .invokevirtual x, some q => decide (len = 3) && mm_wq (hs.getD 0 0) (.methodLink (mm_own mi) x (mm_nm m)) && mm_wq (hs.getD 1 0) (.instanceMethod (mm_nm m)) && mm_wq (hs.getD 2 0) (.selects q.1 (mm_nm m) (mm_nm m)) && mm_wq (hs.getD 4 0) (mm_codeW m) && mm_yok (mm_nm m) && decide (mm_ml m ≤ 20) && decide ((mm_pars m).map (· + 1) = some (mm_na m)) && decide (mm_hd m = [])
    | _, _ => false)
  | .invokespecial _ => (match o with
    | .invokespecial x => decide (len = 3) && mm_wq (hs.getD 0 0) (.methodLink (mm_own mi) x Lib.objectInit) && mm_wq (hs.getD 1 0) (.instanceMethod Lib.objectInit) && mm_wq (hs.getD 2 0) (.code Lib.objectInit ⟨#[0xb1]⟩ 1 none)
    | _ => false)
  | .fadd => (match o with
    | .invokestatic x => decide (len = 3) && mm_wq (hs.getD 0 0) (.methodLink (mm_own mi) x Lib.Math.max.name) && mm_wq (hs.getD 1 0) (.static Lib.Math.max.name) && mm_wq (hs.getD 2 0) (.initialized "java/lang/Math") && mm_wq (hs.getD 3 0) (.code Lib.Math.max.name Lib.Math.max.code 2 (some .int))
    | _ => false)
  | .fsub => (match o with
    | .invokestatic x => decide (len = 3) && mm_wq (hs.getD 0 0) (.methodLink (mm_own mi) x Lib.Math.min.name) && mm_wq (hs.getD 1 0) (.static Lib.Math.min.name) && mm_wq (hs.getD 2 0) (.initialized "java/lang/Math") && mm_wq (hs.getD 3 0) (.code Lib.Math.min.name Lib.Math.min.code 2 (some .int))
    | _ => false)
  | .goto t => (match o with
    | .goto off => decide (len = 3) && decide ((pc : Int) + off = (t.toNat : Int))
    | _ => false)
  | .if_icmp cd t => (match o with
    | .if_icmp ce off => decide (len = 3) && decide (ce = cd) && decide ((pc : Int) + off = (t.toNat : Int))
    | _ => false)
  | .ifCond cd t => (match o with
    | .ifCond ce off => decide (len = 3) && decide (ce = cd) && decide ((pc : Int) + off = (t.toNat : Int))
    | _ => false)
  | .if_acmp cd t => (match o with
    | .if_acmp ce off => decide (len = 3) && decide (ce = cd) && decide ((pc : Int) + off = (t.toNat : Int))
    | _ => false)
  | .ifnull t => (match o with
    | .ifnull off => decide (len = 3) && decide ((pc : Int) + off = (t.toNat : Int))
    | _ => false)
  | .ifnonnull t => (match o with
    | .ifnonnull off => decide (len = 3) && decide ((pc : Int) + off = (t.toNat : Int))
    | _ => false)
  | .lookupswitch d ps => (match o with
    | .lookupswitch d0 qs => decide ((pc : Int) + d0 = (d.toNat : Int)) && decide (((qs.toList.zip (qs.toList.drop 1)).all fun (a, next) => a.1 < next.1) = true) && decide (ps.toList = qs.toList.map fun q => (q.1, (pc : Int) + q.2)) && qs.toList.all (fun q => decide (0 ≤ (pc : Int) + q.2 ∧ -2147483648 ≤ q.1 ∧ q.1 ≤ 2147483647))
    | .tableswitch d0 lo hi offs => decide ((pc : Int) + d0 = (d.toNat : Int)) && decide (ps.toList = (List.range offs.size).map fun (j : Nat) => (lo + (j : Int), (pc : Int) + offs.toList.getD j 0)) && decide (hi - lo + 1 = (offs.size : Int)) && offs.toList.all (fun q => decide (0 ≤ (pc : Int) + q)) && decide (-2147483648 ≤ lo ∧ hi ≤ 2147483647)
    | _ => false)
  | .return_ => decide (o = .return_) && decide (len = 1) && decide (mm_rt mi = none)
  | .ireturn => decide (o = .ireturn) && decide (len = 1) && decide (mm_rt mi = some .int)
  | .freturn => decide (o = .ireturn) && decide (len = 1) && decide (mm_rt mi = some .boolean)
  | .areturn => decide (o = .areturn) && decide (len = 1) && (match mm_rt mi with
    | some (.object _) => true
    | some (.array _) => true
    | _ => false)
  | i => decide (o = i) && decide (len = 1)
/-- no call, no throw -/
def mm_nc (i : Instr) : Bool := match i with
  | .invokestatic _ => false
  | .putstatic _ => false
  | .invokevirtual _ => false
  | .checkcast _ => false
  | _ => true
/-- where an exception's constructor is linked: (class, exception, its pool number) -/
def mm_site (mi e i3 : Nat) : Bool := (decide (mm_own mi = "LispForge") && decide (e = 0) && decide (i3 = 85)) || (decide (mm_own mi = "LispForge$Compiler") && decide (e = 1) && decide (i3 = 71)) || (decide (mm_own mi = "LispForge") && decide (e = 2) && decide (i3 = 109))
theorem mm_site_of {mi e i3 : Nat} (h : mm_site mi e i3 = true) : (Bundle.ownAtoms (mm_own mi) i3 (mm_ex e) mm_up).all mm_tw = true ∧ Jvm.Cond.initialized (mm_ex e) ∈ lw_tbl ∧ Bundle.fit (mm_ex e) = true := by
  simp only [mm_site, Bool.or_eq_true, Bool.and_eq_true, decide_eq_true_eq] at h
  rcases h with (⟨⟨h1, rfl⟩, rfl⟩ | ⟨⟨h1, rfl⟩, rfl⟩) | ⟨⟨h1, rfl⟩, rfl⟩
  · rw [h1]; exact ⟨mm_tw0, List.mem_of_getElem? (i := 92) (by decide +kernel), by decide +kernel⟩
  · rw [h1]; exact ⟨mm_tw1, List.mem_of_getElem? (i := 93) (by decide +kernel), by decide +kernel⟩
  · rw [h1]; exact ⟨mm_tw2, List.mem_of_getElem? (i := 98) (by decide +kernel), by decide +kernel⟩
/-- the five steps of a throw -/
def mm_chkT (mi pc e : Nat) (hs : List Nat) : Bool := match decode (mm_cd mi) pc with
  | .ok (.new i1, 3) => (match decode (mm_cd mi) (pc + 4) with
    | .ok (.ldc i2, 2) => (match decode (mm_cd mi) (pc + 6) with
      | .ok (.invokespecial i3, 3) => decide (decode (mm_cd mi) (pc + 3) = .ok (.dup, 1)) && decide (decode (mm_cd mi) (pc + 9) = .ok (.athrow, 1)) && mm_wq (hs.getD 0 0) (.classLink (mm_own mi) i1 (mm_ex e)) && (match lw_tbl[hs.getD 1 0]? with
        | some (.stringRef a b _) => decide (a = mm_own mi) && decide (b = i2)
        | _ => false) && mm_site mi e i3
      | _ => false)
    | .ok (.ldc_w i2, 3) => (match decode (mm_cd mi) (pc + 7) with
      | .ok (.invokespecial i3, 3) => decide (decode (mm_cd mi) (pc + 3) = .ok (.dup, 1)) && decide (decode (mm_cd mi) (pc + 10) = .ok (.athrow, 1)) && mm_wq (hs.getD 0 0) (.classLink (mm_own mi) i1 (mm_ex e)) && (match lw_tbl[hs.getD 1 0]? with
        | some (.stringRef a b _) => decide (a = mm_own mi) && decide (b = i2)
        | _ => false) && mm_site mi e i3
      | _ => false)
    | _ => false)
  | _ => false
def mm_last1 (i : Instr) : Bool := match i with
  | .goto _ => true
  | .lookupswitch _ _ => true
  | .return_ => true
  | .ireturn => true
  | .freturn => true
  | .areturn => true
  | _ => false
def mm_chk (mi : Nat) : Nat → List Instr → List (List Nat) → Bool
  | _, [], _ => true
  | pc, i :: is, hs => match i with
    | .goto_w t => decide (t.toNat = pc)
    | .checkcast e => mm_chkT mi pc e (hs.headD [])
    | i => (match decode (mm_cd mi) pc with
      | .ok (o, len) => mm_res mi pc o len i (hs.headD []) && (mm_last1 i || mm_chk mi (pc + len) is hs.tail)
      | .error _ => false)
end
section
theorem mm_gd_uws {C : String} {T : u_T} {N : Nat} : ∀ w ∈ u_ws C T N, mm_gd w = true := by
  intro w hw
  obtain ⟨k, -, rfl⟩ := List.mem_map.mp hw
  unfold u_lay
  split <;> rfl
theorem mm_uws {Z : Nat → List Int32} {ci : Nat} {q : vw_C} {s : State} {D : va_G} {cT : Nat → ClassId} {zt : Nat → Nat} {A : Nat → Prop} {args : Array Value} (hq : vwCl[ci]? = some q) (hT : mm_T Z s D cT zt A) : ∀ w ∈ u_ws q.1 q.2.1 q.2.2, w.before args s = true := fun w hw => mm_gd_args (mm_gd_uws w hw) (hT.1 w ((mm_cls_ok hq).1 w hw) (mm_gd_uws w hw))
theorem mm_fresh0 (tys : List FieldType) : ∀ v ∈ mm_fresh tys, mm_ok 0 v := by
  intro v hv
  obtain ⟨t, -, rfl⟩ := List.mem_map.mp hv
  cases t <;> trivial
theorem mm_fresh_at {tys : List FieldType} {N : Nat} (hl : tys.length = N) (ht : ∀ j, j < N → (match tys.getD j .int with | .int => true | .boolean => true | .long => true | .object _ => true | .array _ => true | _ => false) = true) (rho : List Nat) (zt : Nat → Nat) (j : Nat) (hj : j < N) : defaultValue (tys.getD j .int) = vp_V ((mm_fresh tys).map (mm_v rho zt)) j := by
  have h1 : tys[j]? = some (tys.getD j .int) := by
    rw [List.getD_eq_getElem?_getD, List.getElem?_eq_getElem (by omega)]; rfl
  have h2 := ht j hj
  simp only [vp_V, mm_fresh, List.map_map, List.getD_eq_getElem?_getD, List.getElem?_map]
  rw [List.getD_eq_getElem?_getD] at h1 h2
  rw [h1] at h2 ⊢
  generalize tys[j]?.getD FieldType.int = t at h2 ⊢
  cases t <;> simp_all [defaultValue, mm_v]
set_option maxHeartbeats 4000000 in
/-- ONE STEP of the small machine is one of the real one -/
theorem mm_s1_sound {Z : Nat → List Int32} {p : Program} {l : Launch} {e : Env} {R : Room} {s : State} {m : MethodId} {args : Array Value} {below : List Frame} {meth : Method} {c : Code} {Q : State → Prop} {D : va_G} {cT : Nat → ClassId} {zt : Nat → Nat} {A : Nat → Prop} {rho0 : List Nat} {mi d pc len : Nat} {i w : Instr} {hs : List Nat} {L L' : mm_L} {st st' : List mm_V} {h h' : mm_H}
    (hF : mm_F Z mi d p e R s m meth c D cT zt A) (hdc : decode (mm_cd mi) pc = .ok (w, len)) (hres : mm_res mi pc w len i hs = true) (hs1 : mm_s1 mm_K Z i L st h = some (L', st', h')) (k : mm_W p l e R s m args below meth c Q D cT zt A (mm_ml mi) rho0 (pc + len) L' st' h') : mm_W p l e R s m args below meth c Q D cT zt A (mm_ml mi) rho0 pc L st h := by
  obtain ⟨hx, htr, hb, hr, hml, hown, hnm, hlk, hex, hd1, hd2, hA, hTb⟩ := id hF
  have hK := hTb.2.1
  unfold mm_s1 at hs1
  split at hs1
  · cases hs1
    simp only [mm_res] at hres
    split at hres <;> simp only [Bool.and_eq_true, Bool.or_eq_true, decide_eq_true_eq, Bool.false_eq_true] at hres
    · obtain ⟨rfl, hv⟩ := hres; exact mr_iconst hx hb hdc hv k
    · obtain ⟨rfl, hv⟩ := hres; exact mr_bipush hx hb hdc hv k
    · obtain ⟨rfl, hv⟩ := hres; exact mr_sipush hx hb hdc hv k
    · obtain ⟨rfl, hv⟩ := hres; exact mr_ldc hx hb hown (mm_wq_before hv hTb) hdc k
    · obtain ⟨rfl, hv⟩ := hres; exact mr_ldcw hx hb hown (mm_wq_before hv hTb) hdc k
  · cases hs1
    simp only [mm_res] at hres
    simp only [Bool.and_eq_true, Bool.or_eq_true, decide_eq_true_eq, Bool.false_eq_true] at hres
    obtain ⟨rfl, rfl⟩ := hres
    exact mr_lconst hx hb hdc k
  · cases hs1
    simp only [mm_res] at hres
    simp only [Bool.and_eq_true, Bool.or_eq_true, decide_eq_true_eq, Bool.false_eq_true] at hres
    obtain ⟨rfl, rfl⟩ := hres
    exact mr_null hx hb hdc k
  · cases hs1
    simp only [mm_res] at hres
    split at hres <;> simp only [Bool.and_eq_true, Bool.or_eq_true, decide_eq_true_eq, Bool.false_eq_true] at hres
    obtain ⟨⟨rfl, rfl⟩, hv⟩ := hres
    exact mr_getsN hx hb hTb.2.2.2.1 hown (mm_wq_before hv hTb) hdc k
  · split at hs1
    · rename_i hL
      cases hs1
      simp only [mm_res] at hres
      split at hres <;> simp only [Bool.and_eq_true, Bool.or_eq_true, decide_eq_true_eq, Bool.false_eq_true] at hres
      · obtain ⟨rfl, rfl⟩ := hres; exact mr_iload hx hb hL hdc k
      · obtain ⟨rfl, rfl⟩ := hres; exact mr_iload_n hx hb hL hdc k
    · cases hs1
  · split at hs1
    · rename_i hL
      cases hs1
      simp only [mm_res] at hres
      split at hres <;> simp only [Bool.and_eq_true, Bool.or_eq_true, decide_eq_true_eq, Bool.false_eq_true] at hres
      · obtain ⟨rfl, rfl⟩ := hres; exact mr_lload hx hb hL hdc k
      · obtain ⟨rfl, rfl⟩ := hres; exact mr_lload_n hx hb hL hdc k
    · cases hs1
  · split at hs1
    · rename_i hL
      cases hs1
      simp only [mm_res] at hres
      split at hres <;> simp only [Bool.and_eq_true, Bool.or_eq_true, decide_eq_true_eq, Bool.false_eq_true] at hres
      · obtain ⟨rfl, rfl⟩ := hres; exact mr_aload hx hb hL hdc k
      · obtain ⟨rfl, rfl⟩ := hres; exact mr_aload_n hx hb hL hdc k
    · rename_i hL
      cases hs1
      simp only [mm_res] at hres
      split at hres <;> simp only [Bool.and_eq_true, Bool.or_eq_true, decide_eq_true_eq, Bool.false_eq_true] at hres
      · obtain ⟨rfl, rfl⟩ := hres; exact mr_aloadZ hx hb hL hdc k
      · obtain ⟨rfl, rfl⟩ := hres; exact mr_aloadZ_n hx hb hL hdc k
    · cases hs1
  · split at hs1
    · simp only [Option.map_eq_some_iff] at hs1
      obtain ⟨L2, hs2, he⟩ := hs1
      cases he
      simp only [mm_res] at hres
      split at hres <;> simp only [Bool.and_eq_true, Bool.or_eq_true, decide_eq_true_eq, Bool.false_eq_true] at hres
      · obtain ⟨rfl, rfl⟩ := hres; exact mr_istore hx hb hs2 hdc k
      · obtain ⟨rfl, rfl⟩ := hres; exact mr_istore_n hx hb hs2 hdc k
    · cases hs1
  · split at hs1
    · simp only [Option.map_eq_some_iff] at hs1
      obtain ⟨L2, hs2, he⟩ := hs1
      cases he
      simp only [mm_res] at hres
      split at hres <;> simp only [Bool.and_eq_true, Bool.or_eq_true, decide_eq_true_eq, Bool.false_eq_true] at hres
      · obtain ⟨rfl, rfl⟩ := hres; exact mr_astore hx hb hs2 hdc k
      · obtain ⟨rfl, rfl⟩ := hres; exact mr_astore_n hx hb hs2 hdc k
    · cases hs1
  · split at hs1
    · rename_i hL
      simp only [Option.map_eq_some_iff] at hs1
      obtain ⟨L2, hs2, he⟩ := hs1
      cases he
      simp only [mm_res] at hres
      simp only [Bool.and_eq_true, Bool.or_eq_true, decide_eq_true_eq, Bool.false_eq_true] at hres
      obtain ⟨rfl, rfl⟩ := hres
      exact mr_iinc hx hb hL hs2 hdc k
    · cases hs1
  · split at hs1
    · simp only [Option.map_eq_some_iff] at hs1
      obtain ⟨v, hv, he⟩ := hs1
      cases he
      simp only [mm_res] at hres
      split at hres <;> simp only [Bool.and_eq_true, Bool.or_eq_true, decide_eq_true_eq, Bool.false_eq_true] at hres
      rename_i q hq
      obtain ⟨⟨rfl, hk⟩, hw | hw⟩ := hres
      · exact mr_get hx hb (mm_uws hq hTb) (fun _ z => z) hown hK hq hk (mm_wq_before hw hTb) hv hdc k
      · exact mr_getN hx hb (mm_uws hq hTb) (fun _ z => z) hown hK hq hk (mm_wq_before hw hTb) hv hdc k
    · cases hs1
  · split at hs1
    · rename_i ci fk _ v a r
      have key : ∃ h2, mm_put h a ci fk v = some h2 ∧ (L, r, h2) = (L', st', h') ∧ ∀ rho : List Nat, narrow ((mm_K ci).getD fk .int) (mm_v rho zt v) = mm_v rho zt v ∧ fits ((mm_K ci).getD fk .int) (mm_v rho zt v) = true := by
        split at hs1
        · rename_i hty
          simp only [Option.map_eq_some_iff] at hs1
          obtain ⟨h2, g1, g2⟩ := hs1
          exact ⟨h2, g1, g2, fun rho => by simp only [List.getD_eq_getElem?_getD, hty]; exact ⟨rfl, rfl⟩⟩
        · rename_i hty
          split at hs1
          · rename_i h01
            simp only [Option.map_eq_some_iff] at hs1
            obtain ⟨h2, g1, g2⟩ := hs1
            refine ⟨h2, g1, g2, fun rho => ?_⟩
            simp only [List.getD_eq_getElem?_getD, hty]
            rcases h01 with rfl | rfl <;> exact ⟨rfl, rfl⟩
          · cases hs1
        · rename_i y _ hty
          simp only [Option.map_eq_some_iff] at hs1
          obtain ⟨h2, g1, g2⟩ := hs1
          refine ⟨h2, g1, g2, fun rho => ?_⟩
          simp only [List.getD_eq_getElem?_getD, hty]
          cases y <;> exact ⟨rfl, rfl⟩
        · rename_i y _ hty
          simp only [Option.map_eq_some_iff] at hs1
          obtain ⟨h2, g1, g2⟩ := hs1
          refine ⟨h2, g1, g2, fun rho => ?_⟩
          simp only [List.getD_eq_getElem?_getD, hty]
          cases y <;> exact ⟨rfl, rfl⟩
        · cases hs1
      obtain ⟨h2, hv, he, hn⟩ := key
      cases he
      simp only [mm_res] at hres
      split at hres <;> simp only [Bool.and_eq_true, Bool.or_eq_true, decide_eq_true_eq, Bool.false_eq_true] at hres
      rename_i q hq
      obtain ⟨o1, o2, o3, o4, o5⟩ := mm_cls_ok hq
      obtain ⟨⟨rfl, hk⟩, ⟨hw, hfin | ⟨⟨hfin, hin⟩, hdecl⟩⟩ | ⟨hw, hfin⟩⟩ := hres
      · exact mr_put hx hb (mm_uws hq hTb) (fun _ z => z) (fun j => (mm_K ci).getD j .int) o2 o3 hown hK hq hk (mm_wq_before hw hTb) hfin hn hv hdc k
      · exact mr_putF hx hb (mm_uws hq hTb) (fun _ z => z) (fun j => (mm_K ci).getD j .int) o2 o3 hown hK hq hk (mm_wq_before hw hTb) hfin (by rw [hnm]; exact hin) hdecl hn hv hdc k
      · exact mr_putN hx hb (mm_uws hq hTb) (fun _ z => z) (fun j => (mm_K ci).getD j .int) o2 o3 hown hK hq hk (mm_wq_before hw hTb) hfin hn hv hdc k
    · cases hs1
  · simp only [Option.map_eq_some_iff] at hs1
    obtain ⟨h2, hv, he⟩ := hs1
    cases he
    simp only [mm_res] at hres
    split at hres <;> simp only [Bool.and_eq_true, Bool.or_eq_true, decide_eq_true_eq, Bool.false_eq_true] at hres
    rename_i q hq
    obtain ⟨o1, o2, o3, o4, o5⟩ := mm_cls_ok hq
    obtain ⟨⟨⟨⟨rfl, w1⟩, w2⟩, w3⟩, w4⟩ := hres
    rw [o4] at hv
    exact mr_new hx hb (mm_uws hq hTb) (fun _ z => z) (fun j => (mm_K _).getD j .int) o2 hown (mm_wq_before w1 hTb) (mm_wq_before w2 hTb) (mm_wq_before w3 hTb) hK hA hq (fs := mm_fresh (mm_K _)) (fun rho j hj => mm_fresh_at o4 (fun j hj => List.all_eq_true.mp w4 j (List.mem_range.mpr hj)) rho zt j hj) (mm_fresh0 _) hv hdc k
  · split at hs1
    · split at hs1
      · cases hs1
      · rename_i hneg
        simp only [Option.map_eq_some_iff] at hs1
        obtain ⟨h2, hv, he⟩ := hs1
        cases he
        simp only [mm_res] at hres
        simp only [Bool.and_eq_true, Bool.or_eq_true, decide_eq_true_eq, Bool.false_eq_true] at hres
        obtain ⟨⟨rfl, rfl⟩, w1⟩ := hres
        exact mr_newa_int hx hb (mm_wq_before w1 hTb) hK hA (fun z => hneg (Or.inl z)) rfl (by
          have := Nat.not_lt.mp fun z => hneg (Or.inr z)
          omega) hv hdc k
    · cases hs1
  · split at hs1
    · split at hs1
      · cases hs1
      · rename_i hneg
        simp only [Option.map_eq_some_iff] at hs1
        obtain ⟨h2, hv, he⟩ := hs1
        cases he
        simp only [mm_res] at hres
        simp only [Bool.and_eq_true, Bool.or_eq_true, decide_eq_true_eq, Bool.false_eq_true] at hres
        obtain ⟨⟨rfl, rfl⟩, w1⟩ := hres
        exact mr_newa_byte hx hb (mm_wq_before w1 hTb) hK hA (fun z => hneg (Or.inl z)) rfl (by
          have := Nat.not_lt.mp fun z => hneg (Or.inr z)
          omega) hv hdc k
    · cases hs1
  · split at hs1
    · split at hs1
      · cases hs1
      · rename_i hneg
        simp only [Option.map_eq_some_iff] at hs1
        obtain ⟨h2, hv, he⟩ := hs1
        cases he
        simp only [mm_res] at hres
        simp only [Bool.and_eq_true, Bool.or_eq_true, decide_eq_true_eq, Bool.false_eq_true] at hres
        obtain ⟨⟨rfl, rfl⟩, w1⟩ := hres
        exact mr_newa_char hx hb (mm_wq_before w1 hTb) hK hA (fun z => hneg (Or.inl z)) rfl (by
          have := Nat.not_lt.mp fun z => hneg (Or.inr z)
          omega) hv hdc k
    · cases hs1
  · split at hs1
    · split at hs1
      · cases hs1
      · rename_i hneg
        simp only [Option.map_eq_some_iff] at hs1
        obtain ⟨h2, hv, he⟩ := hs1
        cases he
        simp only [mm_res] at hres
        simp only [Bool.and_eq_true, Bool.or_eq_true, decide_eq_true_eq, Bool.false_eq_true] at hres
        obtain ⟨⟨rfl, rfl⟩, w1⟩ := hres
        exact mr_newa_long hx hb (mm_wq_before w1 hTb) hK hA (fun z => hneg (Or.inl z)) rfl (by
          have := Nat.not_lt.mp fun z => hneg (Or.inr z)
          omega) hv hdc k
    · cases hs1
  · rename_i cq
    split at hs1
    · split at hs1
      · cases hs1
      · rename_i hneg
        simp only [Option.map_eq_some_iff] at hs1
        obtain ⟨h2, hv, he⟩ := hs1
        cases he
        simp only [mm_res] at hres
        split at hres <;> simp only [Bool.and_eq_true, Bool.or_eq_true, decide_eq_true_eq, Bool.false_eq_true] at hres
        obtain ⟨⟨rfl, hj⟩, w1⟩ := hres
        have hlim := Nat.not_lt.mp fun z => hneg (Or.inr z)
        obtain rfl | rfl : cq = 0 ∨ cq = 1 := by omega
        · exact mr_newq (C := "LispForge$Form") hx hb hown (mm_wq_before w1 hTb) (hTb.2.2.1 _ (by simp [mm_over])) hK (j := 0) rfl hA (fun z => hneg (Or.inl z)) rfl (by omega) hv hdc k
        · exact mr_newq (C := "LispForge$Unit") hx hb hown (mm_wq_before w1 hTb) (hTb.2.2.1 _ (by simp [mm_over])) hK (j := 1) rfl hA (fun z => hneg (Or.inl z)) rfl (by omega) hv hdc k
    · cases hs1
  · simp only [mm_res] at hres
    simp only [Bool.and_eq_true, Bool.or_eq_true, decide_eq_true_eq, Bool.false_eq_true] at hres
    obtain ⟨rfl, rfl⟩ := hres
    split at hs1
    · simp only [Option.map_eq_some_iff] at hs1
      obtain ⟨n, hv, he⟩ := hs1
      cases he
      exact mr_alen hx hb hK hv hdc k
    · split at hs1
      · rename_i hj
        cases hs1
        exact mr_zlen hx hb (hTb.2.2.2.2.1 _ hj) hdc k
      · cases hs1
    · cases hs1
  · simp only [mm_res] at hres
    simp only [Bool.and_eq_true, Bool.or_eq_true, decide_eq_true_eq, Bool.false_eq_true] at hres
    obtain ⟨rfl, rfl⟩ := hres
    split at hs1
    · simp only [Option.map_eq_some_iff] at hs1
      obtain ⟨x, hv, he⟩ := hs1
      cases he
      exact mr_iald hx hb hK hv hdc k
    · split at hs1
      · rename_i hj
        simp only [Option.map_eq_some_iff] at hs1
        obtain ⟨x, hv, he⟩ := hs1
        cases he
        exact mr_zald hx hb (hTb.2.2.2.2.1 _ hj) hv hdc k
      · cases hs1
    · cases hs1
  · simp only [mm_res] at hres
    simp only [Bool.and_eq_true, Bool.or_eq_true, decide_eq_true_eq, Bool.false_eq_true] at hres
    obtain ⟨rfl, rfl⟩ := hres
    split at hs1
    · simp only [Option.map_eq_some_iff] at hs1
      obtain ⟨x, hv, he⟩ := hs1
      cases he
      exact mr_iast hx hb hK hv hdc k
    · cases hs1
  · simp only [mm_res] at hres
    simp only [Bool.and_eq_true, Bool.or_eq_true, decide_eq_true_eq, Bool.false_eq_true] at hres
    obtain ⟨rfl, rfl⟩ := hres
    split at hs1
    · simp only [Option.map_eq_some_iff] at hs1
      obtain ⟨x, hv, he⟩ := hs1
      cases he
      exact mr_bald hx hb hK hv hdc k
    · cases hs1
  · simp only [mm_res] at hres
    simp only [Bool.and_eq_true, Bool.or_eq_true, decide_eq_true_eq, Bool.false_eq_true] at hres
    obtain ⟨rfl, rfl⟩ := hres
    split at hs1
    · simp only [Option.map_eq_some_iff] at hs1
      obtain ⟨x, hv, he⟩ := hs1
      cases he
      exact mr_cald hx hb hK hv hdc k
    · cases hs1
  · simp only [mm_res] at hres
    simp only [Bool.and_eq_true, Bool.or_eq_true, decide_eq_true_eq, Bool.false_eq_true] at hres
    obtain ⟨rfl, rfl⟩ := hres
    split at hs1
    · simp only [Option.map_eq_some_iff] at hs1
      obtain ⟨x, hv, he⟩ := hs1
      cases he
      exact mr_bast hx hb hK hv hdc k
    · cases hs1
  · simp only [mm_res] at hres
    simp only [Bool.and_eq_true, Bool.or_eq_true, decide_eq_true_eq, Bool.false_eq_true] at hres
    obtain ⟨rfl, rfl⟩ := hres
    split at hs1
    · simp only [Option.map_eq_some_iff] at hs1
      obtain ⟨x, hv, he⟩ := hs1
      cases he
      exact mr_cast hx hb hK hv hdc k
    · cases hs1
  · simp only [mm_res] at hres
    simp only [Bool.and_eq_true, Bool.or_eq_true, decide_eq_true_eq, Bool.false_eq_true] at hres
    obtain ⟨rfl, rfl⟩ := hres
    split at hs1
    · simp only [Option.map_eq_some_iff] at hs1
      obtain ⟨x, hv, he⟩ := hs1
      cases he
      exact mr_lald hx hb hK hv hdc k
    · cases hs1
  · simp only [mm_res] at hres
    simp only [Bool.and_eq_true, Bool.or_eq_true, decide_eq_true_eq, Bool.false_eq_true] at hres
    obtain ⟨rfl, rfl⟩ := hres
    split at hs1
    · simp only [Option.map_eq_some_iff] at hs1
      obtain ⟨x, hv, he⟩ := hs1
      cases he
      exact mr_last hx hb hK hv hdc k
    · cases hs1
  · simp only [mm_res] at hres
    simp only [Bool.and_eq_true, Bool.or_eq_true, decide_eq_true_eq, Bool.false_eq_true] at hres
    obtain ⟨rfl, rfl⟩ := hres
    split at hs1
    · simp only [Option.map_eq_some_iff] at hs1
      obtain ⟨x, hv, he⟩ := hs1
      cases he
      exact mr_aald hx hb hK hv hdc k
    · cases hs1
  · simp only [mm_res] at hres
    simp only [Bool.and_eq_true, Bool.or_eq_true, decide_eq_true_eq, Bool.false_eq_true] at hres
    obtain ⟨rfl, rfl⟩ := hres
    split at hs1
    · simp only [Option.map_eq_some_iff] at hs1
      obtain ⟨x, hv, he⟩ := hs1
      cases he
      exact mr_aast hx hb hK hv hdc k
    · cases hs1
  · simp only [mm_res] at hres
    simp only [Bool.and_eq_true, Bool.or_eq_true, decide_eq_true_eq, Bool.false_eq_true] at hres
    obtain ⟨rfl, rfl⟩ := hres
    split at hs1
    · cases hs1; exact mr_pop hx hb (fun x z => by cases z) hdc k
    · cases hs1; exact mr_pop hx hb (fun x z => by cases z) hdc k
    · cases hs1
  · simp only [mm_res] at hres
    simp only [Bool.and_eq_true, Bool.or_eq_true, decide_eq_true_eq, Bool.false_eq_true] at hres
    obtain ⟨rfl, rfl⟩ := hres
    split at hs1
    · cases hs1; exact mr_dup hx hb (fun x z => by cases z) hdc k
    · cases hs1; exact mr_dup hx hb (fun x z => by cases z) hdc k
    · cases hs1
  · simp only [mm_res] at hres
    simp only [Bool.and_eq_true, Bool.or_eq_true, decide_eq_true_eq, Bool.false_eq_true] at hres
    obtain ⟨rfl, rfl⟩ := hres
    split at hs1
    · cases hs1; exact mr_iadd hx hb hdc k
    · cases hs1
  · simp only [mm_res] at hres
    simp only [Bool.and_eq_true, Bool.or_eq_true, decide_eq_true_eq, Bool.false_eq_true] at hres
    obtain ⟨rfl, rfl⟩ := hres
    split at hs1
    · cases hs1; exact mr_isub hx hb hdc k
    · cases hs1
  · simp only [mm_res] at hres
    simp only [Bool.and_eq_true, Bool.or_eq_true, decide_eq_true_eq, Bool.false_eq_true] at hres
    obtain ⟨rfl, rfl⟩ := hres
    split at hs1
    · cases hs1; exact mr_imul hx hb hdc k
    · cases hs1
  · simp only [mm_res] at hres
    simp only [Bool.and_eq_true, Bool.or_eq_true, decide_eq_true_eq, Bool.false_eq_true] at hres
    obtain ⟨rfl, rfl⟩ := hres
    split at hs1
    · cases hs1; exact mr_iand hx hb hdc k
    · cases hs1
  · simp only [mm_res] at hres
    simp only [Bool.and_eq_true, Bool.or_eq_true, decide_eq_true_eq, Bool.false_eq_true] at hres
    obtain ⟨rfl, rfl⟩ := hres
    split at hs1
    · cases hs1; exact mr_ior hx hb hdc k
    · cases hs1
  · simp only [mm_res] at hres
    simp only [Bool.and_eq_true, Bool.or_eq_true, decide_eq_true_eq, Bool.false_eq_true] at hres
    obtain ⟨rfl, rfl⟩ := hres
    split at hs1
    · cases hs1; exact mr_ishl hx hb hdc k
    · cases hs1
  · simp only [mm_res] at hres
    simp only [Bool.and_eq_true, Bool.or_eq_true, decide_eq_true_eq, Bool.false_eq_true] at hres
    obtain ⟨rfl, rfl⟩ := hres
    split at hs1
    · cases hs1; exact mr_ishr hx hb hdc k
    · cases hs1
  · simp only [mm_res] at hres
    simp only [Bool.and_eq_true, Bool.or_eq_true, decide_eq_true_eq, Bool.false_eq_true] at hres
    obtain ⟨rfl, rfl⟩ := hres
    split at hs1
    · cases hs1; exact mr_ineg hx hb hdc k
    · cases hs1
  · simp only [mm_res] at hres
    simp only [Bool.and_eq_true, Bool.or_eq_true, decide_eq_true_eq, Bool.false_eq_true] at hres
    obtain ⟨rfl, rfl⟩ := hres
    split at hs1
    · cases hs1; exact mr_i2s hx hb hdc k
    · cases hs1
  · simp only [mm_res] at hres
    simp only [Bool.and_eq_true, Bool.or_eq_true, decide_eq_true_eq, Bool.false_eq_true] at hres
    obtain ⟨rfl, rfl⟩ := hres
    split at hs1
    · cases hs1; exact mr_i2b hx hb hdc k
    · cases hs1
  · simp only [mm_res] at hres
    simp only [Bool.and_eq_true, Bool.or_eq_true, decide_eq_true_eq, Bool.false_eq_true] at hres
    obtain ⟨rfl, rfl⟩ := hres
    split at hs1
    · cases hs1; exact mr_i2c hx hb hdc k
    · cases hs1
  · simp only [mm_res] at hres
    simp only [Bool.and_eq_true, Bool.or_eq_true, decide_eq_true_eq, Bool.false_eq_true] at hres
    obtain ⟨rfl, rfl⟩ := hres
    split at hs1
    · cases hs1; exact mr_i2l hx hb hdc k
    · cases hs1
  · simp only [mm_res] at hres
    simp only [Bool.and_eq_true, Bool.or_eq_true, decide_eq_true_eq, Bool.false_eq_true] at hres
    obtain ⟨rfl, rfl⟩ := hres
    split at hs1
    · cases hs1; exact mr_l2i hx hb hdc k
    · cases hs1
  · simp only [mm_res] at hres
    simp only [Bool.and_eq_true, Bool.or_eq_true, decide_eq_true_eq, Bool.false_eq_true] at hres
    obtain ⟨rfl, rfl⟩ := hres
    split at hs1
    · cases hs1; exact mr_lushr hx hb hdc k
    · cases hs1
  · simp only [mm_res] at hres
    simp only [Bool.and_eq_true, Bool.or_eq_true, decide_eq_true_eq, Bool.false_eq_true] at hres
    obtain ⟨rfl, rfl⟩ := hres
    split at hs1
    · cases hs1; exact mr_lshl hx hb hdc k
    · cases hs1
  · simp only [mm_res] at hres
    simp only [Bool.and_eq_true, Bool.or_eq_true, decide_eq_true_eq, Bool.false_eq_true] at hres
    obtain ⟨rfl, rfl⟩ := hres
    split at hs1
    · cases hs1; exact mr_land hx hb hdc k
    · cases hs1
  · simp only [mm_res] at hres
    simp only [Bool.and_eq_true, Bool.or_eq_true, decide_eq_true_eq, Bool.false_eq_true] at hres
    obtain ⟨rfl, rfl⟩ := hres
    split at hs1
    · cases hs1; exact mr_lor hx hb hdc k
    · cases hs1
  · simp only [mm_res] at hres
    simp only [Bool.and_eq_true, Bool.or_eq_true, decide_eq_true_eq, Bool.false_eq_true] at hres
    obtain ⟨rfl, rfl⟩ := hres
    split at hs1
    · cases hs1; exact mr_lcmp hx hb hdc k
    · cases hs1
  · cases hs1
    simp only [mm_res] at hres
    split at hres <;> simp only [Bool.and_eq_true, Bool.or_eq_true, decide_eq_true_eq, Bool.false_eq_true] at hres
    obtain ⟨rfl, hv⟩ := hres
    exact mr_ldc2 hx hb hown (mm_wq_before hv hTb) hdc k
  · cases hs1
end
section
theorem mm_sw_off {F : Nat → Prop} {pc d : Nat} {d0 : Int} {x : Int32} (hd : (pc : Int) + d0 = (d : Int)) : ∀ qs : List (Int × Int), (∀ q ∈ qs, 0 ≤ (pc : Int) + q.2 ∧ -2147483648 ≤ q.1 ∧ q.1 ≤ 2147483647) → mm_sw F d x (qs.map fun q => (q.1, (pc : Int) + q.2)) → ∃ tgt : Nat, (pc : Int) + Op.lookupswitch.offset qs d0 x.toInt = (tgt : Int) ∧ F tgt
  | [], _, h => ⟨d, hd, h⟩
  | (a, f) :: qs, hq, h => by
    obtain ⟨h1, h2, h3⟩ := hq (a, f) List.mem_cons_self
    have ht : (Int32.ofInt a).toInt = a := Int32.toInt_ofInt_of_le (by omega) (by omega)
    by_cases hx : x = Int32.ofInt a
    · have hF := h.1 hx
      refine ⟨((pc : Int) + f).toNat, ?_, hF⟩
      rw [Op.lookupswitch.offset_cons, if_pos (by rw [hx, ht])]
      exact (Int.toNat_of_nonneg h1).symm
    · rw [lv_osw hx ht]
      exact mm_sw_off hd qs (fun q z => hq q (List.mem_cons_of_mem _ z)) (h.2 hx)
theorem mm_sw_mem {F : Nat → Prop} {d : Nat} {x : Int32} : ∀ ps : List (Int × Int), mm_sw F d x ps → (∃ q ∈ ps, x = Int32.ofInt q.1 ∧ F q.2.toNat) ∨ ((∀ q ∈ ps, ¬ x = Int32.ofInt q.1) ∧ F d)
  | [], h => Or.inr ⟨fun _ z => absurd z List.not_mem_nil, h⟩
  | (a, f) :: ps, h => by
    by_cases hx : x = Int32.ofInt a
    · exact Or.inl ⟨(a, f), List.mem_cons_self, hx, h.1 hx⟩
    · rcases mm_sw_mem ps (h.2 hx) with ⟨q, h1, h2⟩ | ⟨h1, h2⟩
      · exact Or.inl ⟨q, List.mem_cons_of_mem _ h1, h2⟩
      · refine Or.inr ⟨fun q z => ?_, h2⟩
        rcases List.mem_cons.mp z with rfl | z
        · exact hx
        · exact h1 q z
section MSW
variable {Z : Nat → List Int32} {p : Program} {l : Launch} {e : Env} {R : Room} {s : State} {m : MethodId} {args : Array Value} {below : List Frame} {meth : Method} {c : Code} {Q : State → Prop} {D : va_G} {cT : Nat → ClassId} {zt : Nat → Nat} {A : Nat → Prop} {nL : Nat} {rho0 : List Nat} {cc : ByteArray} {pc : Nat} {L : mm_L} {r : List mm_V} {h : mm_H}
theorem mr_lookup (hx : p.tables.exec = Jvm.exec) (hb : c.code = cc) {d0 : Int} {qs : Array (Int × Int)} {len d : Nat} {x : Int32} (hd : decode cc pc = .ok (.lookupswitch d0 qs, len)) (hp : (qs.toList.zip (qs.toList.drop 1)).all (fun (a, next) => a.1 < next.1) = true) (h0 : (pc : Int) + d0 = (d : Int)) (hq : ∀ q ∈ qs.toList, 0 ≤ (pc : Int) + q.2 ∧ -2147483648 ≤ q.1 ∧ q.1 ≤ 2147483647) (k : mm_sw (fun t => mm_W p l e R s m args below meth c Q D cT zt A nL rho0 t L r h) d x (qs.toList.map fun q => (q.1, (pc : Int) + q.2))) : mm_W p l e R s m args below meth c Q D cT zt A nL rho0 pc L (vI x :: r) h := by
  intro rho H locs cells slots ls hpf hst hI
  obtain ⟨tgt, g1, g2⟩ := mm_sw_off h0 qs.toList hq k
  exact lv_lookup hx hb hd hp rfl g1 (g2 rho H locs cells slots ls hpf (mm_okt hst) hI)
theorem mr_table (hx : p.tables.exec = Jvm.exec) (hb : c.code = cc) {d0 lo hi : Int} {offs : Array Int} {len d : Nat} {x : Int32} (hd : decode cc pc = .ok (.tableswitch d0 lo hi offs, len)) (h0 : (pc : Int) + d0 = (d : Int)) (hsz : hi - lo + 1 = (offs.size : Int)) (ho : ∀ q ∈ offs.toList, 0 ≤ (pc : Int) + q) (hlo : -2147483648 ≤ lo ∧ hi ≤ 2147483647) (k : mm_sw (fun t => mm_W p l e R s m args below meth c Q D cT zt A nL rho0 t L r h) d x ((List.range offs.size).map fun (j : Nat) => (lo + (j : Int), (pc : Int) + offs.toList.getD j 0))) : mm_W p l e R s m args below meth c Q D cT zt A nL rho0 pc L (vI x :: r) h := by
  intro rho H locs cells slots ls hpf hst hI
  rcases mm_sw_mem _ k with ⟨q, h1, h2, h3⟩ | ⟨h1, h2⟩
  · obtain ⟨j, hj, rfl⟩ := List.mem_map.mp h1
    have hj := List.mem_range.mp hj
    have ht : x.toInt = lo + (j : Int) := by rw [h2]; exact Int32.toInt_ofInt_of_le (by omega) (by omega)
    have hg : offs.toList.getD j 0 = offs[j] := by
      rw [List.getD_eq_getElem?_getD, Array.getElem?_toList, Array.getElem?_eq_getElem hj]; rfl
    have hnn : 0 ≤ (pc : Int) + offs[j] := ho _ (by simp)
    refine lv_tableIn hx hb hd (by omega) (by omega) (off := offs[j]) (by rw [ht, show (lo + (j : Int) - lo).toNat = j by omega]; exact Array.getElem?_eq_getElem hj) (tgt := ((pc : Int) + offs[j]).toNat) (Int.toNat_of_nonneg hnn).symm ?_
    have h4 := h3 rho H locs cells slots ls hpf (mm_okt hst) hI
    rw [hg] at h4
    exact h4
  · refine lv_tableOut hx hb hd ?_ h0 (h2 rho H locs cells slots ls hpf (mm_okt hst) hI)
    by_cases a1 : x.toInt < lo
    · exact Or.inl a1
    · by_cases a2 : hi < x.toInt
      · exact Or.inr a2
      · exfalso
        have hj : (x.toInt - lo).toNat < offs.size := by omega
        refine h1 (lo + ((x.toInt - lo).toNat : Int), (pc : Int) + offs.toList.getD (x.toInt - lo).toNat 0) (List.mem_map.mpr ⟨_, List.mem_range.mpr hj, rfl⟩) ?_
        rw [show lo + ((x.toInt - lo).toNat : Int) = x.toInt by omega, Int32.ofInt_toInt]
theorem mr_max (hx : p.tables.exec = Jvm.exec) (hb : c.code = cc) (hml : c.maxLocals = nL) {own : String} {idx : Nat} (hown : s.vm.findClass own = some m.cls) (hl : (Jvm.Cond.methodLink own idx Lib.Math.max.name).before args s = true) (hst : (Jvm.Cond.static Lib.Math.max.name).before args s = true) (hini : (Jvm.Cond.initialized "java/lang/Math").before args s = true) (hcode : (Jvm.Cond.code Lib.Math.max.name Lib.Math.max.code 2 (some .int)).before args s = true) (hfr : 1 ≤ R.frames) (hlo : 64 ≤ R.locals) (hlen : r.length ≤ 12) {x y : Int32} (hd : decode cc pc = .ok (.invokestatic idx, 3)) (k : mm_W p l e R s m args below meth c Q D cT zt A nL rho0 (pc + 3) L (vI (if x < y then y else x) :: r) h) : mm_W p l e R s m args below meth c Q D cT zt A nL rho0 pc L (vI y :: vI x :: r) h := by
  intro rho H locs cells slots ls hpf hst2 hI
  have hcat := mm_catSum (r.map (mm_v rho zt))
  rw [List.length_map] at hcat
  have q1 := hI.2.2.2.2.2.2.2.1
  have q2 := hI.2.2.2.2.2.2.2.2
  exact va_mmax hx hb (by rw [hml]; exact hI.2.2.2.2.2.2.1.2.1.symm) hown hl hst hini hcode hfr (by omega) (by omega) (by omega) hd (k rho H locs cells slots ls hpf (mm_okc trivial (mm_okt (mm_okt hst2))) hI)
theorem mr_min (hx : p.tables.exec = Jvm.exec) (hb : c.code = cc) (hml : c.maxLocals = nL) {own : String} {idx : Nat} (hown : s.vm.findClass own = some m.cls) (hl : (Jvm.Cond.methodLink own idx Lib.Math.min.name).before args s = true) (hst : (Jvm.Cond.static Lib.Math.min.name).before args s = true) (hini : (Jvm.Cond.initialized "java/lang/Math").before args s = true) (hcode : (Jvm.Cond.code Lib.Math.min.name Lib.Math.min.code 2 (some .int)).before args s = true) (hfr : 1 ≤ R.frames) (hlo : 64 ≤ R.locals) (hlen : r.length ≤ 12) {x y : Int32} (hd : decode cc pc = .ok (.invokestatic idx, 3)) (k : mm_W p l e R s m args below meth c Q D cT zt A nL rho0 (pc + 3) L (vI (if y < x then y else x) :: r) h) : mm_W p l e R s m args below meth c Q D cT zt A nL rho0 pc L (vI y :: vI x :: r) h := by
  intro rho H locs cells slots ls hpf hst2 hI
  have hcat := mm_catSum (r.map (mm_v rho zt))
  rw [List.length_map] at hcat
  have q1 := hI.2.2.2.2.2.2.2.1
  have q2 := hI.2.2.2.2.2.2.2.2
  exact va_mmin hx hb (by rw [hml]; exact hI.2.2.2.2.2.2.1.2.1.symm) hown hl hst hini hcode hfr (by omega) (by omega) (by omega) hd (k rho H locs cells slots ls hpf (mm_okc trivial (mm_okt (mm_okt hst2))) hI)
theorem mr_icmp (hx : p.tables.exec = Jvm.exec) (hb : c.code = cc) {cd : Jvm.ClassFile.Cond} {x y : Int32} {off : Int} {tgt : Nat} (hd : decode cc pc = .ok (.if_icmp cd off, 3)) (ht : (pc : Int) + off = (tgt : Int)) (k1 : mm_cmp cd x y → mm_W p l e R s m args below meth c Q D cT zt A nL rho0 tgt L r h) (k2 : ¬ mm_cmp cd x y → mm_W p l e R s m args below meth c Q D cT zt A nL rho0 (pc + 3) L r h) : mm_W p l e R s m args below meth c Q D cT zt A nL rho0 pc L (vI y :: vI x :: r) h := by
  cases cd
  · exact mr_icmp_eq hx hb hd ht k1 k2
  · exact mr_icmp_ne hx hb hd ht k1 k2
  · exact mr_icmp_lt hx hb hd ht k1 k2
  · exact mr_icmp_ge hx hb hd ht k1 k2
  · exact mr_icmp_gt hx hb hd ht k1 k2
  · exact mr_icmp_le hx hb hd ht k1 k2
theorem mr_if (hx : p.tables.exec = Jvm.exec) (hb : c.code = cc) {cd : Jvm.ClassFile.Cond} {x : Int32} {off : Int} {tgt : Nat} (hd : decode cc pc = .ok (.ifCond cd off, 3)) (ht : (pc : Int) + off = (tgt : Int)) (k1 : mm_cmp cd x 0 → mm_W p l e R s m args below meth c Q D cT zt A nL rho0 tgt L r h) (k2 : ¬ mm_cmp cd x 0 → mm_W p l e R s m args below meth c Q D cT zt A nL rho0 (pc + 3) L r h) : mm_W p l e R s m args below meth c Q D cT zt A nL rho0 pc L (vI x :: r) h := by
  cases cd
  · exact mr_if_eq hx hb hd ht k1 k2
  · exact mr_if_ne hx hb hd ht k1 k2
  · exact mr_if_lt hx hb hd ht k1 k2
  · exact mr_if_ge hx hb hd ht k1 k2
  · exact mr_if_gt hx hb hd ht k1 k2
  · exact mr_if_le hx hb hd ht k1 k2
end MSW
theorem mm_sw_mono {F G : Nat → Prop} {d : Nat} {x : Int32} (hFG : ∀ t, F t → G t) : ∀ {ps : List (Int × Int)}, mm_sw F d x ps → mm_sw G d x ps
  | [], h => hFG _ h
  | (_, _) :: _, h => ⟨fun z => hFG _ (h.1 z), fun z => mm_sw_mono hFG (h.2 z)⟩
/-- what a call asks of the room -/
def mm_C (Z : Nat → List Int32) (d m : Nat) (vs : List mm_V) (h : mm_H) (P : mm_A → mm_H → Prop) : Prop := match d with
  | 0 => False
  | d + 1 => mm_G Z d m vs h P
theorem mm_take_rev (st : List mm_V) (n : Nat) : (st.take n).reverse.reverse ++ st.drop n = st := by rw [List.reverse_reverse, List.take_append_drop]
set_option maxHeartbeats 4000000 in
/-- A STRETCH of steps -/
theorem mm_sound {Z : Nat → List Int32} {d mi : Nat} {Post : mm_A → mm_H → Prop} (hd6 : 6 ≤ d) : ∀ (is : List Instr) (pc : Nat) (hs : List (List Nat)) (L : mm_L) (st : List mm_V) (h : mm_H), (mm_hd mi = [] ∨ is.all mm_nc = true) → mm_chk mi pc is hs = true → mm_wp mm_K Z mm_na 6 mm_ci (fun t L st h => mm_P Z d mi t L st h Post) (mm_C Z d) Post is L st h → mm_P Z d mi pc L st h Post := by
  intro is
  induction is with
  | nil => intro pc hs L st h _ _ hw; exact hw.elim
  | cons i is ih =>
    intro pc hs L st h hh hc hw p l e R s m args below meth c D cT zt A rho0 hF
    obtain ⟨hx, htr, hb, hr, hml, hown, hnm, hlk, hex, hd1, hd2, hA, hTb⟩ := id hF
    replace ih := fun (pc : Nat) (hs : List (List Nat)) (L : mm_L) (st : List mm_V) (h : mm_H) => ih pc hs L st h (hh.imp id (fun z => by simp only [List.all_cons, Bool.and_eq_true] at z; exact z.2))
    have hnc : mm_nc i = false → mm_hd mi = [] := fun z => hh.resolve_right (by simp only [List.all_cons, Bool.and_eq_true]; intro y; rw [z] at y; exact absurd y.1 (by decide))
    have dec : ∀ j : Instr, i = j → (∀ t, j ≠ .goto_w t) → (∀ t, j ≠ .checkcast t) → ∃ o len, decode (mm_cd mi) pc = .ok (o, len) ∧ mm_res mi pc o len j (hs.headD []) = true ∧ (mm_last1 j = true ∨ mm_chk mi (pc + len) is hs.tail = true) := by
      intro j hj n1 n2
      subst hj
      unfold mm_chk at hc
      split at hc
      · exact absurd rfl (n1 _)
      · exact absurd rfl (n2 _)
      · split at hc
        · rename_i o len hdc
          simp only [Bool.and_eq_true, Bool.or_eq_true] at hc
          exact ⟨o, len, hdc, hc.1, hc.2⟩
        · cases hc
    unfold mm_wp at hw
    split at hw
    · obtain ⟨o, len, hdc, hres, -⟩ := dec _ rfl (fun _ => by simp) (fun _ => by simp)
      simp only [mm_res] at hres
      split at hres <;> simp only [Bool.and_eq_true, Bool.or_eq_true, decide_eq_true_eq, Bool.false_eq_true] at hres
      obtain ⟨rfl, ht⟩ := hres
      exact mr_goto hx hb hdc ht (hw p l e R s m args below meth c D cT zt A rho0 hF)
    · have hpc := hc
      simp only [mm_chk, decide_eq_true_eq] at hpc
      subst hpc
      exact hw p l e R s m args below meth c D cT zt A rho0 hF
    · obtain ⟨o, len, hdc, hres, hch⟩ := dec _ rfl (fun _ => by simp) (fun _ => by simp)
      have hch2 := hch.resolve_left (by simp [mm_last1])
      split at hw
      · simp only [mm_res] at hres
        split at hres <;> simp only [Bool.and_eq_true, Bool.or_eq_true, decide_eq_true_eq, Bool.false_eq_true] at hres
        obtain ⟨⟨rfl, rfl⟩, ht⟩ := hres
        exact mr_icmp hx hb hdc ht (fun z => hw.1 z p l e R s m args below meth c D cT zt A rho0 hF) (fun z => ih _ _ _ _ _ hch2 (hw.2 z) p l e R s m args below meth c D cT zt A rho0 hF)
      · exact hw.elim
    · obtain ⟨o, len, hdc, hres, hch⟩ := dec _ rfl (fun _ => by simp) (fun _ => by simp)
      have hch2 := hch.resolve_left (by simp [mm_last1])
      split at hw
      · simp only [mm_res] at hres
        split at hres <;> simp only [Bool.and_eq_true, Bool.or_eq_true, decide_eq_true_eq, Bool.false_eq_true] at hres
        obtain ⟨⟨rfl, rfl⟩, ht⟩ := hres
        exact mr_if hx hb hdc ht (fun z => hw.1 z p l e R s m args below meth c D cT zt A rho0 hF) (fun z => ih _ _ _ _ _ hch2 (hw.2 z) p l e R s m args below meth c D cT zt A rho0 hF)
      · exact hw.elim
    · obtain ⟨o, len, hdc, hres, hch⟩ := dec _ rfl (fun _ => by simp) (fun _ => by simp)
      have hch2 := hch.resolve_left (by simp [mm_last1])
      split at hw
      · simp only [mm_res] at hres
        split at hres <;> simp only [Bool.and_eq_true, Bool.or_eq_true, decide_eq_true_eq, Bool.false_eq_true] at hres
        obtain ⟨rfl, ht⟩ := hres
        exact mr_ifnull hx hb hdc ht (fun z => hw.1 z p l e R s m args below meth c D cT zt A rho0 hF) (fun z => ih _ _ _ _ _ hch2 (hw.2 z) p l e R s m args below meth c D cT zt A rho0 hF)
      · exact hw.elim
    · obtain ⟨o, len, hdc, hres, hch⟩ := dec _ rfl (fun _ => by simp) (fun _ => by simp)
      have hch2 := hch.resolve_left (by simp [mm_last1])
      split at hw
      · simp only [mm_res] at hres
        split at hres <;> simp only [Bool.and_eq_true, Bool.or_eq_true, decide_eq_true_eq, Bool.false_eq_true] at hres
        obtain ⟨rfl, ht⟩ := hres
        exact mr_ifnonnull hx hb hdc ht (fun z => hw.1 z p l e R s m args below meth c D cT zt A rho0 hF) (fun z => ih _ _ _ _ _ hch2 (hw.2 z) p l e R s m args below meth c D cT zt A rho0 hF)
      · exact hw.elim
    · obtain ⟨o, len, hdc, hres, hch⟩ := dec _ rfl (fun _ => by simp) (fun _ => by simp)
      have hch2 := hch.resolve_left (by simp [mm_last1])
      split at hw
      · simp only [mm_res] at hres
        split at hres <;> simp only [Bool.and_eq_true, Bool.or_eq_true, decide_eq_true_eq, Bool.false_eq_true] at hres
        obtain ⟨⟨rfl, rfl⟩, ht⟩ := hres
        exact mr_acmp_eq hx hb hdc ht (fun z => hw.1 z p l e R s m args below meth c D cT zt A rho0 hF) (fun z => ih _ _ _ _ _ hch2 (hw.2 z) p l e R s m args below meth c D cT zt A rho0 hF)
      · exact hw.elim
    · obtain ⟨o, len, hdc, hres, hch⟩ := dec _ rfl (fun _ => by simp) (fun _ => by simp)
      have hch2 := hch.resolve_left (by simp [mm_last1])
      split at hw
      · simp only [mm_res] at hres
        split at hres <;> simp only [Bool.and_eq_true, Bool.or_eq_true, decide_eq_true_eq, Bool.false_eq_true] at hres
        obtain ⟨⟨rfl, rfl⟩, ht⟩ := hres
        exact mr_acmp_ne hx hb hdc ht (fun z => hw.1 z p l e R s m args below meth c D cT zt A rho0 hF) (fun z => ih _ _ _ _ _ hch2 (hw.2 z) p l e R s m args below meth c D cT zt A rho0 hF)
      · exact hw.elim
    · obtain ⟨o, len, hdc, hres, hch⟩ := dec _ rfl (fun _ => by simp) (fun _ => by simp)
      split at hw
      · simp only [mm_res] at hres
        split at hres <;> simp only [Bool.and_eq_true, Bool.or_eq_true, decide_eq_true_eq, Bool.false_eq_true] at hres
        · obtain ⟨⟨⟨h0, hpq⟩, hps⟩, hq⟩ := hres
          rw [hps] at hw
          refine mr_lookup hx hb hdc hpq h0 (fun q z => by simpa only [decide_eq_true_eq] using List.all_eq_true.mp hq q z) (mm_sw_mono (fun t z => z p l e R s m args below meth c D cT zt A rho0 hF) hw)
        · obtain ⟨⟨⟨⟨h0, hps⟩, hsz⟩, hq⟩, hlo⟩ := hres
          rw [hps] at hw
          exact mr_table hx hb hdc h0 hsz (fun q z => by simpa only [decide_eq_true_eq] using List.all_eq_true.mp hq q z) hlo (mm_sw_mono (fun t z => z p l e R s m args below meth c D cT zt A rho0 hF) hw)
      · exact hw.elim
    · obtain ⟨o, len, hdc, hres, hch⟩ := dec _ rfl (fun _ => by simp) (fun _ => by simp)
      have hch2 := hch.resolve_left (by simp [mm_last1])
      obtain ⟨hn1, hn2, hG⟩ := hw
      obtain ⟨d, rfl⟩ : ∃ d', d = d' + 1 := ⟨d - 1, by omega⟩
      rename_i mx
      have hlen : (st.drop (mm_na mx)).length ≤ 12 := Nat.le_trans (by rw [List.length_drop]; omega) hn2
      have hvl : (st.take (mm_na mx)).reverse.length = mm_na mx := by rw [List.length_reverse, List.length_take]; omega
      rw [← mm_take_rev st (mm_na mx)]
      simp only [mm_res] at hres
      split at hres <;> simp only [Bool.and_eq_true, Bool.or_eq_true, decide_eq_true_eq, Bool.false_eq_true] at hres
      · obtain ⟨⟨⟨⟨⟨⟨⟨⟨rfl, hl⟩, w1⟩, w2⟩, w3⟩, w4⟩, w5⟩, w6⟩, whk⟩ := hres
        obtain ⟨c1, c2⟩ := mm_wq_of w3
        have hn : mm_pars mx = some (st.take (mm_na mx)).reverse.length := by rw [hvl]; exact w6
        rcases hl with hl | hl
        · exact mr_callS hF (mm_wq_before hl hTb) (mm_wq_before w1 hTb) (mm_wq_before w2 hTb) c1 c2 w4 w5 (hnc rfl) whk hn hlen hdc hG (fun st2 h2 hf => ih _ _ _ _ _ hch2 hf p l e R s m args below meth c D cT zt A rho0 hF)
        · exact mr_callSN hF (mm_wq_before hl hTb) (mm_wq_before w1 hTb) (mm_wq_before w2 hTb) c1 c2 w4 w5 (hnc rfl) whk hn hlen hdc hG (fun st2 h2 hf => ih _ _ _ _ _ hch2 hf p l e R s m args below meth c D cT zt A rho0 hF)
    · obtain ⟨o, len, hdc, hres, hch⟩ := dec _ rfl (fun _ => by simp) (fun _ => by simp)
      have hch2 := hch.resolve_left (by simp [mm_last1])
      obtain ⟨hn1, hn2, hG⟩ := hw
      obtain ⟨d, rfl⟩ : ∃ d', d = d' + 1 := ⟨d - 1, by omega⟩
      rename_i mx
      have hlen : (st.drop (mm_na mx)).length ≤ 12 := Nat.le_trans (by rw [List.length_drop]; omega) hn2
      have hvl : (st.take (mm_na mx)).reverse.length = mm_na mx := by rw [List.length_reverse, List.length_take]; omega
      rw [← mm_take_rev st (mm_na mx)]
      simp only [mm_res] at hres
      split at hres <;> simp only [Bool.and_eq_true, Bool.or_eq_true, decide_eq_true_eq, Bool.false_eq_true] at hres
      · obtain ⟨⟨⟨⟨⟨⟨⟨rfl, hl⟩, w1⟩, w2⟩, w3⟩, w4⟩, w5⟩, w6⟩ := hres
        obtain ⟨c1, c2⟩ := mm_wq_of w3
        have hn : mm_pars mx = some (st.take (mm_na mx)).reverse.length := by rw [hvl]; exact w6
        exact mr_callSW hF (mm_wq_before hl hTb) (mm_wq_before w1 hTb) (mm_wq_before w2 hTb) c1 c2 w4 w5 (hnc rfl) hn hlen hdc hG (fun st2 h2 hf => ih _ _ _ _ _ hch2 hf p l e R s m args below meth c D cT zt A rho0 hF)
    · obtain ⟨o, len, hdc, hres, hch⟩ := dec _ rfl (fun _ => by simp) (fun _ => by simp)
      have hch2 := hch.resolve_left (by simp [mm_last1])
      obtain ⟨hn1, hn2, hrc, hG⟩ := hw
      obtain ⟨d, rfl⟩ : ∃ d', d = d' + 1 := ⟨d - 1, by omega⟩
      rename_i mx
      have hlen : (st.drop (mm_na mx)).length ≤ 12 := Nat.le_trans (by rw [List.length_drop]; omega) hn2
      have hvl : (st.take (mm_na mx)).reverse.length = mm_na mx := by rw [List.length_reverse, List.length_take]; omega
      rw [← mm_take_rev st (mm_na mx)]
      generalize hvs : (st.take (mm_na mx)).reverse = vs at hrc hG hvl ⊢
      unfold mm_rcv at hrc
      split at hrc
      · rename_i a as
        obtain ⟨fs, ha⟩ := hrc
        simp only [mm_res] at hres
        split at hres <;> simp only [Bool.and_eq_true, Bool.or_eq_true, decide_eq_true_eq, Bool.false_eq_true] at hres
        · obtain ⟨⟨⟨⟨⟨⟨⟨⟨⟨rfl, hl⟩, w1⟩, w3⟩, w4⟩, w5⟩, w6⟩, w7⟩, w8⟩, whk⟩ := hres
          obtain ⟨c1, c2⟩ := mm_wq_of w3
          have hn : mm_pars mx = some as.length := by
            cases hq : mm_pars mx with
            | none => rw [hq] at w8; simp at w8
            | some n => rw [hq] at w8; simp only [Option.map_some, Option.some.injEq] at w8; rw [← hvl] at w8; simp at w8; rw [w8]
          rcases hl with hl | hl
          · exact mr_callI hF (mm_wq_before hl hTb) (mm_wq_before w1 hTb) c1 c2 w4 w5 (hnc rfl) whk w6 w7 hn hlen hdc hG (fun st2 h2 hf => ih _ _ _ _ _ hch2 hf p l e R s m args below meth c D cT zt A rho0 hF)
          · exact mr_callIN hF (mm_wq_before hl hTb) (mm_wq_before w1 hTb) c1 c2 w4 w5 (hnc rfl) whk w6 w7 hn hlen hdc hG (fun st2 h2 hf => ih _ _ _ _ _ hch2 hf p l e R s m args below meth c D cT zt A rho0 hF)
        · rename_i q hq
          obtain ⟨⟨⟨⟨⟨⟨⟨⟨rfl, w0⟩, w1⟩, w2⟩, w3⟩, w4⟩, w5⟩, w8⟩, whk⟩ := hres
          obtain ⟨c1, c2⟩ := mm_wq_of w3
          have hn : mm_pars mx = some as.length := by
            cases hq : mm_pars mx with
            | none => rw [hq] at w8; simp at w8
            | some n => rw [hq] at w8; simp only [Option.map_some, Option.some.injEq] at w8; rw [← hvl] at w8; simp at w8; rw [w8]
          exact mr_callV hF (mm_wq_before w0 hTb) (mm_wq_before w1 hTb) (mm_wq_before w2 hTb) c1 c2 w4 w5 (hnc rfl) whk hq ha hn hlen hdc hG (fun st2 h2 hf => ih _ _ _ _ _ hch2 hf p l e R s m args below meth c D cT zt A rho0 hF)
      · exact hrc.elim
    · obtain ⟨o, len, hdc, hres, hch⟩ := dec _ rfl (fun _ => by simp) (fun _ => by simp)
      have hch2 := hch.resolve_left (by simp [mm_last1])
      split at hw
      · simp only [mm_res] at hres
        split at hres <;> simp only [Bool.and_eq_true, Bool.or_eq_true, decide_eq_true_eq, Bool.false_eq_true] at hres
        obtain ⟨⟨⟨rfl, w0⟩, w1⟩, w2⟩ := hres
        exact mr_objInit hx hb hml hown (mm_wq_before w0 hTb) (mm_wq_before w1 hTb) (mm_wq_before w2 hTb) (by omega) (by omega) (by omega) hdc (ih _ _ _ _ _ hch2 hw.2 p l e R s m args below meth c D cT zt A rho0 hF)
      · exact hw.elim
    · obtain ⟨hn, b1, b2, hq⟩ := hw
      have hc2 := hc
      simp only [mm_chk, mm_chkT] at hc2
      split at hc2
      · rename_i i1 e1
        split at hc2
        · rename_i i2 e2
          split at hc2
          · rename_i i3 e3
            simp only [Bool.and_eq_true, decide_eq_true_eq] at hc2
            obtain ⟨⟨⟨⟨e4, e5⟩, w1⟩, w2⟩, w3⟩ := hc2
            obtain ⟨t1, t2, t3⟩ := mm_site_of w3
            obtain ⟨c1, c2⟩ := mm_wq_of w1
            split at w2
            · rename_i sa sb sc hsw
              simp only [Bool.and_eq_true, decide_eq_true_eq] at w2
              obtain ⟨rfl, rfl⟩ := w2
              exact mr_throw (hnc rfl) hF hd6 hn c1 c2 t2 rfl (List.mem_of_getElem? hsw) t1 t3 e1 e4 (n := 2) (Or.inl ⟨rfl, e2⟩) e3 e5 b1 b2 hq
            · cases w2
          · cases hc2
        · rename_i i2 e2
          split at hc2
          · rename_i i3 e3
            simp only [Bool.and_eq_true, decide_eq_true_eq] at hc2
            obtain ⟨⟨⟨⟨e4, e5⟩, w1⟩, w2⟩, w3⟩ := hc2
            obtain ⟨t1, t2, t3⟩ := mm_site_of w3
            obtain ⟨c1, c2⟩ := mm_wq_of w1
            split at w2
            · rename_i sa sb sc hsw
              simp only [Bool.and_eq_true, decide_eq_true_eq] at w2
              obtain ⟨rfl, rfl⟩ := w2
              exact mr_throw (hnc rfl) hF hd6 hn c1 c2 t2 rfl (List.mem_of_getElem? hsw) t1 t3 e1 e4 (n := 3) (Or.inr ⟨rfl, e2⟩) e3 e5 b1 b2 hq
            · cases w2
          · cases hc2
        · cases hc2
      · cases hc2
    · obtain ⟨o, len, hdc, hres, hch⟩ := dec _ rfl (fun _ => by simp) (fun _ => by simp)
      obtain ⟨rfl, hq⟩ := hw
      simp only [mm_res] at hres
      simp only [Bool.and_eq_true, Bool.or_eq_true, decide_eq_true_eq, Bool.false_eq_true] at hres
      obtain ⟨⟨rfl, rfl⟩, w1⟩ := hres
      exact mr_vret hx hb (by rw [hr]; exact w1) hlk hdc hq
    · obtain ⟨o, len, hdc, hres, hch⟩ := dec _ rfl (fun _ => by simp) (fun _ => by simp)
      split at hw
      · simp only [mm_res] at hres
        simp only [Bool.and_eq_true, Bool.or_eq_true, decide_eq_true_eq, Bool.false_eq_true] at hres
        obtain ⟨⟨rfl, rfl⟩, w1⟩ := hres
        exact mr_iret hx hb (hr.trans w1) rfl hlk hdc hw
      · exact hw.elim
    · obtain ⟨o, len, hdc, hres, hch⟩ := dec _ rfl (fun _ => by simp) (fun _ => by simp)
      split at hw
      · simp only [mm_res] at hres
        simp only [Bool.and_eq_true, Bool.or_eq_true, decide_eq_true_eq, Bool.false_eq_true] at hres
        obtain ⟨⟨rfl, rfl⟩, w1⟩ := hres
        obtain ⟨h01, hq⟩ := hw
        exact mr_iret hx hb (hr.trans w1) (by rcases h01 with rfl | rfl <;> rfl) hlk hdc hq
      · exact hw.elim
    · obtain ⟨o, len, hdc, hres, hch⟩ := dec _ rfl (fun _ => by simp) (fun _ => by simp)
      exact hw.elim
    · obtain ⟨o, len, hdc, hres, hch⟩ := dec _ rfl (fun _ => by simp) (fun _ => by simp)
      split at hw
      · simp only [mm_res] at hres
        simp only [Bool.and_eq_true, Bool.or_eq_true, decide_eq_true_eq, Bool.false_eq_true] at hres
        obtain ⟨⟨rfl, rfl⟩, w1⟩ := hres
        split at w1
        · rename_i nn hrt
          exact mr_aret hx hb (hr.trans hrt) (Or.inl ⟨_, rfl⟩) hlk hdc hw
        · rename_i nn hrt
          exact mr_aret hx hb (hr.trans hrt) (Or.inr ⟨_, rfl⟩) hlk hdc hw
        · cases w1
      · exact hw.elim
    · obtain ⟨o, len, hdc, hres, hch⟩ := dec _ rfl (fun _ => by simp) (fun _ => by simp)
      have hch2 := hch.resolve_left (by simp [mm_last1])
      split at hw
      · simp only [mm_res] at hres
        split at hres <;> simp only [Bool.and_eq_true, Bool.or_eq_true, decide_eq_true_eq, Bool.false_eq_true] at hres
        obtain ⟨⟨⟨⟨rfl, w0⟩, w1⟩, w2⟩, w3⟩ := hres
        exact mr_max hx hb hml hown (mm_wq_before w0 hTb) (mm_wq_before w1 hTb) (mm_wq_before w2 hTb) (mm_wq_before w3 hTb) (by omega) (by omega) hw.1 hdc (ih _ _ _ _ _ hch2 hw.2 p l e R s m args below meth c D cT zt A rho0 hF)
      · exact hw.elim
    · obtain ⟨o, len, hdc, hres, hch⟩ := dec _ rfl (fun _ => by simp) (fun _ => by simp)
      have hch2 := hch.resolve_left (by simp [mm_last1])
      split at hw
      · simp only [mm_res] at hres
        split at hres <;> simp only [Bool.and_eq_true, Bool.or_eq_true, decide_eq_true_eq, Bool.false_eq_true] at hres
        obtain ⟨⟨⟨⟨rfl, w0⟩, w1⟩, w2⟩, w3⟩ := hres
        exact mr_min hx hb hml hown (mm_wq_before w0 hTb) (mm_wq_before w1 hTb) (mm_wq_before w2 hTb) (mm_wq_before w3 hTb) (by omega) (by omega) hw.1 hdc (ih _ _ _ _ _ hch2 hw.2 p l e R s m args below meth c D cT zt A rho0 hF)
      · exact hw.elim
    · rename_i n1 n2 n3 n4 n5 n6 n7 n8 n9 n10 n11 n12 n13 n14 n15 n16 n17 n18 n19 n20 n21
      obtain ⟨o, len, hdc, hres, hch⟩ := dec _ rfl (fun t z => n2 t z) (fun t z => n14 t z)
      have hch2 := hch.resolve_left (by
        intro z
        unfold mm_last1 at z
        split at z <;> first | exact n1 _ rfl | exact n9 _ _ rfl | exact n15 rfl | exact n16 rfl | exact n17 rfl | exact n19 rfl | cases z)
      split at hw
      · rename_i oo hs1
        exact mm_s1_sound hF hdc hres hs1 (ih _ _ _ _ _ hch2 hw p l e R s m args below meth c D cT zt A rho0 hF)
      · exact hw.elim
end
section
/-- the blocks of a method, each checked against its bytes -/
def mm_chkM (mi : Nat) (bs : List (Nat × List Instr)) (hs : List (List (List Nat))) : Bool := decide (bs.length = hs.length) && (bs.zip hs).all fun q => mm_chk mi q.1.1 q.1.2 q.2
theorem mm_chkM_of {mi : Nat} {bs : List (Nat × List Instr)} {hs : List (List (List Nat))} (h : mm_chkM mi bs hs = true) {k pc : Nat} {is : List Instr} (hk : bs[k]? = some (pc, is)) : ∃ hq, mm_chk mi pc is hq = true := by
  simp only [mm_chkM, Bool.and_eq_true, decide_eq_true_eq] at h
  have hl : k < bs.length := (List.getElem?_eq_some_iff.mp hk).1
  have h1 : hs[k]? = some (hs[k]'(by omega)) := List.getElem?_eq_getElem (by omega)
  have h2 : (bs.zip hs)[k]? = some ((pc, is), hs[k]'(by omega)) := by rw [List.getElem?_zip_eq_some]; exact ⟨hk, h1⟩
  exact ⟨_, List.all_eq_true.mp h.2 _ (List.mem_of_getElem? h2)⟩
-- LispForge.<init> ()V
def bq0_0 : List (Nat × List Instr) := [(0, [.aload 0, .invokespecial 0, .aload 0, .new 1, .dup, .sipush (120), .invokevirtual 1, .multianewarray 0 0, .aload 0, .new 6, .dup, .invokevirtual 3, .multianewarray 0 1, .aload 0, .new 8, .dup, .invokevirtual 4, .multianewarray 0 2, .aload 0, .new 2, .dup, .aload 0, .invokeinterface 0 2, .invokevirtual 5, .multianewarray 0 3, .aload 0, .new 4, .dup, .aload 0, .invokeinterface 0 2, .invokevirtual 6, .multianewarray 0 4, .aload 0, .new 5, .dup, .invokevirtual 7, .multianewarray 0 5, .aload 0, .sipush (-1), .multianewarray 0 6, .aload 0, .sipush (0), .multianewarray 0 7, .return_])]
def hq0_0 : List (List (List Nat)) := [[[], [104, 105, 106], [], [107, 108, 80], [], [], [109, 110, 80, 111], [288], [], [128, 129, 82], [], [130, 131, 82, 132], [289], [], [159, 160, 83], [], [161, 162, 83, 163], [290], [], [174, 175, 84], [], [], [290], [176, 177, 84, 178], [291], [], [219, 220, 85], [], [], [290], [221, 222, 85, 223], [292], [], [242, 243, 86], [], [244, 245, 86, 246], [293], [], [], [294], [], [], [295], []]]
set_option maxRecDepth 100000 in
theorem cq0_0 : mm_chkM 0 bq0_0 hq0_0 = true := by decide +kernel
-- LispForge$Bytes.<init> (I)V
def bq1_0 : List (Nat × List Instr) := [(0, [.aload 0, .invokespecial 0, .aload 0, .iload 1, .sipush (0), .fadd, .newarray .int, .multianewarray 1 0, .return_])]
def hq1_0 : List (List (List Nat)) := [[[], [112, 105, 106], [], [], [], [113, 114, 81, 115], [127], [116], []]]
set_option maxRecDepth 100000 in
theorem cq1_0 : mm_chkM 1 bq1_0 hq1_0 = true := by decide +kernel
-- LispForge$Reader.<init> ()V
def bq3_0 : List (Nat × List Instr) := [(0, [.aload 0, .invokespecial 0, .aload 0, .sipush (8), .anewarray 0, .multianewarray 6 0, .return_])]
def hq3_0 : List (List (List Nat)) := [[[], [133, 105, 106], [], [], [134], [136], []]]
set_option maxRecDepth 100000 in
theorem cq3_0 : mm_chkM 3 bq3_0 hq3_0 = true := by decide +kernel
-- LispForge$Shelf.<init> ()V
def bq4_0 : List (Nat × List Instr) := [(0, [.aload 0, .invokespecial 0, .aload 0, .sipush (16), .anewarray 1, .multianewarray 8 0, .return_])]
def hq4_0 : List (List (List Nat)) := [[[], [164, 105, 106], [], [], [165], [167], []]]
set_option maxRecDepth 100000 in
theorem cq4_0 : mm_chkM 4 bq4_0 hq4_0 = true := by decide +kernel
-- LispForge$Compiler.<init> (LLispForge$Shelf;)V
def bq5_0 : List (Nat × List Instr) := [(0, [.aload 0, .invokespecial 0, .aload 0, .new 1, .dup, .sipush (200), .invokevirtual 1, .multianewarray 2 1, .aload 0, .new 1, .dup, .sipush (560), .invokevirtual 1, .multianewarray 2 2, .aload 0, .sipush (50), .newarray .int, .multianewarray 2 3, .aload 0, .sipush (50), .newarray .int, .multianewarray 2 4, .aload 0, .sipush (104), .newarray .int, .multianewarray 2 6, .aload 0, .sipush (104), .newarray .int, .multianewarray 2 7, .aload 0, .aload 1, .multianewarray 2 0, .return_])]
def hq5_0 : List (List (List Nat)) := [[[], [179, 105, 106], [], [180, 108, 80], [], [], [181, 110, 80, 111], [183], [], [180, 108, 80], [], [], [181, 110, 80, 111], [184], [], [], [127], [185], [], [], [127], [186], [], [], [127], [188], [], [], [127], [189], [], [], [182], []]]
set_option maxRecDepth 100000 in
theorem cq5_0 : mm_chkM 5 bq5_0 hq5_0 = true := by decide +kernel
-- LispForge$Linker.<init> (LLispForge$Shelf;)V
def bq6_0 : List (Nat × List Instr) := [(0, [.aload 0, .invokespecial 0, .aload 0, .sipush (16), .anewarray 1, .multianewarray 4 1, .aload 0, .sipush (16), .newarray .int, .multianewarray 4 2, .aload 0, .aload 1, .multianewarray 4 0, .return_])]
def hq6_0 : List (List (List Nat)) := [[[], [224, 105, 106], [], [], [225], [227], [], [], [127], [228], [], [], [226], []]]
set_option maxRecDepth 100000 in
theorem cq6_0 : mm_chkM 6 bq6_0 hq6_0 = true := by decide +kernel
-- LispForge$Machine.<init> ()V
def bq7_0 : List (Nat × List Instr) := [(0, [.aload 0, .invokespecial 0, .aload 0, .new 1, .dup, .sipush (600), .invokevirtual 1, .multianewarray 5 0, .aload 0, .sipush (120), .newarray .int, .multianewarray 5 1, .aload 0, .sipush (24), .newarray .int, .multianewarray 5 3, .aload 0, .sipush (24), .newarray .int, .multianewarray 5 4, .aload 0, .sipush (0), .multianewarray 5 6, .return_])]
def hq7_0 : List (List (List Nat)) := [[[], [247, 105, 106], [], [248, 108, 80], [], [], [249, 110, 80, 111], [250], [], [], [127], [252], [], [], [127], [255], [], [], [127], [256], [], [], [259], []]]
set_option maxRecDepth 100000 in
theorem cq7_0 : mm_chkM 7 bq7_0 hq7_0 = true := by decide +kernel
-- LispForge.write (J)Z
def bq8_0 : List (Nat × List Instr) := [(0, [.sipush (0), .istore 3, .sipush (56), .istore 4, .goto_w 6]),
  (6, [.iload 4, .ifCond .lt 49, .lload 1, .iload 4, .invokestatic 9, .istore 5, .iload 5, .ifCond .eq 43, .iload 5, .sipush (32), .if_icmp .lt 38, .iload 5, .sipush (126), .if_icmp .le 40, .goto_w 38]),
  (38, [.sipush (0), .freturn]),
  (40, [.iinc 3 (1), .goto_w 43]),
  (43, [.iinc 4 (-8), .goto 6]),
  (49, [.iload 3, .aload 0, .invokeinterface 0 0, .invokevirtual 10, .if_icmp .le 62, .sipush (0), .freturn]),
  (62, [.sipush (56), .istore 4, .goto_w 66])]
def hq8_0 : List (List (List Nat)) := [[[], [], [], [], []],
  [[], [], [], [], [317, 318, 79, 319], [], [], [], [], [], [], [], [], [], []],
  [[], []],
  [[], []],
  [[], []],
  [[], [], [288], [320, 321, 322, 80, 323], [], [], []],
  [[], [], []]]
set_option maxRecDepth 100000 in
theorem cq8_0 : mm_chkM 8 bq8_0 hq8_0 = true := by decide +kernel
def bq8_1 : List (Nat × List Instr) := [(66, [.iload 4, .ifCond .lt 99, .lload 1, .iload 4, .invokestatic 9, .istore 5, .iload 5, .ifCond .eq 93, .aload 0, .invokeinterface 0 0, .iload 5, .invokevirtual 11, .goto_w 93]),
  (93, [.iinc 4 (-8), .goto 66]),
  (99, [.sipush (1), .freturn])]
def hq8_1 : List (List (List Nat)) := [[[], [], [], [], [317, 318, 79, 319], [], [], [], [], [288], [], [324, 325, 326, 80, 327], []],
  [[], []],
  [[], []]]
set_option maxRecDepth 100000 in
theorem cq8_1 : mm_chkM 8 bq8_1 hq8_1 = true := by decide +kernel
-- LispForge.characterAt (JI)I
def bq9_0 : List (Nat × List Instr) := [(0, [.lload 0, .iload 2, .lushr, .l2i, .sipush (255), .iand, .ireturn])]
def hq9_0 : List (List (List Nat)) := [[[], [], [], [], [], [], []]]
set_option maxRecDepth 100000 in
theorem cq9_0 : mm_chkM 9 bq9_0 hq9_0 = true := by decide +kernel
-- LispForge$Bytes.room ()I
def bq10_0 : List (Nat × List Instr) := [(0, [.aload 0, .invokeinterface 1 0, .arraylength, .aload 0, .invokeinterface 1 1, .isub, .ireturn])]
def hq10_0 : List (List (List Nat)) := [[[], [116], [], [], [117], [], []]]
set_option maxRecDepth 100000 in
theorem cq10_0 : mm_chkM 10 bq10_0 hq10_0 = true := by decide +kernel
-- LispForge$Bytes.put (I)V
def bq11_0 : List (Nat × List Instr) := [(0, [.aload 0, .invokeinterface 1 1, .aload 0, .invokeinterface 1 0, .arraylength, .if_icmp .ge 36, .aload 0, .invokeinterface 1 0, .aload 0, .invokeinterface 1 1, .iload 1, .sipush (255), .iand, .iastore, .aload 0, .dup, .invokeinterface 1 1, .sipush (1), .iadd, .multianewarray 1 1, .goto_w 36]),
  (36, [.return_])]
def hq11_0 : List (List (List Nat)) := [[[], [117], [], [116], [], [], [], [116], [], [117], [], [], [], [], [], [], [117], [], [], [117], []],
  [[]]]
set_option maxRecDepth 100000 in
theorem cq11_0 : mm_chkM 11 bq11_0 hq11_0 = true := by decide +kernel
-- LispForge.position ()I
def bq12_0 : List (Nat × List Instr) := [(0, [.aload 0, .invokeinterface 0 6, .ireturn])]
def hq12_0 : List (List (List Nat)) := [[[], [294], []]]
set_option maxRecDepth 100000 in
theorem cq12_0 : mm_chkM 12 bq12_0 hq12_0 = true := by decide +kernel
-- LispForge.object (II)I
def bq13_0 : List (Nat × List Instr) := [(0, [.aload 0, .invokeinterface 0 2, .iload 1, .invokevirtual 14, .astore 3, .aload 3, .ifnull 21, .aload 3, .invokeinterface 9 0, .sipush (2), .if_icmp .ne 25, .goto_w 21]),
  (21, [.sipush (-1), .goto 33]),
  (25, [.aload 3, .invokeinterface 9 5, .iload 2, .invokevirtual 15, .goto_w 33]),
  (33, [.ireturn])]
def hq13_0 : List (List (List Nat)) := [[[], [290], [], [336, 337, 338, 83, 339], [], [], [], [], [613], [], [], []],
  [[], []],
  [[], [629], [], [340, 341, 342, 80, 343], []],
  [[]]]
set_option maxRecDepth 100000 in
theorem cq13_0 : mm_chkM 13 bq13_0 hq13_0 = true := by decide +kernel
-- LispForge$Shelf.unit (I)LLispForge$Unit;
def bq14_0 : List (Nat × List Instr) := [(0, [.iload 1, .ifCond .lt 21, .iload 1, .aload 0, .invokeinterface 8 1, .if_icmp .ge 21, .aload 0, .invokeinterface 8 0, .iload 1, .aaload, .goto 22]),
  (21, [.aconst_null, .goto_w 22]),
  (22, [.areturn])]
def hq14_0 : List (List (List Nat)) := [[[], [], [], [], [168], [], [], [167], [], [], []],
  [[], []],
  [[]]]
set_option maxRecDepth 100000 in
theorem cq14_0 : mm_chkM 14 bq14_0 hq14_0 = true := by decide +kernel
-- LispForge$Bytes.lengthOrByte (I)I
def bq15_0 : List (Nat × List Instr) := [(0, [.iload 1, .sipush (-1), .if_icmp .ne 12, .aload 0, .invokeinterface 1 1, .goto 17]),
  (12, [.aload 0, .iload 1, .invokevirtual 16, .goto_w 17]),
  (17, [.ireturn])]
def hq15_0 : List (List (List Nat)) := [[[], [], [], [], [117], []],
  [[], [], [344, 345, 346, 80, 347], []],
  [[]]]
set_option maxRecDepth 100000 in
theorem cq15_0 : mm_chkM 15 bq15_0 hq15_0 = true := by decide +kernel
-- LispForge$Bytes.at (I)I
def bq16_0 : List (Nat × List Instr) := [(0, [.iload 1, .ifCond .lt 21, .iload 1, .aload 0, .invokeinterface 1 1, .if_icmp .ge 21, .aload 0, .invokeinterface 1 0, .iload 1, .iaload, .goto 22]),
  (21, [.sipush (-1), .goto_w 22]),
  (22, [.ireturn])]
def hq16_0 : List (List (List Nat)) := [[[], [], [], [], [117], [], [], [116], [], [], []],
  [[], []],
  [[]]]
set_option maxRecDepth 100000 in
theorem cq16_0 : mm_chkM 16 bq16_0 hq16_0 = true := by decide +kernel
-- LispForge.clear ()V
def bq17_0 : List (Nat × List Instr) := [(0, [.aload 0, .invokeinterface 0 2, .invokevirtual 18, .return_])]
def hq17_0 : List (List (List Nat)) := [[[], [290], [352, 353, 354, 83, 355], []]]
set_option maxRecDepth 100000 in
theorem cq17_0 : mm_chkM 17 bq17_0 hq17_0 = true := by decide +kernel
-- LispForge$Shelf.empty ()V
def bq18_0 : List (Nat × List Instr) := [(0, [.aload 0, .sipush (0), .multianewarray 8 1, .return_])]
def hq18_0 : List (List (List Nat)) := [[[], [], [168], []]]
set_option maxRecDepth 100000 in
theorem cq18_0 : mm_chkM 18 bq18_0 hq18_0 = true := by decide +kernel
-- LispForge.failure ()I
def bq19_0 : List (Nat × List Instr) := [(0, [.aload 0, .invokeinterface 0 7, .ireturn])]
def hq19_0 : List (List (List Nat)) := [[[], [295], []]]
set_option maxRecDepth 100000 in
theorem cq19_0 : mm_chkM 19 bq19_0 hq19_0 = true := by decide +kernel
-- LispForge.image (I)I
def bq20_0 : List (Nat × List Instr) := [(0, [.aload 0, .invokeinterface 0 5, .invokeinterface 5 0, .iload 1, .invokevirtual 15, .ireturn])]
def hq20_0 : List (List (List Nat)) := [[[], [293], [251], [], [340, 341, 342, 80, 343], []]]
set_option maxRecDepth 100000 in
theorem cq20_0 : mm_chkM 20 bq20_0 hq20_0 = true := by decide +kernel
-- LispForge.restart ()Z
def bq21_0 : List (Nat × List Instr) := [(0, [.aload 0, .invokeinterface 0 5, .invokeinterface 5 6, .ifCond .ne 12, .sipush (0), .freturn]),
  (12, [.aload 0, .invokeinterface 0 5, .invokevirtual 22, .sipush (1), .freturn])]
def hq21_0 : List (List (List Nat)) := [[[], [293], [260], [], [], []],
  [[], [293], [368, 369, 370, 86, 371], [], []]]
set_option maxRecDepth 100000 in
theorem cq21_0 : mm_chkM 21 bq21_0 hq21_0 = true := by decide +kernel
-- LispForge$Machine.begin ()V
def bq22_0 : List (Nat × List Instr) := [(0, [.aload 0, .sipush (1), .multianewarray 5 6, .aload 0, .sipush (0), .multianewarray 5 2, .aload 0, .sipush (0), .multianewarray 5 5, .aload 0, .sipush (0), .multianewarray 5 7, .aload 0, .sipush (0), .multianewarray 5 8, .aload 0, .sipush (0), .multianewarray 5 9, .return_])]
def hq22_0 : List (List (List Nat)) := [[[], [], [259], [], [], [253], [], [], [257], [], [], [261], [], [], [263], [], [], [265], []]]
set_option maxRecDepth 100000 in
theorem cq22_0 : mm_chkM 22 bq22_0 hq22_0 = true := by decide +kernel
-- LispForge.about (I)I
def bq23_0 : List (Nat × List Instr) := [(0, [.iload 1, .lookupswitch 88 #[(0, 40), (1, 48), (2, 56), (3, 64), (4, 72), (5, 80)]]),
  (40, [.aload 0, .invokeinterface 0 5, .invokeinterface 5 6, .ireturn]),
  (48, [.aload 0, .invokeinterface 0 5, .invokeinterface 5 7, .ireturn]),
  (56, [.aload 0, .invokeinterface 0 5, .invokeinterface 5 8, .ireturn]),
  (64, [.aload 0, .invokeinterface 0 5, .invokeinterface 5 2, .ireturn]),
  (72, [.aload 0, .invokeinterface 0 5, .invokeinterface 5 5, .ireturn]),
  (80, [.aload 0, .invokeinterface 0 5, .invokeinterface 5 9, .ireturn]),
  (88, [.sipush (-1), .ireturn])]
def hq23_0 : List (List (List Nat)) := [[[], []],
  [[], [293], [260], []],
  [[], [293], [262], []],
  [[], [293], [264], []],
  [[], [293], [254], []],
  [[], [293], [258], []],
  [[], [293], [266], []],
  [[], []]]
set_option maxRecDepth 100000 in
theorem cq23_0 : mm_chkM 23 bq23_0 hq23_0 = true := by decide +kernel
-- LispForge.stack (I)I
def bq24_0 : List (Nat × List Instr) := [(0, [.aload 0, .invokeinterface 0 5, .iload 1, .invokevirtual 25, .ireturn])]
def hq24_0 : List (List (List Nat)) := [[[], [293], [], [380, 381, 382, 86, 383], []]]
set_option maxRecDepth 100000 in
theorem cq24_0 : mm_chkM 24 bq24_0 hq24_0 = true := by decide +kernel
-- LispForge$Machine.numberAt (I)I
def bq25_0 : List (Nat × List Instr) := [(0, [.iload 1, .ifCond .lt 27, .iload 1, .aload 0, .invokeinterface 5 2, .if_icmp .ge 27, .iload 1, .sipush (120), .if_icmp .ge 27, .aload 0, .invokeinterface 5 1, .iload 1, .iaload, .goto 28]),
  (27, [.sipush (0), .goto_w 28]),
  (28, [.ireturn])]
def hq25_0 : List (List (List Nat)) := [[[], [], [], [], [253], [], [], [], [], [], [252], [], [], []],
  [[], []],
  [[]]]
set_option maxRecDepth 100000 in
theorem cq25_0 : mm_chkM 25 bq25_0 hq25_0 = true := by decide +kernel
-- LispForge.top ()I
def bq26_0 : List (Nat × List Instr) := [(0, [.aload 0, .invokeinterface 0 5, .aload 0, .invokeinterface 0 5, .invokeinterface 5 2, .sipush (1), .isub, .invokevirtual 25, .ireturn])]
def hq26_0 : List (List (List Nat)) := [[[], [293], [], [293], [254], [], [], [380, 381, 382, 86, 383], []]]
set_option maxRecDepth 100000 in
theorem cq26_0 : mm_chkM 26 bq26_0 hq26_0 = true := by decide +kernel
-- LispForge.compile ()I
def bq27_0 : List (Nat × List Instr) := [(0, [.aload 0, .invokeinterface 0 1, .aload 0, .invokeinterface 0 0, .invokevirtual 28, .astore 1, .aload 0, .invokeinterface 0 0, .invokevirtual 43, .aload 0, .aload 1, .ifnonnull 34, .aload 0, .invokeinterface 0 1, .invokeinterface 6 6, .goto 35]),
  (34, [.sipush (-1), .goto_w 35]),
  (35, [.multianewarray 0 6, .aload 1, .ifnonnull 52, .checkcast 0]),
  (52, [.aload 0, .invokeinterface 0 3, .aload 1, .invokevirtual 44, .astore 2, .aload 2, .invokeinterface 9 0, .sipush (2), .if_icmp .eq 77, .aload 0, .invokeinterface 0 3, .aload 2, .invokevirtual 52, .goto_w 77]),
  (77, [.aload 0, .invokeinterface 0 2, .invokevirtual 85, .ifCond .eq 97, .checkcast 2])]
def hq27_0 : List (List (List Nat)) := [[[], [289], [], [288], [398, 399, 400, 82, 401], [], [], [288], [483, 484, 485, 80, 486], [], [], [], [], [289], [143], []],
  [[], []],
  [[294], [], [], [487, 528]],
  [[], [291], [], [555, 556, 557, 84, 558], [], [], [613], [], [], [], [291], [], [654, 655, 656, 84, 657], []],
  [[], [290], [825, 826, 827, 83, 828], [], [829, 838]]]
set_option maxRecDepth 100000 in
theorem cq27_0 : mm_chkM 27 bq27_0 hq27_0 = true := by decide +kernel
def bq27_1 : List (Nat × List Instr) := [(97, [.aload 0, .invokeinterface 0 2, .aload 2, .invokevirtual 86, .ireturn])]
def hq27_1 : List (List (List Nat)) := [[[], [290], [], [845, 846, 847, 83, 848], []]]
set_option maxRecDepth 100000 in
theorem cq27_1 : mm_chkM 27 bq27_1 hq27_1 = true := by decide +kernel
end
section
-- LispForge$Reader.read (LLispForge$Bytes;)LLispForge$Form;
def bq28_0 : List (Nat × List Instr) := [(0, [.aload 0, .sipush (0), .multianewarray 6 1, .aload 0, .aconst_null, .multianewarray 6 2, .aload 0, .aconst_null, .multianewarray 6 3, .sipush (0), .istore 2, .goto_w 17]),
  (17, [.iload 2, .aload 1, .invokeinterface 1 1, .if_icmp .ge 50, .aload 0, .aload 1, .iload 2, .invokevirtual 16, .invokevirtual 29, .ifCond .ne 44, .aload 0, .iload 2, .multianewarray 6 6, .aconst_null, .areturn]),
  (44, [.iinc 2 (1), .goto 17]),
  (50, [.aload 0, .aload 1, .invokeinterface 1 1, .multianewarray 6 6, .aload 0, .invokeinterface 6 1, .ifCond .ne 72, .aload 0, .invokeinterface 6 2, .goto 73]),
  (72, [.aconst_null, .goto_w 73]),
  (73, [.areturn])]
def hq28_0 : List (List (List Nat)) := [[[], [], [137], [], [], [138], [], [], [139], [], [], []],
  [[], [], [118], [], [], [], [], [402, 345, 346, 80, 347], [403, 405, 0, 82, 406], [], [], [], [142], [], []],
  [[], []],
  [[], [], [118], [142], [], [137], [], [], [138], []],
  [[], []],
  [[]]]
set_option maxRecDepth 100000 in
theorem cq28_0 : mm_chkM 28 bq28_0 hq28_0 = true := by decide +kernel
-- LispForge$Reader.takes (I)Z
def bq29_0 : List (Nat × List Instr) := [(0, [.aload 0, .iload 1, .invokevirtual 30, .ifCond .eq 10, .sipush (1), .freturn]),
  (10, [.aload 0, .invokeinterface 6 3, .ifnull 21, .sipush (1), .goto 22]),
  (21, [.sipush (0), .goto_w 22]),
  (22, [.istore 2, .aload 0, .aconst_null, .multianewarray 6 3, .iload 1, .lookupswitch 76 #[(32, 64), (40, 66), (41, 71)]]),
  (64, [.sipush (1), .freturn]),
  (66, [.aload 0, .invokevirtual 36, .freturn]),
  (71, [.aload 0, .invokevirtual 40, .freturn]),
  (76, [.iload 2, .ifCond .ne 92, .aload 0, .iload 1, .invokevirtual 41, .ifCond .eq 92, .sipush (1), .goto 93]),
  (92, [.sipush (0), .goto_w 93]),
  (93, [.freturn])]
def hq29_0 : List (List (List Nat)) := [[[], [], [407, 409, 1, 82, 410], [], [], []],
  [[], [139], [], [], []],
  [[], []],
  [[], [], [], [139], [], []],
  [[], []],
  [[], [428, 430, 3, 82, 431], []],
  [[], [472, 474, 5, 82, 475], []],
  [[], [], [], [], [476, 478, 6, 82, 479], [], [], []],
  [[], []],
  [[]]]
set_option maxRecDepth 100000 in
theorem cq29_0 : mm_chkM 29 bq29_0 hq29_0 = true := by decide +kernel
-- LispForge$Reader.lengthensAtom (I)Z
def bq30_0 : List (Nat × List Instr) := [(0, [.aload 0, .invokeinterface 6 3, .ifnonnull 9, .sipush (0), .freturn]),
  (9, [.iload 1, .invokestatic 31, .ifCond .eq 25, .aload 0, .iload 1, .sipush (48), .isub, .invokevirtual 32, .freturn]),
  (25, [.iload 1, .invokestatic 33, .ifCond .eq 50, .aload 0, .invokeinterface 6 3, .invokevirtual 34, .ifCond .eq 50, .aload 0, .invokeinterface 6 4, .sipush (4), .if_icmp .ne 52, .goto_w 50]),
  (50, [.sipush (0), .freturn])]
def hq30_0 : List (List (List Nat)) := [[[], [139], [], [], []],
  [[], [411, 412, 82, 413], [], [], [], [], [], [414, 416, 2, 82, 417], []],
  [[], [418, 419, 82, 420], [], [], [139], [421, 422, 423, 88, 424], [], [], [140], [], [], []],
  [[], []]]
set_option maxRecDepth 100000 in
theorem cq30_0 : mm_chkM 30 bq30_0 hq30_0 = true := by decide +kernel
def bq30_1 : List (Nat × List Instr) := [(52, [.aload 0, .invokeinterface 6 3, .aload 0, .invokeinterface 6 3, .invokeinterface 3 1, .sipush (8), .ishl, .iload 1, .ior, .multianewarray 3 1, .aload 0, .dup, .invokeinterface 6 4, .sipush (1), .iadd, .multianewarray 6 4, .sipush (1), .freturn])]
def hq30_1 : List (List (List Nat)) := [[[], [139], [], [139], [442], [], [], [], [], [442], [], [], [140], [], [], [140], [], []]]
set_option maxRecDepth 100000 in
theorem cq30_1 : mm_chkM 30 bq30_1 hq30_1 = true := by decide +kernel
-- LispForge$Reader.isDigit (I)Z
def bq31_0 : List (Nat × List Instr) := [(0, [.iload 0, .sipush (48), .if_icmp .lt 16, .iload 0, .sipush (57), .if_icmp .gt 16, .sipush (1), .goto 17]),
  (16, [.sipush (0), .goto_w 17]),
  (17, [.freturn])]
def hq31_0 : List (List (List Nat)) := [[[], [], [], [], [], [], [], []],
  [[], []],
  [[]]]
set_option maxRecDepth 100000 in
theorem cq31_0 : mm_chkM 31 bq31_0 hq31_0 = true := by decide +kernel
-- LispForge$Reader.addsDigit (I)Z
def bq32_0 : List (Nat × List Instr) := [(0, [.aload 0, .invokeinterface 6 3, .invokeinterface 3 0, .sipush (1), .if_icmp .ne 49, .aload 0, .invokeinterface 6 3, .invokeinterface 3 1, .sipush (45), .if_icmp .ne 49, .aload 0, .invokeinterface 6 3, .sipush (0), .multianewarray 3 0, .aload 0, .invokeinterface 6 3, .sipush (0), .multianewarray 3 1, .aload 0, .sipush (0), .multianewarray 6 4, .aload 0, .sipush (1), .multianewarray 6 5, .goto_w 49]),
  (49, [.aload 0, .invokeinterface 6 3, .invokeinterface 3 0, .ifCond .ne 67, .aload 0, .invokeinterface 6 4, .sipush (4), .if_icmp .ne 69, .goto_w 67]),
  (67, [.sipush (0), .freturn])]
def hq32_0 : List (List (List Nat)) := [[[], [139], [439], [], [], [], [139], [442], [], [], [], [139], [], [439], [], [139], [], [442], [], [], [140], [], [], [141], []],
  [[], [139], [439], [], [], [140], [], [], []],
  [[], []]]
set_option maxRecDepth 100000 in
theorem cq32_0 : mm_chkM 32 bq32_0 hq32_0 = true := by decide +kernel
def bq32_1 : List (Nat × List Instr) := [(69, [.aload 0, .invokeinterface 6 3, .aload 0, .invokeinterface 6 3, .invokeinterface 3 1, .sipush (10), .imul, .aload 0, .invokeinterface 6 5, .ifCond .eq 95, .iload 1, .ineg, .goto 96]),
  (95, [.iload 1, .goto_w 96]),
  (96, [.iadd, .multianewarray 3 1, .aload 0, .dup, .invokeinterface 6 4, .sipush (1), .iadd, .multianewarray 6 4, .sipush (1), .freturn])]
def hq32_1 : List (List (List Nat)) := [[[], [139], [], [139], [442], [], [], [], [141], [], [], [], []],
  [[], []],
  [[], [442], [], [], [140], [], [], [140], [], []]]
set_option maxRecDepth 100000 in
theorem cq32_1 : mm_chkM 32 bq32_1 hq32_1 = true := by decide +kernel
-- LispForge$Reader.isLetter (I)Z
def bq33_0 : List (Nat × List Instr) := [(0, [.iload 0, .sipush (97), .if_icmp .lt 16, .iload 0, .sipush (122), .if_icmp .gt 16, .sipush (1), .goto 17]),
  (16, [.sipush (0), .goto_w 17]),
  (17, [.freturn])]
def hq33_0 : List (List (List Nat)) := [[[], [], [], [], [], [], [], []],
  [[], []],
  [[]]]
set_option maxRecDepth 100000 in
theorem cq33_0 : mm_chkM 33 bq33_0 hq33_0 = true := by decide +kernel
-- LispForge$Form.isSymbolOfLetters ()Z
def bq34_0 : List (Nat × List Instr) := [(0, [.aload 0, .invokeinterface 3 0, .sipush (1), .if_icmp .ne 22, .aload 0, .invokeinterface 3 1, .invokestatic 35, .ifCond .eq 22, .sipush (1), .goto 23]),
  (22, [.sipush (0), .goto_w 23]),
  (23, [.freturn])]
def hq34_0 : List (List (List Nat)) := [[[], [437], [], [], [], [440], [425, 426, 79, 427], [], [], []],
  [[], []],
  [[]]]
set_option maxRecDepth 100000 in
theorem cq34_0 : mm_chkM 34 bq34_0 hq34_0 = true := by decide +kernel
-- LispForge.isOfLetters (I)Z
def bq35_0 : List (Nat × List Instr) := [(0, [.iload 0, .sipush (255), .iand, .sipush (97), .if_icmp .lt 14, .sipush (1), .goto 15]),
  (14, [.sipush (0), .goto_w 15]),
  (15, [.freturn])]
def hq35_0 : List (List (List Nat)) := [[[], [], [], [], [], [], []],
  [[], []],
  [[]]]
set_option maxRecDepth 100000 in
theorem cq35_0 : mm_chkM 35 bq35_0 hq35_0 = true := by decide +kernel
-- LispForge$Reader.opensList ()Z
def bq36_0 : List (Nat × List Instr) := [(0, [.aload 0, .invokeinterface 6 1, .sipush (8), .if_icmp .lt 11, .sipush (0), .freturn]),
  (11, [.new 3, .dup, .sipush (2), .sipush (0), .invokevirtual 37, .astore 1, .aload 0, .aload 1, .invokevirtual 38, .ifCond .ne 31, .sipush (0), .freturn]),
  (31, [.aload 0, .invokeinterface 6 0, .aload 0, .invokeinterface 6 1, .aload 1, .aastore, .aload 0, .dup, .invokeinterface 6 1, .sipush (1), .iadd, .multianewarray 6 1, .sipush (1), .freturn])]
def hq36_0 : List (List (List Nat)) := [[[], [137], [], [], [], []],
  [[134, 432, 88], [], [], [], [433, 434, 88, 435], [], [], [], [464, 466, 4, 82, 467], [], [], []],
  [[], [136], [], [137], [], [], [], [], [137], [], [], [137], [], []]]
set_option maxRecDepth 100000 in
theorem cq36_0 : mm_chkM 36 bq36_0 hq36_0 = true := by decide +kernel
-- LispForge$Form.<init> (II)V
def bq37_0 : List (Nat × List Instr) := [(0, [.aload 0, .invokespecial 0, .aload 0, .iload 1, .multianewarray 3 0, .aload 0, .iload 2, .multianewarray 3 1, .return_])]
def hq37_0 : List (List (List Nat)) := [[[], [436, 105, 106], [], [], [437], [], [], [440], []]]
set_option maxRecDepth 100000 in
theorem cq37_0 : mm_chkM 37 bq37_0 hq37_0 = true := by decide +kernel
-- LispForge$Reader.adds (LLispForge$Form;)Z
def bq38_0 : List (Nat × List Instr) := [(0, [.aload 0, .invokeinterface 6 1, .ifCond .le 30, .aload 0, .invokeinterface 6 1, .sipush (8), .if_icmp .gt 30, .aload 0, .invokeinterface 6 0, .aload 0, .invokeinterface 6 1, .sipush (1), .isub, .aaload, .goto 31]),
  (30, [.aconst_null, .goto_w 31]),
  (31, [.astore 2, .aload 2, .ifnull 43, .aload 2, .aload 1, .invokevirtual 39, .sipush (1), .freturn]),
  (43, [.aload 0, .invokeinterface 6 2, .ifnull 52, .sipush (0), .freturn]),
  (52, [.aload 0, .aload 1, .multianewarray 6 2, .sipush (1), .freturn])]
def hq38_0 : List (List (List Nat)) := [[[], [137], [], [], [137], [], [], [], [136], [], [137], [], [], [], []],
  [[], []],
  [[], [], [], [], [], [468, 469, 470, 88, 471], [], []],
  [[], [138], [], [], []],
  [[], [], [138], [], []]]
set_option maxRecDepth 100000 in
theorem cq38_0 : mm_chkM 38 bq38_0 hq38_0 = true := by decide +kernel
-- LispForge$Form.append (LLispForge$Form;)V
def bq39_0 : List (Nat × List Instr) := [(0, [.aload 0, .invokeinterface 3 4, .ifnonnull 15, .aload 0, .aload 1, .multianewarray 3 3, .goto 23]),
  (15, [.aload 0, .invokeinterface 3 4, .aload 1, .multianewarray 3 5, .goto_w 23]),
  (23, [.aload 0, .aload 1, .multianewarray 3 4, .aload 0, .dup, .invokeinterface 3 2, .sipush (1), .iadd, .multianewarray 3 2, .return_])]
def hq39_0 : List (List (List Nat)) := [[[], [447], [], [], [], [445], []],
  [[], [447], [], [449], []],
  [[], [], [447], [], [], [444], [], [], [444], []]]
set_option maxRecDepth 100000 in
theorem cq39_0 : mm_chkM 39 bq39_0 hq39_0 = true := by decide +kernel
-- LispForge$Reader.closesList ()Z
def bq40_0 : List (Nat × List Instr) := [(0, [.aload 0, .invokeinterface 6 1, .ifCond .ne 9, .sipush (0), .freturn]),
  (9, [.aload 0, .dup, .invokeinterface 6 1, .sipush (1), .isub, .multianewarray 6 1, .sipush (1), .freturn])]
def hq40_0 : List (List (List Nat)) := [[[], [137], [], [], []],
  [[], [], [137], [], [], [137], [], []]]
set_option maxRecDepth 100000 in
theorem cq40_0 : mm_chkM 40 bq40_0 hq40_0 = true := by decide +kernel
-- LispForge$Reader.beginsAtom (I)Z
def bq41_0 : List (Nat × List Instr) := [(0, [.iload 1, .invokestatic 31, .istore 2, .iload 2, .ifCond .ne 25, .iload 1, .invokestatic 33, .ifCond .ne 25, .iload 1, .invokestatic 42, .ifCond .ne 25, .sipush (0), .freturn]),
  (25, [.aload 0, .new 3, .dup, .iload 2, .ifCond .eq 38, .sipush (0), .goto 39]),
  (38, [.sipush (1), .goto_w 39]),
  (39, [.iload 2, .ifCond .eq 50, .iload 1, .sipush (48), .isub, .goto 51]),
  (50, [.iload 1, .goto_w 51]),
  (51, [.invokevirtual 37, .multianewarray 6 3, .aload 0, .sipush (1), .multianewarray 6 4, .aload 0, .sipush (0), .multianewarray 6 5, .aload 0, .aload 0, .invokeinterface 6 3, .invokevirtual 38, .freturn])]
def hq41_0 : List (List (List Nat)) := [[[], [411, 412, 82, 413], [], [], [], [], [418, 419, 82, 420], [], [], [480, 481, 82, 482], [], [], []],
  [[], [134, 432, 88], [], [], [], [], []],
  [[], []],
  [[], [], [], [], [], []],
  [[], []],
  [[433, 434, 88, 435], [139], [], [], [140], [], [], [141], [], [], [139], [464, 466, 4, 82, 467], []]]
set_option maxRecDepth 100000 in
theorem cq41_0 : mm_chkM 41 bq41_0 hq41_0 = true := by decide +kernel
-- LispForge$Reader.isSign (I)Z
def bq42_0 : List (Nat × List Instr) := [(0, [.iload 0, .sipush (43), .if_icmp .eq 30, .iload 0, .sipush (45), .if_icmp .eq 30, .iload 0, .sipush (42), .if_icmp .eq 30, .iload 0, .sipush (60), .if_icmp .eq 30, .iload 0, .sipush (61), .if_icmp .ne 34, .goto_w 30]),
  (30, [.sipush (1), .goto 35]),
  (34, [.sipush (0), .goto_w 35]),
  (35, [.freturn])]
def hq42_0 : List (List (List Nat)) := [[[], [], [], [], [], [], [], [], [], [], [], [], [], [], [], []],
  [[], []],
  [[], []],
  [[]]]
set_option maxRecDepth 100000 in
theorem cq42_0 : mm_chkM 42 bq42_0 hq42_0 = true := by decide +kernel
-- LispForge$Bytes.empty ()V
def bq43_0 : List (Nat × List Instr) := [(0, [.aload 0, .sipush (0), .multianewarray 1 1, .return_])]
def hq43_0 : List (List (List Nat)) := [[[], [], [117], []]]
set_option maxRecDepth 100000 in
theorem cq43_0 : mm_chkM 43 bq43_0 hq43_0 = true := by decide +kernel
-- LispForge$Shelf.latest (II)LLispForge$Unit;
def bq59_0 : List (Nat × List Instr) := [(0, [.aload 0, .invokeinterface 8 1, .sipush (1), .isub, .istore 3, .goto_w 7]),
  (7, [.iload 3, .ifCond .lt 51, .aload 0, .invokeinterface 8 0, .iload 3, .aaload, .astore 4, .aload 4, .ifnull 45, .aload 4, .invokeinterface 9 0, .iload 1, .if_icmp .ne 45, .aload 4, .invokeinterface 9 1, .iload 2, .if_icmp .ne 45, .aload 4, .areturn]),
  (45, [.iinc 3 (-1), .goto 7]),
  (51, [.aconst_null, .areturn])]
def hq59_0 : List (List (List Nat)) := [[[], [168], [], [], [], []],
  [[], [], [], [167], [], [], [], [], [], [], [614], [], [], [], [617], [], [], [], []],
  [[], []],
  [[], []]]
set_option maxRecDepth 100000 in
theorem cq59_0 : mm_chkM 59 bq59_0 hq59_0 = true := by decide +kernel
end
section
-- LispForge.link ()I
def bq87_0 : List (Nat × List Instr) := [(0, [.aload 0, .aload 0, .invokeinterface 0 4, .invokevirtual 88, .multianewarray 0 7, .aload 0, .invokeinterface 0 7, .ifCond .eq 28, .checkcast 2]),
  (28, [.aload 0, .invokeinterface 0 4, .aload 0, .invokeinterface 0 5, .invokeinterface 5 0, .invokevirtual 92, .aload 0, .invokeinterface 0 5, .invokevirtual 22, .aload 0, .invokeinterface 0 5, .invokeinterface 5 0, .invokeinterface 1 1, .ireturn])]
def hq87_0 : List (List (List Nat)) := [[[], [], [292], [857, 858, 859, 85, 860], [295], [], [295], [], [829, 875]],
  [[], [292], [], [293], [251], [876, 877, 878, 85, 879], [], [293], [368, 369, 370, 86, 371], [], [293], [251], [120], []]]
set_option maxRecDepth 100000 in
theorem cq87_0 : mm_chkM 87 bq87_0 hq87_0 = true := by decide +kernel
-- LispForge$Linker.gather ()I
def bq88_0 : List (Nat × List Instr) := [(0, [.aload 0, .sipush (0), .multianewarray 4 3, .aload 0, .sipush (0), .multianewarray 4 4, .aload 0, .invokeinterface 4 0, .sipush (0), .sipush (0), .invokevirtual 59, .astore 1, .aload 1, .ifnonnull 26, .sipush (1), .ireturn]),
  (26, [.aload 0, .aload 1, .invokevirtual 89, .sipush (0), .istore 2, .goto_w 33]),
  (33, [.iload 2, .sipush (16), .if_icmp .ge 70, .iload 2, .aload 0, .invokeinterface 4 3, .if_icmp .ge 70, .aload 0, .aload 0, .invokeinterface 4 1, .iload 2, .aaload, .invokevirtual 90, .istore 3, .iload 3, .ifCond .eq 64, .iload 3, .ireturn]),
  (64, [.iinc 2 (1), .goto 33])]
def hq88_0 : List (List (List Nat)) := [[[], [], [229], [], [], [230], [], [226], [], [], [861, 687, 688, 83, 689], [], [], [], [], []],
  [[], [], [862, 864, 29, 85, 865], [], [], []],
  [[], [], [], [], [], [229], [], [], [], [227], [], [], [866, 868, 30, 85, 869], [], [], [], [], []],
  [[], []]]
set_option maxRecDepth 100000 in
theorem cq88_0 : mm_chkM 88 bq88_0 hq88_0 = true := by decide +kernel
def bq88_1 : List (Nat × List Instr) := [(70, [.aload 0, .invokeinterface 4 4, .sipush (600), .if_icmp .le 84, .sipush (4), .goto 85]),
  (84, [.sipush (0), .goto_w 85]),
  (85, [.ireturn])]
def hq88_1 : List (List (List Nat)) := [[[], [230], [], [], [], []],
  [[], []],
  [[]]]
set_option maxRecDepth 100000 in
theorem cq88_1 : mm_chkM 88 bq88_1 hq88_1 = true := by decide +kernel
-- LispForge.run (I)I
def bq97_0 : List (Nat × List Instr) := [(0, [.iload 1, .ifCond .lt 11, .iload 1, .sipush (500), .if_icmp .le 21, .goto_w 11]),
  (11, [.checkcast 0]),
  (21, [.aload 0, .invokeinterface 0 5, .iload 1, .invokevirtual 98, .ireturn])]
def hq97_0 : List (List (List Nat)) := [[[], [], [], [], [], []],
  [[487, 907]],
  [[], [293], [], [908, 909, 910, 86, 911], []]]
set_option maxRecDepth 100000 in
theorem cq97_0 : mm_chkM 97 bq97_0 hq97_0 = true := by decide +kernel
-- LispForge$Machine.makeSteps (I)I
def bq98_0 : List (Nat × List Instr) := [(0, [.sipush (0), .istore 2, .goto_w 2]),
  (2, [.iload 2, .iload 1, .if_icmp .ge 25, .aload 0, .invokeinterface 5 6, .sipush (1), .if_icmp .ne 25, .aload 0, .invokevirtual 99, .iinc 2 (1), .goto 2]),
  (25, [.iload 2, .ireturn])]
def hq98_0 : List (List (List Nat)) := [[[], [], []],
  [[], [], [], [], [259], [], [], [], [912, 914, 34, 86, 915], [], []],
  [[], []]]
set_option maxRecDepth 100000 in
theorem cq98_0 : mm_chkM 98 bq98_0 hq98_0 = true := by decide +kernel
-- LispForgeModel.<init> ()V
def bq108_0 : List (Nat × List Instr) := [(0, [.aload 0, .invokespecial 0, .aload 0, .sipush (-1), .multianewarray 10 3, .aload 0, .sipush (120), .newarray .char, .multianewarray 10 5, .aload 0, .sipush (16), .newarray .int, .multianewarray 10 6, .aload 0, .sipush (16), .newarray .int, .multianewarray 10 7, .aload 0, .sipush (16), .newarray .int, .multianewarray 10 8, .aload 0, .sipush (16), .newarray .int, .multianewarray 10 9, .aload 0, .sipush (3200), .newarray .byte, .multianewarray 10 10, .aload 0, .sipush (16), .newarray .int, .multianewarray 10 11, .aload 0, .sipush (800), .newarray .int, .multianewarray 10 12, .aload 0, .sipush (800), .newarray .int, .multianewarray 10 13, .aload 0, .sipush (64), .newarray .int, .multianewarray 10 14, .aload 0, .sipush (1920), .newarray .char, .multianewarray 10 15, .aload 0, .sipush (16), .newarray .int, .multianewarray 10 16, .aload 0, .sipush (1300), .newarray .int, .multianewarray 10 19, .aload 0, .sipush (1300), .newarray .int, .multianewarray 10 20, .aload 0, .sipush (1300), .newarray .int, .multianewarray 10 21, .aload 0, .sipush (1300), .newarray .int, .multianewarray 10 22, .aload 0, .sipush (9), .newarray .int, .multianewarray 10 26, .aload 0, .sipush (9), .newarray .int, .multianewarray 10 27, .aload 0, .sipush (300), .newarray .int, .multianewarray 10 35, .aload 0, .sipush (300), .newarray .int, .multianewarray 10 36, .aload 0, .sipush (300), .newarray .int, .multianewarray 10 37, .aload 0, .sipush (260), .newarray .byte, .multianewarray 10 38, .aload 0, .sipush (120), .newarray .int, .multianewarray 10 39, .aload 0, .sipush (120), .newarray .int, .multianewarray 10 40, .aload 0, .sipush (70), .newarray .int, .multianewarray 10 41, .aload 0, .sipush (70), .newarray .int, .multianewarray 10 42, .aload 0, .sipush (16), .newarray .int, .multianewarray 10 44, .aload 0, .sipush (16), .newarray .int, .multianewarray 10 45, .aload 0, .sipush (600), .newarray .byte, .multianewarray 10 47, .aload 0, .sipush (120), .newarray .int, .multianewarray 10 54, .aload 0, .sipush (24), .newarray .int, .multianewarray 10 55, .aload 0, .sipush (24), .newarray .int, .multianewarray 10 56, .return_])]
def hq108_0 : List (List (List Nat)) := [[[], [957, 105, 106], [], [], [961], [], [], [1130], [963], [], [], [127], [964], [], [], [127], [965], [], [], [127], [966], [], [], [127], [967], [], [], [554], [968], [], [], [127], [969], [], [], [127], [970], [], [], [127], [971], [], [], [127], [972], [], [], [1130], [973], [], [], [127], [974], [], [], [127], [977], [], [], [127], [978], [], [], [127], [979], [], [], [127], [980], [], [], [127], [984], [], [], [127], [985], [], [], [127], [993], [], [], [127], [994], [], [], [127], [995], [], [], [554], [996], [], [], [127], [997], [], [], [127], [998], [], [], [127], [999], [], [], [127], [1000], [], [], [127], [1002], [], [], [127], [1003], [], [], [554], [1005], [], [], [127], [1012], [], [], [127], [1013], [], [], [127], [1014], []]]
set_option maxRecDepth 100000 in
theorem cq108_0 : mm_chkM 108 bq108_0 hq108_0 = true := by decide +kernel
-- LispForgeModel.write (J)Z
def bq109_0 : List (Nat × List Instr) := [(0, [.aload 0, .sipush (0), .multianewarray 10 0, .aload 0, .invokeinterface 10 1, .istore 3, .sipush (1), .istore 4, .sipush (7), .istore 5, .goto_w 17]),
  (17, [.iload 5, .ifCond .lt 101, .lload 1, .sipush (8), .iload 5, .imul, .lushr, .l2i, .sipush (255), .iand, .istore 6, .iload 4, .ifCond .eq 70, .iload 6, .ifCond .eq 66, .iload 6, .sipush (31), .if_icmp .le 70, .iload 6, .sipush (127), .if_icmp .ge 70, .iload 3, .sipush (120), .if_icmp .ge 70, .goto_w 66]),
  (66, [.sipush (1), .goto 71]),
  (70, [.sipush (0), .goto_w 71])]
def hq109_0 : List (List (List Nat)) := [[[], [], [958], [], [959], [], [], [], [], [], []],
  [[], [], [], [], [], [], [], [], [], [], [], [], [], [], [], [], [], [], [], [], [], [], [], [], []],
  [[], []],
  [[], []]]
set_option maxRecDepth 100000 in
theorem cq109_0 : mm_chkM 109 bq109_0 hq109_0 = true := by decide +kernel
def bq109_1 : List (Nat × List Instr) := [(71, [.istore 4, .iload 4, .ifCond .eq 95, .iload 6, .ifCond .eq 95, .aload 0, .invokeinterface 10 5, .iload 3, .iload 6, .i2c, .castore, .iinc 3 (1), .goto_w 95]),
  (95, [.iinc 5 (-1), .goto 17]),
  (101, [.aload 0, .iload 4, .ifCond .eq 111, .iload 3, .goto 115]),
  (111, [.aload 0, .invokeinterface 10 1, .goto_w 115]),
  (115, [.multianewarray 10 1, .iload 4, .freturn])]
def hq109_1 : List (List (List Nat)) := [[[], [], [], [], [], [], [963], [], [], [], [], [], []],
  [[], []],
  [[], [], [], [], []],
  [[], [959], []],
  [[959], [], []]]
set_option maxRecDepth 100000 in
theorem cq109_1 : mm_chkM 109 bq109_1 hq109_1 = true := by decide +kernel
end
section
-- LispForgeModel.compile ()I
def bq110_0 : List (Nat × List Instr) := [(0, [.aload 0, .sipush (0), .multianewarray 10 17, .aload 0, .sipush (0), .multianewarray 10 18, .aload 0, .sipush (0), .multianewarray 10 32, .aload 0, .sipush (0), .multianewarray 10 28, .aload 0, .sipush (-1), .sipush (0), .sipush (-1), .invokevirtual 111, .istore 1, .aload 0, .aload 0, .invokeinterface 10 24, .multianewarray 10 3, .aload 0, .aload 0, .invokeinterface 10 24, .ifCond .lt 48, .sipush (1), .goto 49]),
  (48, [.sipush (0), .goto_w 49])]
def hq110_0 : List (List (List Nat)) := [[[], [], [975], [], [], [976], [], [], [990], [], [], [986], [], [], [], [], [1139, 1141, 43, 87, 1142], [], [], [], [982], [961], [], [], [982], [], [], []],
  [[], []]]
set_option maxRecDepth 100000 in
theorem cq110_0 : mm_chkM 110 bq110_0 hq110_0 = true := by decide +kernel
def bq110_1 : List (Nat × List Instr) := [(49, [.multianewarray 10 0, .sipush (0), .istore 2, .aload 0, .invokeinterface 10 0, .ifCond .ne 339, .aload 0, .iload 1, .invokevirtual 120, .istore 3, .iload 3, .sipush (109), .sipush (97), .sipush (99), .invokestatic 123, .if_icmp .ne 84, .sipush (1), .goto 85]),
  (84, [.sipush (0), .goto_w 85]),
  (85, [.istore 4, .iload 3, .sipush (100), .sipush (101), .sipush (102), .invokestatic 123, .if_icmp .ne 104, .sipush (1), .goto 105]),
  (104, [.sipush (0), .goto_w 105]),
  (105, [.istore 5, .sipush (0), .istore 6, .iload 4, .ifCond .ne 120, .iload 5, .ifCond .eq 191, .goto_w 120])]
def hq110_1 : List (List (List Nat)) := [[[958], [], [], [], [958], [], [], [], [1172, 1174, 49, 87, 1175], [], [], [], [], [], [1184, 1185, 87, 1186], [], [], []],
  [[], []],
  [[], [], [], [], [], [1184, 1185, 87, 1186], [], [], []],
  [[], []],
  [[], [], [], [], [], [], [], []]]
set_option maxRecDepth 100000 in
theorem cq110_1 : mm_chkM 110 bq110_1 hq110_1 = true := by decide +kernel
def bq110_2 : List (Nat × List Instr) := [(120, [.aload 0, .aload 0, .iload 1, .invokevirtual 121, .sipush (4), .if_icmp .ne 160, .aload 0, .aload 0, .iload 1, .sipush (1), .invokevirtual 122, .invokevirtual 124, .ifCond .eq 160, .aload 0, .invokeinterface 10 20, .aload 0, .iload 1, .sipush (1), .invokevirtual 122, .iaload, .invokestatic 125, .ifCond .eq 164, .goto_w 160]),
  (160, [.sipush (1), .goto 165]),
  (164, [.sipush (0), .goto_w 165]),
  (165, [.multianewarray 10 28, .aload 0, .invokeinterface 10 28, .ifCond .eq 179, .sipush (0), .goto 189]),
  (179, [.aload 0, .aload 0, .iload 1, .sipush (2), .invokevirtual 122, .invokevirtual 126, .goto_w 189]),
  (189, [.istore 6, .goto_w 191])]
def hq110_2 : List (List (List Nat)) := [[[], [], [], [1176, 1178, 50, 87, 1179], [], [], [], [], [], [], [1180, 1182, 51, 87, 1183], [1187, 1189, 52, 87, 1190], [], [], [978], [], [], [], [1180, 1182, 51, 87, 1183], [], [1191, 1192, 87, 1193], [], []],
  [[], []],
  [[], []],
  [[986], [], [986], [], [], []],
  [[], [], [], [], [1180, 1182, 51, 87, 1183], [1194, 1196, 53, 87, 1197], []],
  [[], []]]
set_option maxRecDepth 100000 in
theorem cq110_2 : mm_chkM 110 bq110_2 hq110_2 = true := by decide +kernel
def bq110_3 : List (Nat × List Instr) := [(191, [.aload 0, .invokeinterface 10 28, .ifCond .ne 236, .iload 4, .ifCond .ne 236, .aload 0, .iload 5, .ifCond .eq 218, .aload 0, .iload 1, .sipush (3), .invokevirtual 122, .goto 219]),
  (218, [.iload 1, .goto_w 219]),
  (219, [.iload 5, .ifCond .eq 229, .sipush (13), .goto 231]),
  (229, [.sipush (14), .goto_w 231]),
  (231, [.iload 6, .invokevirtual 128, .goto_w 236]),
  (236, [.aload 0, .aload 0, .invokeinterface 10 28, .ifCond .eq 248, .sipush (2), .goto 262]),
  (248, [.aload 0, .invokeinterface 10 2, .sipush (16), .if_icmp .ne 261, .sipush (3), .goto 262]),
  (261, [.sipush (0), .goto_w 262])]
def hq110_3 : List (List (List Nat)) := [[[], [986], [], [], [], [], [], [], [], [], [], [1180, 1182, 51, 87, 1183], []],
  [[], []],
  [[], [], [], []],
  [[], []],
  [[], [1202, 1204, 55, 87, 1205], []],
  [[], [], [986], [], [], []],
  [[], [960], [], [], [], []],
  [[], []]]
set_option maxRecDepth 100000 in
theorem cq110_3 : mm_chkM 110 bq110_3 hq110_3 = true := by decide +kernel
def bq110_4 : List (Nat × List Instr) := [(262, [.multianewarray 10 0, .aload 0, .invokeinterface 10 0, .ifCond .ne 339, .aload 0, .iload 4, .ifCond .eq 282, .sipush (2), .goto 292]),
  (282, [.iload 5, .ifCond .eq 291, .sipush (1), .goto 292]),
  (291, [.sipush (0), .goto_w 292]),
  (292, [.iload 4, .ifCond .ne 302, .iload 5, .ifCond .eq 316, .goto_w 302]),
  (302, [.aload 0, .invokeinterface 10 20, .aload 0, .iload 1, .sipush (1), .invokevirtual 122, .iaload, .goto 317]),
  (316, [.sipush (0), .goto_w 317]),
  (317, [.iload 6, .iload 4, .ifCond .eq 331, .aload 0, .invokevirtual 140, .goto 335]),
  (331, [.aload 0, .invokeinterface 10 1, .goto_w 335]),
  (335, [.invokevirtual 141, .istore 2, .goto_w 339])]
def hq110_4 : List (List (List Nat)) := [[[958], [], [958], [], [], [], [], [], []],
  [[], [], [], []],
  [[], []],
  [[], [], [], [], []],
  [[], [978], [], [], [], [1180, 1182, 51, 87, 1183], [], []],
  [[], []],
  [[], [], [], [], [1249, 1251, 66, 87, 1252], []],
  [[], [959], []],
  [[1253, 1255, 67, 87, 1256], [], []]]
set_option maxRecDepth 100000 in
theorem cq110_4 : mm_chkM 110 bq110_4 hq110_4 = true := by decide +kernel
def bq110_5 : List (Nat × List Instr) := [(339, [.aload 0, .sipush (0), .multianewarray 10 1, .iload 2, .ireturn])]
def hq110_5 : List (List (List Nat)) := [[[], [], [959], [], []]]
set_option maxRecDepth 100000 in
theorem cq110_5 : mm_chkM 110 bq110_5 hq110_5 = true := by decide +kernel
-- LispForgeModel.read (III)I
def bq111_0 : List (Nat × List Instr) := [(0, [.aload 0, .iload 2, .multianewarray 10 23, .aload 0, .sipush (-1), .multianewarray 10 24, .aload 0, .sipush (0), .multianewarray 10 25, .sipush (-1), .istore 4, .sipush (1), .istore 5, .goto_w 21]),
  (21, [.aload 0, .invokeinterface 10 24, .ifCond .ge 384, .iload 4, .ifCond .lt 37, .iload 1, .ifCond .ge 384, .goto_w 37]),
  (37, [.aload 0, .iload 1, .aload 0, .invokeinterface 10 23, .invokevirtual 112, .istore 6, .iload 6, .invokestatic 113, .ifCond .ne 72, .iload 6, .invokestatic 114, .ifCond .ne 72, .iload 6, .invokestatic 115, .ifCond .eq 76, .goto_w 72]),
  (72, [.sipush (1), .goto 77]),
  (76, [.sipush (0), .goto_w 77])]
def hq111_0 : List (List (List Nat)) := [[[], [], [981], [], [], [982], [], [], [983], [], [], [], [], []],
  [[], [982], [], [], [], [], [], []],
  [[], [], [], [981], [1143, 1145, 44, 87, 1146], [], [], [1147, 1148, 87, 1149], [], [], [1150, 1151, 87, 1152], [], [], [1153, 1154, 87, 1155], [], []],
  [[], []],
  [[], []]]
set_option maxRecDepth 100000 in
theorem cq111_0 : mm_chkM 111 bq111_0 hq111_0 = true := by decide +kernel
def bq111_1 : List (Nat × List Instr) := [(77, [.istore 7, .iload 6, .sipush (32), .if_icmp .ne 102, .aload 0, .dup, .invokeinterface 10 23, .sipush (1), .iadd, .multianewarray 10 23, .sipush (1), .istore 5, .goto 381]),
  (102, [.iload 6, .ifCond .ne 115, .iload 4, .ifCond .lt 115, .iload 4, .ireturn])]
def hq111_1 : List (List (List Nat)) := [[[], [], [], [], [], [], [981], [], [], [981], [], [], []],
  [[], [], [], [], [], []]]
set_option maxRecDepth 100000 in
theorem cq111_1 : mm_chkM 111 bq111_1 hq111_1 = true := by decide +kernel
def bq111_2 : List (Nat × List Instr) := [(115, [.iload 6, .sipush (41), .if_icmp .ne 174, .aload 0, .invokeinterface 10 25, .ifCond .le 174, .aload 0, .dup, .invokeinterface 10 23, .sipush (1), .iadd, .multianewarray 10 23, .aload 0, .dup, .invokeinterface 10 25, .sipush (1), .isub, .multianewarray 10 25, .sipush (1), .istore 5, .aload 0, .invokeinterface 10 25, .ifCond .ne 168, .aload 0, .invokeinterface 10 26, .sipush (1), .iaload, .goto 169]),
  (168, [.sipush (-1), .goto_w 169]),
  (169, [.istore 4, .goto 381]),
  (174, [.iload 4, .ifCond .ge 212, .iload 6, .sipush (40), .if_icmp .eq 196, .iload 7, .ifCond .eq 212, .iload 5, .ifCond .eq 212, .goto_w 196])]
def hq111_2 : List (List (List Nat)) := [[[], [], [], [], [983], [], [], [], [981], [], [], [981], [], [], [983], [], [], [983], [], [], [], [983], [], [], [984], [], [], []],
  [[], []],
  [[], []],
  [[], [], [], [], [], [], [], [], [], []]]
set_option maxRecDepth 100000 in
theorem cq111_2 : mm_chkM 111 bq111_2 hq111_2 = true := by decide +kernel
def bq111_3 : List (Nat × List Instr) := [(196, [.iload 6, .sipush (40), .if_icmp .ne 223, .aload 0, .invokeinterface 10 25, .sipush (8), .if_icmp .ne 223, .goto_w 212]),
  (212, [.aload 0, .aload 0, .invokeinterface 10 23, .multianewarray 10 24, .goto 381]),
  (223, [.iload 6, .sipush (40), .if_icmp .ne 298, .aload 0, .sipush (2), .sipush (-1), .invokevirtual 116, .istore 8, .aload 0, .invokeinterface 10 25, .ifCond .le 251, .aload 0, .iload 8, .invokevirtual 117, .goto_w 251])]
def hq111_3 : List (List (List Nat)) := [[[], [], [], [], [983], [], [], []],
  [[], [], [981], [982], []],
  [[], [], [], [], [], [], [1156, 1158, 45, 87, 1159], [], [], [983], [], [], [], [1160, 1162, 46, 87, 1163], []]]
set_option maxRecDepth 100000 in
theorem cq111_3 : mm_chkM 111 bq111_3 hq111_3 = true := by decide +kernel
def bq111_4 : List (Nat × List Instr) := [(251, [.aload 0, .dup, .invokeinterface 10 23, .sipush (1), .iadd, .multianewarray 10 23, .aload 0, .dup, .invokeinterface 10 25, .sipush (1), .iadd, .multianewarray 10 25, .aload 0, .invokeinterface 10 26, .aload 0, .invokeinterface 10 25, .iload 8, .iastore, .aload 0, .invokeinterface 10 27, .aload 0, .invokeinterface 10 25, .sipush (-1), .iastore, .sipush (1), .istore 5, .goto 381]),
  (298, [.iload 6, .invokestatic 113, .ifCond .ne 330, .iload 6, .sipush (45), .if_icmp .ne 334, .aload 0, .iload 1, .aload 0, .invokeinterface 10 23, .sipush (1), .iadd, .invokevirtual 112, .invokestatic 113, .ifCond .eq 334, .goto_w 330]),
  (330, [.sipush (1), .goto 335])]
def hq111_4 : List (List (List Nat)) := [[[], [], [981], [], [], [981], [], [], [983], [], [], [983], [], [984], [], [983], [], [], [], [985], [], [983], [], [], [], [], []],
  [[], [1147, 1148, 87, 1149], [], [], [], [], [], [], [], [981], [], [], [1143, 1145, 44, 87, 1146], [1147, 1148, 87, 1149], [], []],
  [[], []]]
set_option maxRecDepth 100000 in
theorem cq111_4 : mm_chkM 111 bq111_4 hq111_4 = true := by decide +kernel
def bq111_5 : List (Nat × List Instr) := [(334, [.sipush (0), .goto_w 335]),
  (335, [.istore 8, .iload 8, .ifCond .eq 350, .aload 0, .iload 1, .invokevirtual 118, .goto 356]),
  (350, [.aload 0, .iload 1, .iload 3, .invokevirtual 119, .goto_w 356]),
  (356, [.istore 9, .aload 0, .invokeinterface 10 25, .ifCond .le 374, .aload 0, .iload 9, .invokevirtual 117, .goto 378]),
  (374, [.iload 9, .istore 4, .goto_w 378]),
  (378, [.sipush (0), .istore 5, .goto_w 381]),
  (381, [.goto 21]),
  (384, [.iload 4, .ireturn])]
def hq111_5 : List (List (List Nat)) := [[[], []],
  [[], [], [], [], [], [1164, 1166, 47, 87, 1167], []],
  [[], [], [], [1168, 1170, 48, 87, 1171], []],
  [[], [], [983], [], [], [], [1160, 1162, 46, 87, 1163], []],
  [[], [], []],
  [[], [], []],
  [[]],
  [[], []]]
set_option maxRecDepth 100000 in
theorem cq111_5 : mm_chkM 111 bq111_5 hq111_5 = true := by decide +kernel
-- LispForgeModel.at (II)I
def bq112_0 : List (Nat × List Instr) := [(0, [.iload 1, .ifCond .ge 23, .iload 2, .aload 0, .invokeinterface 10 1, .if_icmp .ge 21, .aload 0, .invokeinterface 10 5, .iload 2, .caload, .goto 22]),
  (21, [.sipush (0), .goto_w 22]),
  (22, [.ireturn]),
  (23, [.iload 2, .aload 0, .invokeinterface 10 16, .iload 1, .iaload, .if_icmp .ge 47, .aload 0, .invokeinterface 10 15, .sipush (120), .iload 1, .imul, .iload 2, .iadd, .caload, .goto 48]),
  (47, [.sipush (0), .goto_w 48]),
  (48, [.ireturn])]
def hq112_0 : List (List (List Nat)) := [[[], [], [], [], [959], [], [], [963], [], [], []],
  [[], []],
  [[]],
  [[], [], [974], [], [], [], [], [973], [], [], [], [], [], [], []],
  [[], []],
  [[]]]
set_option maxRecDepth 100000 in
theorem cq112_0 : mm_chkM 112 bq112_0 hq112_0 = true := by decide +kernel
-- LispForgeModel.isDigit (I)Z
def bq113_0 : List (Nat × List Instr) := [(0, [.iload 0, .sipush (48), .if_icmp .lt 16, .iload 0, .sipush (57), .if_icmp .gt 16, .sipush (1), .goto 17]),
  (16, [.sipush (0), .goto_w 17]),
  (17, [.freturn])]
def hq113_0 : List (List (List Nat)) := [[[], [], [], [], [], [], [], []],
  [[], []],
  [[]]]
set_option maxRecDepth 100000 in
theorem cq113_0 : mm_chkM 113 bq113_0 hq113_0 = true := by decide +kernel
end
section
-- LispForgeModel.isLetter (I)Z
def bq114_0 : List (Nat × List Instr) := [(0, [.iload 0, .sipush (97), .if_icmp .lt 16, .iload 0, .sipush (122), .if_icmp .gt 16, .sipush (1), .goto 17]),
  (16, [.sipush (0), .goto_w 17]),
  (17, [.freturn])]
def hq114_0 : List (List (List Nat)) := [[[], [], [], [], [], [], [], []],
  [[], []],
  [[]]]
set_option maxRecDepth 100000 in
theorem cq114_0 : mm_chkM 114 bq114_0 hq114_0 = true := by decide +kernel
-- LispForgeModel.isSign (I)Z
def bq115_0 : List (Nat × List Instr) := [(0, [.iload 0, .sipush (43), .if_icmp .eq 30, .iload 0, .sipush (45), .if_icmp .eq 30, .iload 0, .sipush (42), .if_icmp .eq 30, .iload 0, .sipush (60), .if_icmp .eq 30, .iload 0, .sipush (61), .if_icmp .ne 34, .goto_w 30]),
  (30, [.sipush (1), .goto 35]),
  (34, [.sipush (0), .goto_w 35]),
  (35, [.freturn])]
def hq115_0 : List (List (List Nat)) := [[[], [], [], [], [], [], [], [], [], [], [], [], [], [], [], []],
  [[], []],
  [[], []],
  [[]]]
set_option maxRecDepth 100000 in
theorem cq115_0 : mm_chkM 115 bq115_0 hq115_0 = true := by decide +kernel
-- LispForgeModel.form (II)I
def bq116_0 : List (Nat × List Instr) := [(0, [.aload 0, .invokeinterface 10 19, .aload 0, .invokeinterface 10 17, .iload 1, .iastore, .aload 0, .invokeinterface 10 20, .aload 0, .invokeinterface 10 17, .iload 2, .iastore, .aload 0, .dup, .invokeinterface 10 17, .sipush (1), .iadd, .multianewarray 10 17, .aload 0, .invokeinterface 10 17, .sipush (1), .isub, .ireturn])]
def hq116_0 : List (List (List Nat)) := [[[], [977], [], [975], [], [], [], [978], [], [975], [], [], [], [], [975], [], [], [975], [], [975], [], [], []]]
set_option maxRecDepth 100000 in
theorem cq116_0 : mm_chkM 116 bq116_0 hq116_0 = true := by decide +kernel
-- LispForgeModel.joins (I)V
def bq117_0 : List (Nat × List Instr) := [(0, [.aload 0, .invokeinterface 10 21, .aload 0, .invokeinterface 10 18, .iload 1, .iastore, .aload 0, .invokeinterface 10 22, .aload 0, .invokeinterface 10 18, .sipush (-1), .iastore, .aload 0, .invokeinterface 10 27, .aload 0, .invokeinterface 10 25, .iaload, .ifCond .ge 53, .aload 0, .invokeinterface 10 20, .aload 0, .invokeinterface 10 26, .aload 0, .invokeinterface 10 25, .iaload, .aload 0, .invokeinterface 10 18, .iastore, .goto 71]),
  (53, [.aload 0, .invokeinterface 10 22, .aload 0, .invokeinterface 10 27, .aload 0, .invokeinterface 10 25, .iaload, .aload 0, .invokeinterface 10 18, .iastore, .goto_w 71])]
def hq117_0 : List (List (List Nat)) := [[[], [979], [], [976], [], [], [], [980], [], [976], [], [], [], [985], [], [983], [], [], [], [978], [], [984], [], [983], [], [], [976], [], []],
  [[], [980], [], [985], [], [983], [], [], [976], [], []]]
set_option maxRecDepth 100000 in
theorem cq117_0 : mm_chkM 117 bq117_0 hq117_0 = true := by decide +kernel
def bq117_1 : List (Nat × List Instr) := [(71, [.aload 0, .invokeinterface 10 27, .aload 0, .invokeinterface 10 25, .aload 0, .invokeinterface 10 18, .iastore, .aload 0, .dup, .invokeinterface 10 18, .sipush (1), .iadd, .multianewarray 10 18, .return_])]
def hq117_1 : List (List (List Nat)) := [[[], [985], [], [983], [], [976], [], [], [], [976], [], [], [976], []]]
set_option maxRecDepth 100000 in
theorem cq117_1 : mm_chkM 117 bq117_1 hq117_1 = true := by decide +kernel
-- LispForgeModel.number (I)I
def bq118_0 : List (Nat × List Instr) := [(0, [.sipush (1), .istore 2, .aload 0, .iload 1, .aload 0, .invokeinterface 10 23, .invokevirtual 112, .sipush (45), .if_icmp .ne 28, .sipush (-1), .istore 2, .aload 0, .dup, .invokeinterface 10 23, .sipush (1), .iadd, .multianewarray 10 23, .goto_w 28]),
  (28, [.sipush (0), .istore 3, .sipush (0), .istore 4, .goto_w 33])]
def hq118_0 : List (List (List Nat)) := [[[], [], [], [], [], [981], [1143, 1145, 44, 87, 1146], [], [], [], [], [], [], [981], [], [], [981], []],
  [[], [], [], [], []]]
set_option maxRecDepth 100000 in
theorem cq118_0 : mm_chkM 118 bq118_0 hq118_0 = true := by decide +kernel
def bq118_1 : List (Nat × List Instr) := [(33, [.iload 4, .sipush (4), .if_icmp .ge 88, .aload 0, .iload 1, .aload 0, .invokeinterface 10 23, .invokevirtual 112, .invokestatic 113, .ifCond .eq 88, .sipush (10), .iload 3, .imul, .aload 0, .iload 1, .aload 0, .invokeinterface 10 23, .invokevirtual 112, .iadd, .sipush (48), .isub, .istore 3, .aload 0, .dup, .invokeinterface 10 23, .sipush (1), .iadd, .multianewarray 10 23, .iinc 4 (1), .goto 33]),
  (88, [.aload 0, .sipush (0), .iload 2, .iload 3, .imul, .invokevirtual 116, .ireturn])]
def hq118_1 : List (List (List Nat)) := [[[], [], [], [], [], [], [981], [1143, 1145, 44, 87, 1146], [1147, 1148, 87, 1149], [], [], [], [], [], [], [], [981], [1143, 1145, 44, 87, 1146], [], [], [], [], [], [], [981], [], [], [981], [], []],
  [[], [], [], [], [], [1156, 1158, 45, 87, 1159], []]]
set_option maxRecDepth 100000 in
theorem cq118_1 : mm_chkM 118 bq118_1 hq118_1 = true := by decide +kernel
-- LispForgeModel.symbolForm (II)I
def bq119_0 : List (Nat × List Instr) := [(0, [.aload 0, .iload 1, .aload 0, .invokeinterface 10 23, .invokevirtual 112, .istore 3, .aload 0, .dup, .invokeinterface 10 23, .sipush (1), .iadd, .multianewarray 10 23, .sipush (1), .istore 4, .goto_w 23])]
def hq119_0 : List (List (List Nat)) := [[[], [], [], [981], [1143, 1145, 44, 87, 1146], [], [], [], [981], [], [], [981], [], [], []]]
set_option maxRecDepth 100000 in
theorem cq119_0 : mm_chkM 119 bq119_0 hq119_0 = true := by decide +kernel
def bq119_1 : List (Nat × List Instr) := [(23, [.iload 4, .sipush (4), .if_icmp .ge 86, .iload 3, .sipush (255), .iand, .invokestatic 114, .ifCond .eq 86, .aload 0, .iload 1, .aload 0, .invokeinterface 10 23, .invokevirtual 112, .invokestatic 114, .ifCond .eq 86, .iload 3, .sipush (8), .ishl, .aload 0, .iload 1, .aload 0, .invokeinterface 10 23, .invokevirtual 112, .ior, .istore 3, .aload 0, .dup, .invokeinterface 10 23, .sipush (1), .iadd, .multianewarray 10 23, .iinc 4 (1), .goto 23]),
  (86, [.iload 2, .istore 4, .sipush (0), .istore 5, .goto_w 92])]
def hq119_1 : List (List (List Nat)) := [[[], [], [], [], [], [], [1150, 1151, 87, 1152], [], [], [], [], [981], [1143, 1145, 44, 87, 1146], [1150, 1151, 87, 1152], [], [], [], [], [], [], [], [981], [1143, 1145, 44, 87, 1146], [], [], [], [], [981], [], [], [981], [], []],
  [[], [], [], [], []]]
set_option maxRecDepth 100000 in
theorem cq119_1 : mm_chkM 119 bq119_1 hq119_1 = true := by decide +kernel
def bq119_2 : List (Nat × List Instr) := [(92, [.iload 1, .ifCond .lt 145, .iload 5, .aload 0, .invokeinterface 10 8, .iload 1, .iaload, .if_icmp .ge 145, .aload 0, .invokeinterface 10 14, .sipush (4), .iload 1, .imul, .iload 5, .iadd, .iaload, .iload 3, .if_icmp .ne 130, .aload 0, .invokeinterface 10 21, .iload 4, .iaload, .ireturn]),
  (130, [.aload 0, .invokeinterface 10 22, .iload 4, .iaload, .istore 4, .iinc 5 (1), .goto 92]),
  (145, [.aload 0, .sipush (1), .iload 3, .invokevirtual 116, .ireturn])]
def hq119_2 : List (List (List Nat)) := [[[], [], [], [], [966], [], [], [], [], [972], [], [], [], [], [], [], [], [], [], [979], [], [], []],
  [[], [980], [], [], [], [], []],
  [[], [], [], [1156, 1158, 45, 87, 1159], []]]
set_option maxRecDepth 100000 in
theorem cq119_2 : mm_chkM 119 bq119_2 hq119_2 = true := by decide +kernel
-- LispForgeModel.head (I)I
def bq120_0 : List (Nat × List Instr) := [(0, [.aload 0, .iload 1, .invokevirtual 121, .istore 2, .iload 2, .ifCond .le 39, .aload 0, .invokeinterface 10 19, .aload 0, .iload 1, .sipush (0), .invokevirtual 122, .iaload, .sipush (1), .if_icmp .ne 39, .aload 0, .invokeinterface 10 20, .aload 0, .iload 1, .sipush (0), .invokevirtual 122, .iaload, .goto 40]),
  (39, [.sipush (0), .goto_w 40]),
  (40, [.ireturn])]
def hq120_0 : List (List (List Nat)) := [[[], [], [1176, 1178, 50, 87, 1179], [], [], [], [], [977], [], [], [], [1180, 1182, 51, 87, 1183], [], [], [], [], [978], [], [], [], [1180, 1182, 51, 87, 1183], [], []],
  [[], []],
  [[]]]
set_option maxRecDepth 100000 in
theorem cq120_0 : mm_chkM 120 bq120_0 hq120_0 = true := by decide +kernel
-- LispForgeModel.count (I)I
def bq121_0 : List (Nat × List Instr) := [(0, [.sipush (0), .istore 2, .aload 0, .invokeinterface 10 19, .iload 1, .iaload, .sipush (2), .if_icmp .ne 21, .aload 0, .invokeinterface 10 20, .iload 1, .iaload, .goto 22]),
  (21, [.sipush (-1), .goto_w 22]),
  (22, [.istore 3, .goto_w 23]),
  (23, [.iload 3, .ifCond .lt 40, .iinc 2 (1), .aload 0, .invokeinterface 10 22, .iload 3, .iaload, .istore 3, .goto 23]),
  (40, [.iload 2, .ireturn])]
def hq121_0 : List (List (List Nat)) := [[[], [], [], [977], [], [], [], [], [], [978], [], [], []],
  [[], []],
  [[], []],
  [[], [], [], [], [980], [], [], [], []],
  [[], []]]
set_option maxRecDepth 100000 in
theorem cq121_0 : mm_chkM 121 bq121_0 hq121_0 = true := by decide +kernel
-- LispForgeModel.part (II)I
def bq122_0 : List (Nat × List Instr) := [(0, [.aload 0, .invokeinterface 10 20, .iload 1, .iaload, .istore 3, .sipush (0), .istore 4, .goto_w 10]),
  (10, [.iload 4, .iload 2, .if_icmp .ge 29, .aload 0, .invokeinterface 10 22, .iload 3, .iaload, .istore 3, .iinc 4 (1), .goto 10]),
  (29, [.aload 0, .invokeinterface 10 21, .iload 3, .iaload, .ireturn])]
def hq122_0 : List (List (List Nat)) := [[[], [978], [], [], [], [], [], []],
  [[], [], [], [], [980], [], [], [], [], []],
  [[], [979], [], [], []]]
set_option maxRecDepth 100000 in
theorem cq122_0 : mm_chkM 122 bq122_0 hq122_0 = true := by decide +kernel
-- LispForgeModel.word (III)I
def bq123_0 : List (Nat × List Instr) := [(0, [.iload 0, .sipush (16), .ishl, .iload 1, .sipush (8), .ishl, .ior, .iload 2, .ior, .ireturn])]
def hq123_0 : List (List (List Nat)) := [[[], [], [], [], [], [], [], [], [], []]]
set_option maxRecDepth 100000 in
theorem cq123_0 : mm_chkM 123 bq123_0 hq123_0 = true := by decide +kernel
-- LispForgeModel.isSymbol (I)Z
def bq124_0 : List (Nat × List Instr) := [(0, [.aload 0, .invokeinterface 10 19, .iload 1, .iaload, .sipush (1), .if_icmp .ne 30, .aload 0, .invokeinterface 10 20, .iload 1, .iaload, .sipush (255), .iand, .invokestatic 114, .ifCond .eq 30, .sipush (1), .goto 31]),
  (30, [.sipush (0), .goto_w 31]),
  (31, [.freturn])]
def hq124_0 : List (List (List Nat)) := [[[], [977], [], [], [], [], [], [978], [], [], [], [], [1150, 1151, 87, 1152], [], [], []],
  [[], []],
  [[]]]
set_option maxRecDepth 100000 in
theorem cq124_0 : mm_chkM 124 bq124_0 hq124_0 = true := by decide +kernel
-- LispForgeModel.isWord (I)Z
def bq125_0 : List (Nat × List Instr) := [(0, [.iload 0, .sipush (100), .sipush (101), .sipush (102), .invokestatic 123, .if_icmp .eq 89, .iload 0, .sipush (109), .sipush (97), .sipush (99), .invokestatic 123, .if_icmp .eq 89, .iload 0, .sipush (0), .sipush (105), .sipush (102), .invokestatic 123, .if_icmp .eq 89, .iload 0, .sipush (108), .sipush (101), .sipush (116), .invokestatic 123, .if_icmp .eq 89, .iload 0, .sipush (0), .sipush (100), .sipush (111), .invokestatic 123, .if_icmp .eq 89, .iload 0, .sipush (115), .sipush (101), .sipush (116), .invokestatic 123, .if_icmp .eq 89, .iload 0, .sipush (114), .sipush (117), .sipush (110), .invokestatic 123, .if_icmp .ne 93, .goto_w 89]),
  (89, [.sipush (1), .goto 94])]
def hq125_0 : List (List (List Nat)) := [[[], [], [], [], [1184, 1185, 87, 1186], [], [], [], [], [], [1184, 1185, 87, 1186], [], [], [], [], [], [1184, 1185, 87, 1186], [], [], [], [], [], [1184, 1185, 87, 1186], [], [], [], [], [], [1184, 1185, 87, 1186], [], [], [], [], [], [1184, 1185, 87, 1186], [], [], [], [], [], [1184, 1185, 87, 1186], [], []],
  [[], []]]
set_option maxRecDepth 100000 in
theorem cq125_0 : mm_chkM 125 bq125_0 hq125_0 = true := by decide +kernel
def bq125_1 : List (Nat × List Instr) := [(93, [.sipush (0), .goto_w 94]),
  (94, [.freturn])]
def hq125_1 : List (List (List Nat)) := [[[], []],
  [[]]]
set_option maxRecDepth 100000 in
theorem cq125_1 : mm_chkM 125 bq125_1 hq125_1 = true := by decide +kernel
end
section
-- LispForgeModel.parametersOf (I)I
def bq126_0 : List (Nat × List Instr) := [(0, [.aload 0, .iload 1, .invokevirtual 121, .istore 2, .aload 0, .aload 0, .invokeinterface 10 28, .ifCond .ne 29, .aload 0, .invokeinterface 10 19, .iload 1, .iaload, .sipush (2), .if_icmp .ne 29, .iload 2, .sipush (4), .if_icmp .le 33, .goto_w 29]),
  (29, [.sipush (1), .goto 34]),
  (33, [.sipush (0), .goto_w 34]),
  (34, [.multianewarray 10 28, .sipush (0), .istore 3, .goto_w 39]),
  (39, [.iload 3, .iload 2, .if_icmp .ge 148, .aload 0, .invokeinterface 10 28, .ifCond .ne 148, .aload 0, .iload 1, .iload 3, .invokevirtual 122, .istore 4, .aload 0, .aload 0, .iload 4, .invokevirtual 124, .ifCond .ne 73, .sipush (1), .goto 74])]
def hq126_0 : List (List (List Nat)) := [[[], [], [1176, 1178, 50, 87, 1179], [], [], [], [986], [], [], [977], [], [], [], [], [], [], [], []],
  [[], []],
  [[], []],
  [[986], [], [], []],
  [[], [], [], [], [986], [], [], [], [], [1180, 1182, 51, 87, 1183], [], [], [], [], [1187, 1189, 52, 87, 1190], [], [], []]]
set_option maxRecDepth 100000 in
theorem cq126_0 : mm_chkM 126 bq126_0 hq126_0 = true := by decide +kernel
def bq126_1 : List (Nat × List Instr) := [(73, [.sipush (0), .goto_w 74]),
  (74, [.multianewarray 10 28, .sipush (0), .istore 5, .goto_w 80]),
  (80, [.iload 5, .iload 3, .if_icmp .ge 130, .aload 0, .invokeinterface 10 28, .ifCond .ne 130, .aload 0, .aload 0, .invokeinterface 10 20, .aload 0, .iload 1, .iload 5, .invokevirtual 122, .iaload, .aload 0, .invokeinterface 10 20, .iload 4, .iaload, .if_icmp .ne 120, .sipush (1), .goto 121]),
  (120, [.sipush (0), .goto_w 121]),
  (121, [.multianewarray 10 28, .iinc 5 (1), .goto 80]),
  (130, [.aload 0, .aload 0, .invokeinterface 10 20, .iload 4, .iaload, .iload 3, .invokevirtual 127, .iinc 3 (1), .goto 39]),
  (148, [.iload 2, .ireturn])]
def hq126_1 : List (List (List Nat)) := [[[], []],
  [[986], [], [], []],
  [[], [], [], [], [986], [], [], [], [978], [], [], [], [1180, 1182, 51, 87, 1183], [], [], [978], [], [], [], [], []],
  [[], []],
  [[986], [], []],
  [[], [], [978], [], [], [], [1198, 1200, 54, 87, 1201], [], []],
  [[], []]]
set_option maxRecDepth 100000 in
theorem cq126_1 : mm_chkM 126 bq126_1 hq126_1 = true := by decide +kernel
-- LispForgeModel.know (II)V
def bq127_0 : List (Nat × List Instr) := [(0, [.aload 0, .invokeinterface 10 39, .aload 0, .invokeinterface 10 32, .iload 1, .iastore, .aload 0, .invokeinterface 10 40, .aload 0, .invokeinterface 10 32, .iload 2, .iastore, .aload 0, .dup, .invokeinterface 10 32, .sipush (1), .iadd, .multianewarray 10 32, .return_])]
def hq127_0 : List (List (List Nat)) := [[[], [997], [], [990], [], [], [], [998], [], [990], [], [], [], [], [990], [], [], [990], []]]
set_option maxRecDepth 100000 in
theorem cq127_0 : mm_chkM 127 bq127_0 hq127_0 = true := by decide +kernel
-- LispForgeModel.body (III)V
def bq128_0 : List (Nat × List Instr) := [(0, [.aload 0, .sipush (0), .multianewarray 10 29, .aload 0, .sipush (0), .multianewarray 10 30, .aload 0, .iload 3, .multianewarray 10 31, .aload 0, .sipush (0), .multianewarray 10 33, .aload 0, .sipush (0), .multianewarray 10 34, .aload 0, .sipush (0), .iload 1, .sipush (0), .invokevirtual 129, .goto_w 32])]
def hq128_0 : List (List (List Nat)) := [[[], [], [987], [], [], [988], [], [], [989], [], [], [991], [], [], [992], [], [], [], [], [1206, 1208, 56, 87, 1209], []]]
set_option maxRecDepth 100000 in
theorem cq128_0 : mm_chkM 128 bq128_0 hq128_0 = true := by decide +kernel
def bq128_1 : List (Nat × List Instr) := [(32, [.aload 0, .invokeinterface 10 29, .ifCond .le 90, .aload 0, .invokeinterface 10 28, .ifCond .ne 90, .aload 0, .dup, .invokeinterface 10 29, .sipush (1), .isub, .multianewarray 10 29, .aload 0, .aload 0, .invokeinterface 10 35, .aload 0, .invokeinterface 10 29, .iaload, .aload 0, .invokeinterface 10 36, .aload 0, .invokeinterface 10 29, .iaload, .aload 0, .invokeinterface 10 37, .aload 0, .invokeinterface 10 29, .iaload, .invokevirtual 130, .goto 32]),
  (90, [.aload 0, .iload 2, .invokevirtual 136, .iload 2, .sipush (13), .if_icmp .ne 106, .aload 0, .iload 3, .invokevirtual 136, .goto_w 106]),
  (106, [.return_])]
def hq128_1 : List (List (List Nat)) := [[[], [987], [], [], [986], [], [], [], [987], [], [], [987], [], [], [993], [], [987], [], [], [994], [], [987], [], [], [995], [], [987], [], [1210, 1212, 57, 87, 1213], []],
  [[], [], [1233, 1235, 62, 87, 1236], [], [], [], [], [], [1233, 1235, 62, 87, 1236], []],
  [[]]]
set_option maxRecDepth 100000 in
theorem cq128_1 : mm_chkM 128 bq128_1 hq128_1 = true := by decide +kernel
-- LispForgeModel.push (III)V
def bq129_0 : List (Nat × List Instr) := [(0, [.aload 0, .invokeinterface 10 35, .aload 0, .invokeinterface 10 29, .iload 1, .iastore, .aload 0, .invokeinterface 10 36, .aload 0, .invokeinterface 10 29, .iload 2, .iastore, .aload 0, .invokeinterface 10 37, .aload 0, .invokeinterface 10 29, .iload 3, .iastore, .aload 0, .dup, .invokeinterface 10 29, .sipush (1), .iadd, .multianewarray 10 29, .return_])]
def hq129_0 : List (List (List Nat)) := [[[], [993], [], [987], [], [], [], [994], [], [987], [], [], [], [995], [], [987], [], [], [], [], [987], [], [], [987], []]]
set_option maxRecDepth 100000 in
theorem cq129_0 : mm_chkM 129 bq129_0 hq129_0 = true := by decide +kernel
end
section
-- LispForgeModel.perform (III)V
def bq130_0 : List (Nat × List Instr) := [(0, [.iload 1, .lookupswitch 465 #[(0, 64), (1, 90), (2, 121), (3, 139), (4, 185), (5, 236), (6, 244), (7, 288), (8, 317), (9, 365), (10, 383), (11, 430)]]),
  (64, [.aload 0, .invokeinterface 10 19, .iload 2, .iaload, .sipush (2), .if_icmp .ne 82, .aload 0, .iload 2, .invokevirtual 131, .goto 526]),
  (82, [.aload 0, .iload 2, .invokevirtual 135, .goto 526]),
  (90, [.iload 2, .ifCond .lt 526, .aload 0, .sipush (1), .aload 0, .invokeinterface 10 22, .iload 2, .iaload, .sipush (0), .invokevirtual 129, .aload 0, .sipush (0), .aload 0, .invokeinterface 10 21, .iload 2, .iaload, .sipush (0), .invokevirtual 129, .goto 526]),
  (121, [.aload 0, .iload 2, .invokevirtual 136, .aload 0, .dup, .invokeinterface 10 31, .sipush (1), .isub, .multianewarray 10 31, .goto 526])]
def hq130_0 : List (List (List Nat)) := [[[], []],
  [[], [977], [], [], [], [], [], [], [1214, 1216, 58, 87, 1217], []],
  [[], [], [1229, 1231, 61, 87, 1232], []],
  [[], [], [], [], [], [980], [], [], [], [1206, 1208, 56, 87, 1209], [], [], [], [979], [], [], [], [1206, 1208, 56, 87, 1209], []],
  [[], [], [1233, 1235, 62, 87, 1236], [], [], [989], [], [], [989], []]]
set_option maxRecDepth 100000 in
theorem cq130_0 : mm_chkM 130 bq130_0 hq130_0 = true := by decide +kernel
def bq130_1 : List (Nat × List Instr) := [(139, [.aload 0, .sipush (8), .invokevirtual 136, .aload 0, .sipush (4), .iload 2, .aload 0, .invokeinterface 10 30, .invokevirtual 129, .aload 0, .sipush (0), .invokevirtual 137, .aload 0, .dup, .invokeinterface 10 31, .sipush (1), .isub, .multianewarray 10 31, .aload 0, .sipush (0), .aload 0, .iload 2, .sipush (2), .invokevirtual 122, .sipush (0), .invokevirtual 129, .goto 526])]
def hq130_1 : List (List (List Nat)) := [[[], [], [1233, 1235, 62, 87, 1236], [], [], [], [], [988], [1206, 1208, 56, 87, 1209], [], [], [1237, 1239, 63, 87, 1240], [], [], [989], [], [], [989], [], [], [], [], [], [1180, 1182, 51, 87, 1183], [], [1206, 1208, 56, 87, 1209], []]]
set_option maxRecDepth 100000 in
theorem cq130_1 : mm_chkM 130 bq130_1 hq130_1 = true := by decide +kernel
def bq130_2 : List (Nat × List Instr) := [(185, [.aload 0, .sipush (7), .invokevirtual 136, .aload 0, .sipush (5), .aload 0, .invokeinterface 10 30, .sipush (0), .invokevirtual 129, .aload 0, .sipush (0), .invokevirtual 137, .aload 0, .iload 3, .invokevirtual 139, .aload 0, .dup, .invokeinterface 10 31, .sipush (1), .isub, .multianewarray 10 31, .aload 0, .sipush (0), .aload 0, .iload 2, .sipush (3), .invokevirtual 122, .sipush (0), .invokevirtual 129, .goto 526]),
  (236, [.aload 0, .iload 2, .invokevirtual 139, .goto 526])]
def hq130_2 : List (List (List Nat)) := [[[], [], [1233, 1235, 62, 87, 1236], [], [], [], [988], [], [1206, 1208, 56, 87, 1209], [], [], [1237, 1239, 63, 87, 1240], [], [], [1245, 1247, 65, 87, 1248], [], [], [989], [], [], [989], [], [], [], [], [], [1180, 1182, 51, 87, 1183], [], [1206, 1208, 56, 87, 1209], []],
  [[], [], [1245, 1247, 65, 87, 1248], []]]
set_option maxRecDepth 100000 in
theorem cq130_2 : mm_chkM 130 bq130_2 hq130_2 = true := by decide +kernel
def bq130_3 : List (Nat × List Instr) := [(244, [.aload 0, .aload 0, .invokeinterface 10 20, .aload 0, .iload 2, .sipush (1), .invokevirtual 122, .iaload, .aload 0, .invokeinterface 10 31, .sipush (1), .isub, .invokevirtual 127, .aload 0, .sipush (7), .sipush (0), .sipush (0), .invokevirtual 129, .aload 0, .sipush (0), .aload 0, .iload 2, .sipush (3), .invokevirtual 122, .sipush (0), .invokevirtual 129, .goto 526]),
  (288, [.aload 0, .sipush (9), .invokevirtual 136, .aload 0, .dup, .invokeinterface 10 31, .sipush (1), .isub, .multianewarray 10 31, .aload 0, .dup, .invokeinterface 10 32, .sipush (1), .isub, .multianewarray 10 32, .goto 526])]
def hq130_3 : List (List (List Nat)) := [[[], [], [978], [], [], [], [1180, 1182, 51, 87, 1183], [], [], [989], [], [], [1198, 1200, 54, 87, 1201], [], [], [], [], [1206, 1208, 56, 87, 1209], [], [], [], [], [], [1180, 1182, 51, 87, 1183], [], [1206, 1208, 56, 87, 1209], []],
  [[], [], [1233, 1235, 62, 87, 1236], [], [], [989], [], [], [989], [], [], [990], [], [], [990], []]]
set_option maxRecDepth 100000 in
theorem cq130_3 : mm_chkM 130 bq130_3 hq130_3 = true := by decide +kernel
def bq130_4 : List (Nat × List Instr) := [(317, [.iload 2, .ifCond .lt 526, .aload 0, .sipush (10), .invokevirtual 136, .aload 0, .dup, .invokeinterface 10 31, .sipush (1), .isub, .multianewarray 10 31, .aload 0, .sipush (8), .aload 0, .invokeinterface 10 22, .iload 2, .iaload, .sipush (0), .invokevirtual 129, .aload 0, .sipush (0), .aload 0, .invokeinterface 10 21, .iload 2, .iaload, .sipush (0), .invokevirtual 129, .goto 526]),
  (365, [.aload 0, .sipush (11), .invokevirtual 136, .aload 0, .aload 0, .iload 2, .invokevirtual 138, .invokevirtual 136, .goto 526])]
def hq130_4 : List (List (List Nat)) := [[[], [], [], [], [1233, 1235, 62, 87, 1236], [], [], [989], [], [], [989], [], [], [], [980], [], [], [], [1206, 1208, 56, 87, 1209], [], [], [], [979], [], [], [], [1206, 1208, 56, 87, 1209], []],
  [[], [], [1233, 1235, 62, 87, 1236], [], [], [], [1241, 1243, 64, 87, 1244], [1233, 1235, 62, 87, 1236], []]]
set_option maxRecDepth 100000 in
theorem cq130_4 : mm_chkM 130 bq130_4 hq130_4 = true := by decide +kernel
def bq130_5 : List (Nat × List Instr) := [(383, [.aload 0, .sipush (8), .invokevirtual 136, .aload 0, .sipush (11), .aload 0, .invokeinterface 10 30, .iload 3, .invokevirtual 129, .aload 0, .sipush (0), .invokevirtual 137, .aload 0, .dup, .invokeinterface 10 31, .sipush (1), .isub, .multianewarray 10 31, .aload 0, .sipush (0), .aload 0, .iload 2, .sipush (2), .invokevirtual 122, .sipush (0), .invokevirtual 129, .goto 526])]
def hq130_5 : List (List (List Nat)) := [[[], [], [1233, 1235, 62, 87, 1236], [], [], [], [988], [], [1206, 1208, 56, 87, 1209], [], [], [1237, 1239, 63, 87, 1240], [], [], [989], [], [], [989], [], [], [], [], [], [1180, 1182, 51, 87, 1183], [], [1206, 1208, 56, 87, 1209], []]]
set_option maxRecDepth 100000 in
theorem cq130_5 : mm_chkM 130 bq130_5 hq130_5 = true := by decide +kernel
def bq130_6 : List (Nat × List Instr) := [(430, [.aload 0, .sipush (10), .invokevirtual 136, .aload 0, .sipush (7), .invokevirtual 136, .aload 0, .iload 3, .invokevirtual 137, .aload 0, .iload 2, .invokevirtual 139, .aload 0, .sipush (0), .invokevirtual 136, .aload 0, .sipush (0), .invokevirtual 137, .goto 526])]
def hq130_6 : List (List (List Nat)) := [[[], [], [1233, 1235, 62, 87, 1236], [], [], [1233, 1235, 62, 87, 1236], [], [], [1237, 1239, 63, 87, 1240], [], [], [1245, 1247, 65, 87, 1248], [], [], [1233, 1235, 62, 87, 1236], [], [], [1237, 1239, 63, 87, 1240], []]]
set_option maxRecDepth 100000 in
theorem cq130_6 : mm_chkM 130 bq130_6 hq130_6 = true := by decide +kernel
def bq130_7 : List (Nat × List Instr) := [(465, [.aload 0, .sipush (12), .invokevirtual 136, .aload 0, .invokeinterface 10 41, .aload 0, .invokeinterface 10 34, .aload 0, .invokeinterface 10 30, .iastore, .aload 0, .invokeinterface 10 42, .aload 0, .invokeinterface 10 34, .iload 2, .iastore, .aload 0, .dup, .invokeinterface 10 34, .sipush (1), .iadd, .multianewarray 10 34, .aload 0, .sipush (0), .invokevirtual 137, .aload 0, .iload 3, .invokevirtual 136, .aload 0, .dup, .invokeinterface 10 31, .sipush (1), .iload 3, .isub, .iadd, .multianewarray 10 31, .goto_w 526]),
  (526, [.return_])]
def hq130_7 : List (List (List Nat)) := [[[], [], [1233, 1235, 62, 87, 1236], [], [999], [], [992], [], [988], [], [], [1000], [], [992], [], [], [], [], [992], [], [], [992], [], [], [1237, 1239, 63, 87, 1240], [], [], [1233, 1235, 62, 87, 1236], [], [], [989], [], [], [], [], [989], []],
  [[]]]
set_option maxRecDepth 100000 in
theorem cq130_7 : mm_chkM 130 bq130_7 hq130_7 = true := by decide +kernel
end
section
-- LispForgeModel.listed (I)V
def bq131_0 : List (Nat × List Instr) := [(0, [.aload 0, .iload 1, .invokevirtual 121, .istore 2, .aload 0, .iload 1, .invokevirtual 120, .istore 3, .aload 0, .iload 3, .invokevirtual 132, .istore 4, .iload 2, .ifCond .le 37, .aload 0, .invokeinterface 10 22, .aload 0, .invokeinterface 10 20, .iload 1, .iaload, .iaload, .goto 38]),
  (37, [.sipush (-1), .goto_w 38]),
  (38, [.istore 5, .iload 4, .ifCond .lt 56, .aload 0, .iload 1, .iload 4, .iload 2, .invokevirtual 133, .goto 392])]
def hq131_0 : List (List (List Nat)) := [[[], [], [1176, 1178, 50, 87, 1179], [], [], [], [1172, 1174, 49, 87, 1175], [], [], [], [1218, 1220, 59, 87, 1221], [], [], [], [], [980], [], [978], [], [], [], []],
  [[], []],
  [[], [], [], [], [], [], [], [1222, 1224, 60, 87, 1225], []]]
set_option maxRecDepth 100000 in
theorem cq131_0 : mm_chkM 131 bq131_0 hq131_0 = true := by decide +kernel
def bq131_1 : List (Nat × List Instr) := [(56, [.iload 3, .invokestatic 134, .ifCond .le 105, .iload 2, .sipush (3), .if_icmp .ne 105, .aload 0, .sipush (2), .iload 3, .invokestatic 134, .sipush (0), .invokevirtual 129, .aload 0, .sipush (0), .aload 0, .iload 1, .sipush (2), .invokevirtual 122, .sipush (0), .invokevirtual 129, .aload 0, .sipush (0), .aload 0, .iload 1, .sipush (1), .invokevirtual 122, .sipush (0), .invokevirtual 129, .goto 392])]
def hq131_1 : List (List (List Nat)) := [[[], [1226, 1227, 87, 1228], [], [], [], [], [], [], [], [1226, 1227, 87, 1228], [], [1206, 1208, 56, 87, 1209], [], [], [], [], [], [1180, 1182, 51, 87, 1183], [], [1206, 1208, 56, 87, 1209], [], [], [], [], [], [1180, 1182, 51, 87, 1183], [], [1206, 1208, 56, 87, 1209], []]]
set_option maxRecDepth 100000 in
theorem cq131_1 : mm_chkM 131 bq131_1 hq131_1 = true := by decide +kernel
def bq131_2 : List (Nat × List Instr) := [(105, [.iload 3, .sipush (0), .sipush (105), .sipush (102), .invokestatic 123, .if_icmp .ne 144, .iload 2, .sipush (4), .if_icmp .ne 144, .aload 0, .sipush (3), .iload 1, .sipush (0), .invokevirtual 129, .aload 0, .sipush (0), .aload 0, .iload 1, .sipush (1), .invokevirtual 122, .sipush (0), .invokevirtual 129, .goto 392])]
def hq131_2 : List (List (List Nat)) := [[[], [], [], [], [1184, 1185, 87, 1186], [], [], [], [], [], [], [], [], [1206, 1208, 56, 87, 1209], [], [], [], [], [], [1180, 1182, 51, 87, 1183], [], [1206, 1208, 56, 87, 1209], []]]
set_option maxRecDepth 100000 in
theorem cq131_2 : mm_chkM 131 bq131_2 hq131_2 = true := by decide +kernel
def bq131_3 : List (Nat × List Instr) := [(144, [.iload 3, .sipush (108), .sipush (101), .sipush (116), .invokestatic 123, .if_icmp .ne 198, .iload 2, .sipush (4), .if_icmp .ne 198, .aload 0, .aload 0, .iload 1, .sipush (1), .invokevirtual 122, .invokevirtual 124, .ifCond .eq 198, .aload 0, .sipush (6), .iload 1, .sipush (0), .invokevirtual 129, .aload 0, .sipush (0), .aload 0, .iload 1, .sipush (2), .invokevirtual 122, .sipush (0), .invokevirtual 129, .goto 392])]
def hq131_3 : List (List (List Nat)) := [[[], [], [], [], [1184, 1185, 87, 1186], [], [], [], [], [], [], [], [], [1180, 1182, 51, 87, 1183], [1187, 1189, 52, 87, 1190], [], [], [], [], [], [1206, 1208, 56, 87, 1209], [], [], [], [], [], [1180, 1182, 51, 87, 1183], [], [1206, 1208, 56, 87, 1209], []]]
set_option maxRecDepth 100000 in
theorem cq131_3 : mm_chkM 131 bq131_3 hq131_3 = true := by decide +kernel
def bq131_4 : List (Nat × List Instr) := [(198, [.iload 3, .sipush (0), .sipush (100), .sipush (111), .invokestatic 123, .if_icmp .ne 245, .iload 2, .sipush (1), .if_icmp .le 245, .aload 0, .sipush (8), .aload 0, .invokeinterface 10 22, .iload 5, .iaload, .sipush (0), .invokevirtual 129, .aload 0, .sipush (0), .aload 0, .invokeinterface 10 21, .iload 5, .iaload, .sipush (0), .invokevirtual 129, .goto 392])]
def hq131_4 : List (List (List Nat)) := [[[], [], [], [], [1184, 1185, 87, 1186], [], [], [], [], [], [], [], [980], [], [], [], [1206, 1208, 56, 87, 1209], [], [], [], [979], [], [], [], [1206, 1208, 56, 87, 1209], []]]
set_option maxRecDepth 100000 in
theorem cq131_4 : mm_chkM 131 bq131_4 hq131_4 = true := by decide +kernel
def bq131_5 : List (Nat × List Instr) := [(245, [.iload 3, .sipush (115), .sipush (101), .sipush (116), .invokestatic 123, .if_icmp .ne 304, .iload 2, .sipush (3), .if_icmp .ne 304, .aload 0, .aload 0, .iload 1, .sipush (1), .invokevirtual 122, .invokevirtual 124, .ifCond .eq 304, .aload 0, .sipush (9), .aload 0, .iload 1, .sipush (1), .invokevirtual 122, .sipush (0), .invokevirtual 129, .aload 0, .sipush (0), .aload 0, .iload 1, .sipush (2), .invokevirtual 122, .sipush (0), .invokevirtual 129, .goto 392])]
def hq131_5 : List (List (List Nat)) := [[[], [], [], [], [1184, 1185, 87, 1186], [], [], [], [], [], [], [], [], [1180, 1182, 51, 87, 1183], [1187, 1189, 52, 87, 1190], [], [], [], [], [], [], [1180, 1182, 51, 87, 1183], [], [1206, 1208, 56, 87, 1209], [], [], [], [], [], [1180, 1182, 51, 87, 1183], [], [1206, 1208, 56, 87, 1209], []]]
set_option maxRecDepth 100000 in
theorem cq131_5 : mm_chkM 131 bq131_5 hq131_5 = true := by decide +kernel
def bq131_6 : List (Nat × List Instr) := [(304, [.iload 3, .sipush (114), .sipush (117), .sipush (110), .invokestatic 123, .if_icmp .ne 348, .iload 2, .sipush (3), .if_icmp .ne 348, .aload 0, .sipush (10), .iload 1, .aload 0, .invokeinterface 10 30, .invokevirtual 129, .aload 0, .sipush (0), .aload 0, .iload 1, .sipush (1), .invokevirtual 122, .sipush (0), .invokevirtual 129, .goto 392]),
  (348, [.iload 3, .sipush (255), .iand, .invokestatic 114, .ifCond .eq 387, .iload 3, .invokestatic 125, .ifCond .ne 387, .aload 0, .sipush (12), .iload 3, .iload 2, .sipush (1), .isub, .invokevirtual 129, .aload 0, .sipush (1), .iload 5, .sipush (0), .invokevirtual 129, .goto 392])]
def hq131_6 : List (List (List Nat)) := [[[], [], [], [], [1184, 1185, 87, 1186], [], [], [], [], [], [], [], [], [988], [1206, 1208, 56, 87, 1209], [], [], [], [], [], [1180, 1182, 51, 87, 1183], [], [1206, 1208, 56, 87, 1209], []],
  [[], [], [], [1150, 1151, 87, 1152], [], [], [1191, 1192, 87, 1193], [], [], [], [], [], [], [], [1206, 1208, 56, 87, 1209], [], [], [], [], [1206, 1208, 56, 87, 1209], []]]
set_option maxRecDepth 100000 in
theorem cq131_6 : mm_chkM 131 bq131_6 hq131_6 = true := by decide +kernel
def bq131_7 : List (Nat × List Instr) := [(387, [.aload 0, .sipush (1), .multianewarray 10 28, .goto_w 392]),
  (392, [.return_])]
def hq131_7 : List (List (List Nat)) := [[[], [], [986], []],
  [[]]]
set_option maxRecDepth 100000 in
theorem cq131_7 : mm_chkM 131 bq131_7 hq131_7 = true := by decide +kernel
-- LispForgeModel.macro (I)I
def bq132_0 : List (Nat × List Instr) := [(0, [.aload 0, .invokeinterface 10 2, .sipush (1), .isub, .istore 2, .goto_w 7]),
  (7, [.iload 2, .ifCond .lt 37, .aload 0, .invokeinterface 10 6, .iload 2, .iaload, .sipush (2), .if_icmp .ne 31, .aload 0, .invokeinterface 10 7, .iload 2, .iaload, .iload 1, .if_icmp .eq 37, .goto_w 31]),
  (31, [.iinc 2 (-1), .goto 7]),
  (37, [.iload 1, .ifCond .ne 45, .sipush (-1), .goto 46]),
  (45, [.iload 2, .goto_w 46]),
  (46, [.ireturn])]
def hq132_0 : List (List (List Nat)) := [[[], [960], [], [], [], []],
  [[], [], [], [964], [], [], [], [], [], [965], [], [], [], [], []],
  [[], []],
  [[], [], [], []],
  [[], []],
  [[]]]
set_option maxRecDepth 100000 in
theorem cq132_0 : mm_chkM 132 bq132_0 hq132_0 = true := by decide +kernel
-- LispForgeModel.replace (III)V
def bq133_0 : List (Nat × List Instr) := [(0, [.aload 0, .dup, .invokeinterface 10 33, .sipush (1), .iadd, .multianewarray 10 33, .aload 0, .invokeinterface 10 33, .sipush (12), .if_icmp .gt 31, .iload 3, .aload 0, .invokeinterface 10 8, .iload 2, .iaload, .sipush (1), .iadd, .if_icmp .eq 37, .goto_w 31]),
  (31, [.aload 0, .sipush (1), .multianewarray 10 28, .return_]),
  (37, [.aload 0, .sipush (0), .aload 0, .iload 2, .sipush (0), .aload 0, .invokeinterface 10 22, .aload 0, .invokeinterface 10 20, .iload 1, .iaload, .iaload, .invokevirtual 111, .sipush (0), .invokevirtual 129, .return_])]
def hq133_0 : List (List (List Nat)) := [[[], [], [991], [], [], [991], [], [991], [], [], [], [], [966], [], [], [], [], [], []],
  [[], [], [986], []],
  [[], [], [], [], [], [], [980], [], [978], [], [], [], [1139, 1141, 43, 87, 1142], [], [1206, 1208, 56, 87, 1209], []]]
set_option maxRecDepth 100000 in
theorem cq133_0 : mm_chkM 133 bq133_0 hq133_0 = true := by decide +kernel
-- LispForgeModel.sign (I)I
def bq134_0 : List (Nat × List Instr) := [(0, [.iload 0, .sipush (43), .if_icmp .ne 10, .sipush (2), .goto 52]),
  (10, [.iload 0, .sipush (45), .if_icmp .ne 20, .sipush (3), .goto 52]),
  (20, [.iload 0, .sipush (42), .if_icmp .ne 30, .sipush (4), .goto 52]),
  (30, [.iload 0, .sipush (60), .if_icmp .ne 40, .sipush (5), .goto 52]),
  (40, [.iload 0, .sipush (61), .if_icmp .ne 51, .sipush (6), .goto 52]),
  (51, [.sipush (0), .goto_w 52]),
  (52, [.ireturn])]
def hq134_0 : List (List (List Nat)) := [[[], [], [], [], []],
  [[], [], [], [], []],
  [[], [], [], [], []],
  [[], [], [], [], []],
  [[], [], [], [], []],
  [[], []],
  [[]]]
set_option maxRecDepth 100000 in
theorem cq134_0 : mm_chkM 134 bq134_0 hq134_0 = true := by decide +kernel
-- LispForgeModel.atom (I)V
def bq135_0 : List (Nat × List Instr) := [(0, [.aload 0, .invokeinterface 10 19, .iload 1, .iaload, .ifCond .ne 27, .aload 0, .sipush (0), .invokevirtual 136, .aload 0, .aload 0, .invokeinterface 10 20, .iload 1, .iaload, .invokevirtual 137, .goto 43]),
  (27, [.aload 0, .iload 1, .invokevirtual 138, .istore 2, .aload 0, .sipush (1), .invokevirtual 136, .aload 0, .iload 2, .invokevirtual 136, .goto_w 43]),
  (43, [.aload 0, .dup, .invokeinterface 10 31, .sipush (1), .iadd, .multianewarray 10 31, .return_])]
def hq135_0 : List (List (List Nat)) := [[[], [977], [], [], [], [], [], [1233, 1235, 62, 87, 1236], [], [], [978], [], [], [1237, 1239, 63, 87, 1240], []],
  [[], [], [1241, 1243, 64, 87, 1244], [], [], [], [1233, 1235, 62, 87, 1236], [], [], [1233, 1235, 62, 87, 1236], []],
  [[], [], [989], [], [], [989], []]]
set_option maxRecDepth 100000 in
theorem cq135_0 : mm_chkM 135 bq135_0 hq135_0 = true := by decide +kernel
-- LispForgeModel.emit (I)V
def bq136_0 : List (Nat × List Instr) := [(0, [.aload 0, .invokeinterface 10 30, .sipush (260), .if_icmp .ge 31, .aload 0, .invokeinterface 10 38, .aload 0, .invokeinterface 10 30, .iload 1, .i2b, .bastore, .aload 0, .dup, .invokeinterface 10 30, .sipush (1), .iadd, .multianewarray 10 30, .goto_w 31]),
  (31, [.aload 0, .aload 0, .invokeinterface 10 28, .ifCond .ne 49, .aload 0, .invokeinterface 10 30, .sipush (200), .if_icmp .le 53, .goto_w 49]),
  (49, [.sipush (1), .goto 54]),
  (53, [.sipush (0), .goto_w 54]),
  (54, [.multianewarray 10 28, .return_])]
def hq136_0 : List (List (List Nat)) := [[[], [988], [], [], [], [996], [], [988], [], [], [], [], [], [988], [], [], [988], []],
  [[], [], [986], [], [], [988], [], [], []],
  [[], []],
  [[], []],
  [[986], []]]
set_option maxRecDepth 100000 in
theorem cq136_0 : mm_chkM 136 bq136_0 hq136_0 = true := by decide +kernel
-- LispForgeModel.emitPlace (I)V
def bq137_0 : List (Nat × List Instr) := [(0, [.aload 0, .iload 1, .sipush (8), .ishr, .invokevirtual 136, .aload 0, .iload 1, .invokevirtual 136, .return_])]
def hq137_0 : List (List (List Nat)) := [[[], [], [], [], [1233, 1235, 62, 87, 1236], [], [], [1233, 1235, 62, 87, 1236], []]]
set_option maxRecDepth 100000 in
theorem cq137_0 : mm_chkM 137 bq137_0 hq137_0 = true := by decide +kernel
-- LispForgeModel.slotOf (I)I
def bq138_0 : List (Nat × List Instr) := [(0, [.aload 0, .invokeinterface 10 32, .sipush (1), .isub, .istore 2, .goto_w 7]),
  (7, [.iload 2, .ifCond .lt 42, .aload 0, .invokeinterface 10 19, .iload 1, .iaload, .sipush (1), .if_icmp .ne 36, .aload 0, .invokeinterface 10 39, .iload 2, .iaload, .aload 0, .invokeinterface 10 20, .iload 1, .iaload, .if_icmp .eq 42, .goto_w 36]),
  (36, [.iinc 2 (-1), .goto 7]),
  (42, [.aload 0, .aload 0, .invokeinterface 10 28, .ifCond .ne 54, .iload 2, .ifCond .ge 58, .goto_w 54]),
  (54, [.sipush (1), .goto 59]),
  (58, [.sipush (0), .goto_w 59]),
  (59, [.multianewarray 10 28, .iload 2, .ifCond .ge 70, .sipush (0), .goto 76])]
def hq138_0 : List (List (List Nat)) := [[[], [990], [], [], [], []],
  [[], [], [], [977], [], [], [], [], [], [997], [], [], [], [978], [], [], [], []],
  [[], []],
  [[], [], [986], [], [], [], []],
  [[], []],
  [[], []],
  [[986], [], [], [], []]]
set_option maxRecDepth 100000 in
theorem cq138_0 : mm_chkM 138 bq138_0 hq138_0 = true := by decide +kernel
def bq138_1 : List (Nat × List Instr) := [(70, [.aload 0, .invokeinterface 10 40, .iload 2, .iaload, .goto_w 76]),
  (76, [.ireturn])]
def hq138_1 : List (List (List Nat)) := [[[], [998], [], [], []],
  [[]]]
set_option maxRecDepth 100000 in
theorem cq138_1 : mm_chkM 138 bq138_1 hq138_1 = true := by decide +kernel
end
section
-- LispForgeModel.aim (I)V
def bq139_0 : List (Nat × List Instr) := [(0, [.aload 0, .invokeinterface 10 38, .iload 1, .aload 0, .invokeinterface 10 30, .sipush (8), .ishr, .i2b, .bastore, .aload 0, .invokeinterface 10 38, .iload 1, .sipush (1), .iadd, .aload 0, .invokeinterface 10 30, .i2b, .bastore, .return_])]
def hq139_0 : List (List (List Nat)) := [[[], [996], [], [], [988], [], [], [], [], [], [996], [], [], [], [], [988], [], [], []]]
set_option maxRecDepth 100000 in
theorem cq139_0 : mm_chkM 139 bq139_0 hq139_0 = true := by decide +kernel
-- LispForgeModel.fourth ()I
def bq140_0 : List (Nat × List Instr) := [(0, [.sipush (0), .istore 1, .sipush (0), .istore 2, .sipush (0), .istore 3, .sipush (0), .istore 4, .goto_w 9]),
  (9, [.iload 4, .aload 0, .invokeinterface 10 1, .if_icmp .ge 152, .aload 0, .invokeinterface 10 5, .iload 4, .caload, .istore 5, .iload 5, .sipush (32), .if_icmp .eq 52, .iload 5, .sipush (40), .if_icmp .eq 52, .iload 5, .sipush (41), .if_icmp .eq 52, .sipush (1), .goto 53]),
  (52, [.sipush (0), .goto_w 53]),
  (53, [.istore 6, .iload 2, .sipush (1), .if_icmp .ne 80, .iload 5, .sipush (40), .if_icmp .eq 76, .iload 6, .ifCond .eq 80, .iload 3, .ifCond .ne 80, .goto_w 76]),
  (76, [.sipush (1), .goto 81])]
def hq140_0 : List (List (List Nat)) := [[[], [], [], [], [], [], [], [], []],
  [[], [], [959], [], [], [963], [], [], [], [], [], [], [], [], [], [], [], [], [], []],
  [[], []],
  [[], [], [], [], [], [], [], [], [], [], [], []],
  [[], []]]
set_option maxRecDepth 100000 in
theorem cq140_0 : mm_chkM 140 bq140_0 hq140_0 = true := by decide +kernel
def bq140_1 : List (Nat × List Instr) := [(80, [.sipush (0), .goto_w 81]),
  (81, [.istore 7, .iload 6, .ifCond .eq 97, .iload 2, .sipush (1), .if_icmp .ne 97, .sipush (1), .goto 98]),
  (97, [.sipush (0), .goto_w 98]),
  (98, [.istore 3, .iload 7, .ifCond .eq 110, .iload 1, .sipush (1), .iadd, .goto 111]),
  (110, [.iload 1, .goto_w 111]),
  (111, [.istore 1, .iload 1, .sipush (4), .if_icmp .ne 120, .iload 4, .ireturn]),
  (120, [.iload 2, .iload 5, .sipush (40), .if_icmp .ne 132, .sipush (1), .goto 144]),
  (132, [.iload 5, .sipush (41), .if_icmp .ne 143, .sipush (-1), .goto 144]),
  (143, [.sipush (0), .goto_w 144]),
  (144, [.iadd, .istore 2, .iinc 4 (1), .goto 9])]
def hq140_1 : List (List (List Nat)) := [[[], []],
  [[], [], [], [], [], [], [], []],
  [[], []],
  [[], [], [], [], [], [], []],
  [[], []],
  [[], [], [], [], [], []],
  [[], [], [], [], [], []],
  [[], [], [], [], []],
  [[], []],
  [[], [], [], []]]
set_option maxRecDepth 100000 in
theorem cq140_1 : mm_chkM 140 bq140_1 hq140_1 = true := by decide +kernel
def bq140_2 : List (Nat × List Instr) := [(152, [.sipush (0), .ireturn])]
def hq140_2 : List (List (List Nat)) := [[[], []]]
set_option maxRecDepth 100000 in
theorem cq140_2 : mm_chkM 140 bq140_2 hq140_2 = true := by decide +kernel
-- LispForgeModel.keep (IIII)I
def bq141_0 : List (Nat × List Instr) := [(0, [.aload 0, .invokeinterface 10 2, .istore 5, .aload 0, .invokeinterface 10 6, .iload 5, .iload 1, .iastore, .aload 0, .invokeinterface 10 7, .iload 5, .iload 2, .iastore, .aload 0, .invokeinterface 10 8, .iload 5, .iload 3, .iastore, .aload 0, .invokeinterface 10 9, .iload 5, .iload 1, .sipush (2), .if_icmp .ne 45, .sipush (0), .goto 49]),
  (45, [.aload 0, .invokeinterface 10 30, .goto_w 49]),
  (49, [.iastore, .aload 0, .invokeinterface 10 11, .iload 5, .iload 1, .sipush (2), .if_icmp .ne 65, .sipush (0), .goto 69]),
  (65, [.aload 0, .invokeinterface 10 34, .goto_w 69]),
  (69, [.iastore, .sipush (0), .istore 6, .goto_w 73])]
def hq141_0 : List (List (List Nat)) := [[[], [960], [], [], [964], [], [], [], [], [965], [], [], [], [], [966], [], [], [], [], [967], [], [], [], [], [], []],
  [[], [988], []],
  [[], [], [969], [], [], [], [], [], []],
  [[], [992], []],
  [[], [], [], []]]
set_option maxRecDepth 100000 in
theorem cq141_0 : mm_chkM 141 bq141_0 hq141_0 = true := by decide +kernel
def bq141_1 : List (Nat × List Instr) := [(73, [.iload 6, .aload 0, .invokeinterface 10 9, .iload 5, .iaload, .if_icmp .ge 112, .aload 0, .invokeinterface 10 10, .sipush (200), .iload 5, .imul, .iload 6, .iadd, .aload 0, .invokeinterface 10 38, .iload 6, .baload, .bastore, .iinc 6 (1), .goto 73]),
  (112, [.sipush (0), .istore 6, .goto_w 115])]
def hq141_1 : List (List (List Nat)) := [[[], [], [967], [], [], [], [], [968], [], [], [], [], [], [], [996], [], [], [], [], []],
  [[], [], []]]
set_option maxRecDepth 100000 in
theorem cq141_1 : mm_chkM 141 bq141_1 hq141_1 = true := by decide +kernel
def bq141_2 : List (Nat × List Instr) := [(115, [.iload 6, .aload 0, .invokeinterface 10 11, .iload 5, .iaload, .if_icmp .ge 173, .aload 0, .invokeinterface 10 12, .sipush (50), .iload 5, .imul, .iload 6, .iadd, .aload 0, .invokeinterface 10 41, .iload 6, .iaload, .iastore, .aload 0, .invokeinterface 10 13, .sipush (50), .iload 5, .imul, .iload 6, .iadd, .aload 0, .invokeinterface 10 42, .iload 6, .iaload, .iastore, .iinc 6 (1), .goto 115]),
  (173, [.sipush (0), .istore 6, .goto_w 176])]
def hq141_2 : List (List (List Nat)) := [[[], [], [969], [], [], [], [], [970], [], [], [], [], [], [], [999], [], [], [], [], [971], [], [], [], [], [], [], [1000], [], [], [], [], []],
  [[], [], []]]
set_option maxRecDepth 100000 in
theorem cq141_2 : mm_chkM 141 bq141_2 hq141_2 = true := by decide +kernel
def bq141_3 : List (Nat × List Instr) := [(176, [.iload 6, .iload 3, .if_icmp .ge 212, .iload 1, .sipush (2), .if_icmp .ne 212, .aload 0, .invokeinterface 10 14, .sipush (4), .iload 5, .imul, .iload 6, .iadd, .aload 0, .invokeinterface 10 39, .iload 6, .iaload, .iastore, .iinc 6 (1), .goto 176]),
  (212, [.aload 0, .invokeinterface 10 16, .iload 5, .aload 0, .invokeinterface 10 1, .iload 4, .isub, .iastore, .iload 4, .istore 6, .goto_w 230])]
def hq141_3 : List (List (List Nat)) := [[[], [], [], [], [], [], [], [972], [], [], [], [], [], [], [997], [], [], [], [], []],
  [[], [974], [], [], [959], [], [], [], [], [], []]]
set_option maxRecDepth 100000 in
theorem cq141_3 : mm_chkM 141 bq141_3 hq141_3 = true := by decide +kernel
def bq141_4 : List (Nat × List Instr) := [(230, [.iload 6, .aload 0, .invokeinterface 10 1, .if_icmp .ge 273, .iload 1, .sipush (2), .if_icmp .ne 273, .aload 0, .invokeinterface 10 15, .sipush (120), .iload 5, .imul, .iload 6, .iadd, .iload 4, .isub, .aload 0, .invokeinterface 10 5, .iload 6, .caload, .castore, .iinc 6 (1), .goto 230]),
  (273, [.aload 0, .dup, .invokeinterface 10 2, .sipush (1), .iadd, .multianewarray 10 2, .iload 5, .ireturn])]
def hq141_4 : List (List (List Nat)) := [[[], [], [959], [], [], [], [], [], [973], [], [], [], [], [], [], [], [], [963], [], [], [], [], []],
  [[], [], [960], [], [], [960], [], []]]
set_option maxRecDepth 100000 in
theorem cq141_4 : mm_chkM 141 bq141_4 hq141_4 = true := by decide +kernel
-- LispForgeModel.position ()I
def bq142_0 : List (Nat × List Instr) := [(0, [.aload 0, .sipush (0), .multianewarray 10 0, .aload 0, .invokeinterface 10 3, .ireturn])]
def hq142_0 : List (List (List Nat)) := [[[], [], [958], [], [961], []]]
set_option maxRecDepth 100000 in
theorem cq142_0 : mm_chkM 142 bq142_0 hq142_0 = true := by decide +kernel
end
section
-- LispForgeModel.object (II)I
def bq143_0 : List (Nat × List Instr) := [(0, [.aload 0, .sipush (0), .multianewarray 10 0, .iload 1, .ifCond .lt 27, .iload 1, .aload 0, .invokeinterface 10 2, .if_icmp .ge 27, .aload 0, .invokeinterface 10 6, .iload 1, .iaload, .sipush (2), .if_icmp .ne 29, .goto_w 27]),
  (27, [.sipush (-1), .ireturn])]
def hq143_0 : List (List (List Nat)) := [[[], [], [958], [], [], [], [], [960], [], [], [964], [], [], [], [], []],
  [[], []]]
set_option maxRecDepth 100000 in
theorem cq143_0 : mm_chkM 143 bq143_0 hq143_0 = true := by decide +kernel
def bq143_1 : List (Nat × List Instr) := [(29, [.sipush (1), .aload 0, .invokeinterface 10 7, .iload 1, .iaload, .invokestatic 144, .iadd, .istore 3, .sipush (1), .iload 3, .iadd, .istore 4, .iload 4, .sipush (3), .iadd, .istore 5, .iload 5, .aload 0, .invokeinterface 10 9, .iload 1, .iaload, .iadd, .istore 6, .iload 2, .ifCond .ne 74, .aload 0, .invokeinterface 10 6, .iload 1, .iaload, .ireturn]),
  (74, [.iload 2, .ifCond .le 97, .iload 2, .iload 4, .if_icmp .ge 97, .aload 0, .invokeinterface 10 7, .iload 1, .iaload, .iload 2, .sipush (1), .isub, .invokestatic 145, .ireturn])]
def hq143_1 : List (List (List Nat)) := [[[], [], [965], [], [], [1265, 1266, 87, 1267], [], [], [], [], [], [], [], [], [], [], [], [], [967], [], [], [], [], [], [], [], [964], [], [], []],
  [[], [], [], [], [], [], [965], [], [], [], [], [], [1270, 1271, 87, 1272], []]]
set_option maxRecDepth 100000 in
theorem cq143_1 : mm_chkM 143 bq143_1 hq143_1 = true := by decide +kernel
def bq143_2 : List (Nat × List Instr) := [(97, [.iload 2, .iload 4, .if_icmp .lt 150, .iload 2, .iload 5, .if_icmp .ge 150, .iload 2, .iload 4, .if_icmp .ne 124, .aload 0, .invokeinterface 10 8, .iload 1, .iaload, .goto 149]),
  (124, [.aload 0, .invokeinterface 10 9, .iload 1, .iaload, .iload 2, .iload 4, .sipush (1), .iadd, .if_icmp .ne 143, .sipush (8), .goto 144]),
  (143, [.sipush (0), .goto_w 144]),
  (144, [.ishr, .sipush (255), .iand, .goto_w 149]),
  (149, [.ireturn])]
def hq143_2 : List (List (List Nat)) := [[[], [], [], [], [], [], [], [], [], [], [966], [], [], []],
  [[], [967], [], [], [], [], [], [], [], [], []],
  [[], []],
  [[], [], [], []],
  [[]]]
set_option maxRecDepth 100000 in
theorem cq143_2 : mm_chkM 143 bq143_2 hq143_2 = true := by decide +kernel
def bq143_3 : List (Nat × List Instr) := [(150, [.iload 2, .iload 5, .if_icmp .lt 182, .iload 2, .iload 6, .if_icmp .ge 182, .aload 0, .invokeinterface 10 10, .sipush (200), .iload 1, .imul, .iload 2, .iadd, .iload 5, .isub, .baload, .sipush (255), .iand, .ireturn]),
  (182, [.iload 2, .iload 6, .if_icmp .ne 195, .aload 0, .invokeinterface 10 11, .iload 1, .iaload, .ireturn]),
  (195, [.iload 6, .sipush (1), .iadd, .istore 7, .sipush (0), .istore 8, .goto_w 204])]
def hq143_3 : List (List (List Nat)) := [[[], [], [], [], [], [], [], [968], [], [], [], [], [], [], [], [], [], [], []],
  [[], [], [], [], [969], [], [], []],
  [[], [], [], [], [], [], []]]
set_option maxRecDepth 100000 in
theorem cq143_3 : mm_chkM 143 bq143_3 hq143_3 = true := by decide +kernel
def bq143_4 : List (Nat × List Instr) := [(204, [.iload 8, .aload 0, .invokeinterface 10 11, .iload 1, .iaload, .if_icmp .ge 324, .sipush (50), .iload 1, .imul, .iload 8, .iadd, .istore 9, .sipush (3), .aload 0, .invokeinterface 10 13, .iload 9, .iaload, .invokestatic 144, .iadd, .istore 10, .iload 2, .iload 7, .if_icmp .lt 311, .iload 2, .iload 7, .iload 10, .iadd, .if_icmp .ge 311, .iload 2, .iload 7, .if_icmp .ne 272, .aload 0, .invokeinterface 10 12, .iload 9, .iaload, .sipush (8), .ishr, .goto 310])]
def hq143_4 : List (List (List Nat)) := [[[], [], [969], [], [], [], [], [], [], [], [], [], [], [], [971], [], [], [1265, 1266, 87, 1267], [], [], [], [], [], [], [], [], [], [], [], [], [], [], [970], [], [], [], [], []]]
set_option maxRecDepth 100000 in
theorem cq143_4 : mm_chkM 143 bq143_4 hq143_4 = true := by decide +kernel
def bq143_5 : List (Nat × List Instr) := [(272, [.iload 2, .iload 7, .sipush (1), .iadd, .if_icmp .ne 294, .aload 0, .invokeinterface 10 12, .iload 9, .iaload, .sipush (255), .iand, .goto 310]),
  (294, [.aload 0, .invokeinterface 10 13, .iload 9, .iaload, .iload 2, .iload 7, .isub, .sipush (2), .isub, .invokestatic 145, .goto_w 310]),
  (310, [.ireturn]),
  (311, [.iload 7, .iload 10, .iadd, .istore 7, .iinc 8 (1), .goto 204]),
  (324, [.iload 2, .sipush (-1), .if_icmp .ne 334, .iload 7, .goto 335]),
  (334, [.sipush (-1), .goto_w 335]),
  (335, [.ireturn])]
def hq143_5 : List (List (List Nat)) := [[[], [], [], [], [], [], [970], [], [], [], [], []],
  [[], [971], [], [], [], [], [], [], [], [1270, 1271, 87, 1272], []],
  [[]],
  [[], [], [], [], [], []],
  [[], [], [], [], []],
  [[], []],
  [[]]]
set_option maxRecDepth 100000 in
theorem cq143_5 : mm_chkM 143 bq143_5 hq143_5 = true := by decide +kernel
-- LispForgeModel.letters (I)I
def bq144_0 : List (Nat × List Instr) := [(0, [.iload 0, .ifCond .ne 8, .sipush (0), .goto 42]),
  (8, [.iload 0, .sipush (256), .if_icmp .ge 19, .sipush (1), .goto 42]),
  (19, [.iload 0, .sipush (65536), .if_icmp .ge 30, .sipush (2), .goto 42]),
  (30, [.iload 0, .sipush (16777216), .if_icmp .ge 41, .sipush (3), .goto 42]),
  (41, [.sipush (4), .goto_w 42]),
  (42, [.ireturn])]
def hq144_0 : List (List (List Nat)) := [[[], [], [], []],
  [[], [], [], [], []],
  [[], [1268], [], [], []],
  [[], [1269], [], [], []],
  [[], []],
  [[]]]
set_option maxRecDepth 100000 in
theorem cq144_0 : mm_chkM 144 bq144_0 hq144_0 = true := by decide +kernel
-- LispForgeModel.nameByte (II)I
def bq145_0 : List (Nat × List Instr) := [(0, [.iload 0, .invokestatic 144, .istore 2, .iload 1, .ifCond .ne 13, .iload 2, .goto 25]),
  (13, [.iload 0, .sipush (8), .iload 2, .iload 1, .isub, .imul, .ishr, .sipush (255), .iand, .goto_w 25]),
  (25, [.ireturn])]
def hq145_0 : List (List (List Nat)) := [[[], [1265, 1266, 87, 1267], [], [], [], [], []],
  [[], [], [], [], [], [], [], [], [], []],
  [[]]]
set_option maxRecDepth 100000 in
theorem cq145_0 : mm_chkM 145 bq145_0 hq145_0 = true := by decide +kernel
-- LispForgeModel.clear ()V
def bq146_0 : List (Nat × List Instr) := [(0, [.aload 0, .sipush (0), .multianewarray 10 0, .aload 0, .sipush (0), .multianewarray 10 2, .return_])]
def hq146_0 : List (List (List Nat)) := [[[], [], [958], [], [], [960], []]]
set_option maxRecDepth 100000 in
theorem cq146_0 : mm_chkM 146 bq146_0 hq146_0 = true := by decide +kernel
-- LispForgeModel.link ()I
def bq147_0 : List (Nat × List Instr) := [(0, [.aload 0, .sipush (0), .sipush (0), .invokevirtual 148, .istore 1, .aload 0, .iload 1, .ifCond .ge 16, .sipush (1), .goto 17]),
  (16, [.sipush (0), .goto_w 17]),
  (17, [.multianewarray 10 4, .aload 0, .sipush (0), .multianewarray 10 43, .aload 0, .invokeinterface 10 4, .ifCond .ne 44, .aload 0, .invokeinterface 10 44, .sipush (0), .iload 1, .iastore, .aload 0, .sipush (1), .multianewarray 10 43, .goto_w 44]),
  (44, [.sipush (0), .istore 2, .goto_w 46])]
def hq147_0 : List (List (List Nat)) := [[[], [], [], [1281, 1283, 68, 87, 1284], [], [], [], [], [], []],
  [[], []],
  [[962], [], [], [1001], [], [962], [], [], [1002], [], [], [], [], [], [1001], []],
  [[], [], []]]
set_option maxRecDepth 100000 in
theorem cq147_0 : mm_chkM 147 bq147_0 hq147_0 = true := by decide +kernel
def bq147_1 : List (Nat × List Instr) := [(46, [.iload 2, .aload 0, .invokeinterface 10 43, .if_icmp .ge 81, .aload 0, .invokeinterface 10 4, .ifCond .ne 81, .aload 0, .aload 0, .aload 0, .invokeinterface 10 44, .iload 2, .iaload, .invokevirtual 149, .multianewarray 10 4, .iinc 2 (1), .goto 46]),
  (81, [.sipush (0), .istore 2, .sipush (0), .istore 3, .goto_w 85]),
  (85, [.iload 3, .aload 0, .invokeinterface 10 43, .if_icmp .ge 120, .aload 0, .invokeinterface 10 45, .iload 3, .iload 2, .iastore, .iload 2, .aload 0, .invokeinterface 10 9, .aload 0, .invokeinterface 10 44, .iload 3, .iaload, .iaload, .iadd, .istore 2, .iinc 3 (1), .goto 85])]
def hq147_1 : List (List (List Nat)) := [[[], [], [1001], [], [], [962], [], [], [], [], [1002], [], [], [1285, 1287, 69, 87, 1288], [962], [], []],
  [[], [], [], [], []],
  [[], [], [1001], [], [], [1003], [], [], [], [], [], [967], [], [1002], [], [], [], [], [], [], []]]
set_option maxRecDepth 100000 in
theorem cq147_1 : mm_chkM 147 bq147_1 hq147_1 = true := by decide +kernel
def bq147_2 : List (Nat × List Instr) := [(120, [.aload 0, .aload 0, .invokeinterface 10 4, .ifCond .ne 139, .iload 2, .sipush (600), .if_icmp .le 139, .sipush (4), .goto 143]),
  (139, [.aload 0, .invokeinterface 10 4, .goto_w 143]),
  (143, [.multianewarray 10 4, .aload 0, .aload 0, .invokeinterface 10 4, .ifCond .le 158, .sipush (1), .goto 159]),
  (158, [.sipush (0), .goto_w 159]),
  (159, [.multianewarray 10 0, .aload 0, .invokeinterface 10 0, .ifCond .le 171, .sipush (0), .ireturn]),
  (171, [.sipush (0), .istore 3, .goto_w 173])]
def hq147_2 : List (List (List Nat)) := [[[], [], [962], [], [], [], [], [], []],
  [[], [962], []],
  [[962], [], [], [962], [], [], []],
  [[], []],
  [[958], [], [958], [], [], []],
  [[], [], []]]
set_option maxRecDepth 100000 in
theorem cq147_2 : mm_chkM 147 bq147_2 hq147_2 = true := by decide +kernel
def bq147_3 : List (Nat × List Instr) := [(173, [.iload 3, .aload 0, .invokeinterface 10 43, .if_icmp .ge 203, .aload 0, .aload 0, .invokeinterface 10 44, .iload 3, .iaload, .aload 0, .invokeinterface 10 45, .iload 3, .iaload, .invokevirtual 151, .iinc 3 (1), .goto 173]),
  (203, [.aload 0, .iload 2, .multianewarray 10 46, .aload 0, .invokevirtual 154, .iload 2, .ireturn])]
def hq147_3 : List (List (List Nat)) := [[[], [], [1001], [], [], [], [1002], [], [], [], [1003], [], [], [1293, 1295, 71, 87, 1296], [], []],
  [[], [], [1004], [], [1304, 1306, 73, 87, 1307], [], []]]
set_option maxRecDepth 100000 in
theorem cq147_3 : mm_chkM 147 bq147_3 hq147_3 = true := by decide +kernel
-- LispForgeModel.latest (II)I
def bq148_0 : List (Nat × List Instr) := [(0, [.aload 0, .invokeinterface 10 2, .sipush (1), .isub, .istore 3, .goto_w 7]),
  (7, [.iload 3, .ifCond .lt 37, .aload 0, .invokeinterface 10 6, .iload 3, .iaload, .iload 1, .if_icmp .ne 31, .aload 0, .invokeinterface 10 7, .iload 3, .iaload, .iload 2, .if_icmp .eq 37, .goto_w 31]),
  (31, [.iinc 3 (-1), .goto 7]),
  (37, [.iload 3, .ireturn])]
def hq148_0 : List (List (List Nat)) := [[[], [960], [], [], [], []],
  [[], [], [], [964], [], [], [], [], [], [965], [], [], [], [], []],
  [[], []],
  [[], []]]
set_option maxRecDepth 100000 in
theorem cq148_0 : mm_chkM 148 bq148_0 hq148_0 = true := by decide +kernel
end
section
-- LispForgeModel.meet (I)I
def bq149_0 : List (Nat × List Instr) := [(0, [.sipush (0), .istore 2, .goto_w 2]),
  (2, [.iload 2, .aload 0, .invokeinterface 10 11, .iload 1, .iaload, .if_icmp .ge 108, .aload 0, .sipush (1), .aload 0, .invokeinterface 10 13, .sipush (50), .iload 1, .imul, .iload 2, .iadd, .iaload, .invokevirtual 148, .istore 3, .iload 3, .ifCond .ge 35, .sipush (2), .ireturn])]
def hq149_0 : List (List (List Nat)) := [[[], [], []],
  [[], [], [969], [], [], [], [], [], [], [971], [], [], [], [], [], [], [1281, 1283, 68, 87, 1284], [], [], [], [], []]]
set_option maxRecDepth 100000 in
theorem cq149_0 : mm_chkM 149 bq149_0 hq149_0 = true := by decide +kernel
def bq149_1 : List (Nat × List Instr) := [(35, [.aload 0, .invokeinterface 10 10, .sipush (200), .iload 1, .imul, .aload 0, .invokeinterface 10 12, .sipush (50), .iload 1, .imul, .iload 2, .iadd, .iaload, .iadd, .sipush (2), .iadd, .baload, .sipush (255), .iand, .aload 0, .invokeinterface 10 8, .iload 3, .iaload, .if_icmp .eq 74, .sipush (3), .ireturn]),
  (74, [.aload 0, .iload 3, .invokevirtual 150, .ifCond .ge 102, .aload 0, .invokeinterface 10 44, .aload 0, .invokeinterface 10 43, .iload 3, .iastore, .aload 0, .dup, .invokeinterface 10 43, .sipush (1), .iadd, .multianewarray 10 43, .goto_w 102]),
  (102, [.iinc 2 (1), .goto 2])]
def hq149_1 : List (List (List Nat)) := [[[], [968], [], [], [], [], [970], [], [], [], [], [], [], [], [], [], [], [], [], [], [966], [], [], [], [], []],
  [[], [], [1289, 1291, 70, 87, 1292], [], [], [1002], [], [1001], [], [], [], [], [1001], [], [], [1001], []],
  [[], []]]
set_option maxRecDepth 100000 in
theorem cq149_1 : mm_chkM 149 bq149_1 hq149_1 = true := by decide +kernel
def bq149_2 : List (Nat × List Instr) := [(108, [.sipush (0), .ireturn])]
def hq149_2 : List (List (List Nat)) := [[[], []]]
set_option maxRecDepth 100000 in
theorem cq149_2 : mm_chkM 149 bq149_2 hq149_2 = true := by decide +kernel
-- LispForgeModel.stands (I)I
def bq150_0 : List (Nat × List Instr) := [(0, [.aload 0, .invokeinterface 10 43, .sipush (1), .isub, .istore 2, .goto_w 7]),
  (7, [.iload 2, .ifCond .lt 27, .aload 0, .invokeinterface 10 44, .iload 2, .iaload, .iload 1, .if_icmp .eq 27, .iinc 2 (-1), .goto 7]),
  (27, [.iload 2, .ireturn])]
def hq150_0 : List (List (List Nat)) := [[[], [1001], [], [], [], []],
  [[], [], [], [1002], [], [], [], [], [], []],
  [[], []]]
set_option maxRecDepth 100000 in
theorem cq150_0 : mm_chkM 150 bq150_0 hq150_0 = true := by decide +kernel
-- LispForgeModel.copy (II)V
def bq151_0 : List (Nat × List Instr) := [(0, [.sipush (0), .istore 3, .goto_w 2]),
  (2, [.iload 3, .aload 0, .invokeinterface 10 9, .iload 1, .iaload, .if_icmp .ge 38, .aload 0, .invokeinterface 10 47, .iload 2, .iload 3, .iadd, .aload 0, .invokeinterface 10 10, .sipush (200), .iload 1, .imul, .iload 3, .iadd, .baload, .bastore, .iinc 3 (1), .goto 2]),
  (38, [.sipush (0), .istore 3, .goto_w 40])]
def hq151_0 : List (List (List Nat)) := [[[], [], []],
  [[], [], [967], [], [], [], [], [1005], [], [], [], [], [968], [], [], [], [], [], [], [], [], []],
  [[], [], []]]
set_option maxRecDepth 100000 in
theorem cq151_0 : mm_chkM 151 bq151_0 hq151_0 = true := by decide +kernel
def bq151_1 : List (Nat × List Instr) := [(40, [.iload 3, .aload 0, .invokeinterface 10 9, .iload 1, .iaload, .if_icmp .ge 150, .aload 0, .invokeinterface 10 10, .sipush (200), .iload 1, .imul, .iload 3, .iadd, .baload, .istore 4, .iload 4, .sipush (7), .if_icmp .eq 78, .iload 4, .sipush (8), .if_icmp .ne 129, .goto_w 78])]
def hq151_1 : List (List (List Nat)) := [[[], [], [967], [], [], [], [], [968], [], [], [], [], [], [], [], [], [], [], [], [], [], []]]
set_option maxRecDepth 100000 in
theorem cq151_1 : mm_chkM 151 bq151_1 hq151_1 = true := by decide +kernel
def bq151_2 : List (Nat × List Instr) := [(78, [.aload 0, .iload 2, .iload 3, .iadd, .sipush (1), .iadd, .iload 2, .aload 0, .invokeinterface 10 10, .sipush (200), .iload 1, .imul, .iload 3, .iadd, .sipush (1), .iadd, .baload, .sipush (255), .iand, .sipush (8), .ishl, .aload 0, .invokeinterface 10 10, .sipush (200), .iload 1, .imul, .iload 3, .iadd, .sipush (2), .iadd, .baload, .sipush (255), .iand, .ior, .iadd, .invokevirtual 152, .goto_w 129])]
def hq151_2 : List (List (List Nat)) := [[[], [], [], [], [], [], [], [], [968], [], [], [], [], [], [], [], [], [], [], [], [], [], [968], [], [], [], [], [], [], [], [], [], [], [], [], [1297, 1299, 72, 87, 1300], []]]
set_option maxRecDepth 100000 in
theorem cq151_2 : mm_chkM 151 bq151_2 hq151_2 = true := by decide +kernel
def bq151_3 : List (Nat × List Instr) := [(129, [.iload 3, .aload 0, .invokeinterface 10 10, .sipush (200), .iload 1, .imul, .iload 3, .iadd, .baload, .invokestatic 153, .iadd, .istore 3, .goto 40]),
  (150, [.sipush (0), .istore 3, .goto_w 152])]
def hq151_3 : List (List (List Nat)) := [[[], [], [968], [], [], [], [], [], [], [1301, 1302, 87, 1303], [], [], []],
  [[], [], []]]
set_option maxRecDepth 100000 in
theorem cq151_3 : mm_chkM 151 bq151_3 hq151_3 = true := by decide +kernel
def bq151_4 : List (Nat × List Instr) := [(152, [.iload 3, .aload 0, .invokeinterface 10 11, .iload 1, .iaload, .if_icmp .ge 210, .aload 0, .iload 2, .aload 0, .invokeinterface 10 12, .sipush (50), .iload 1, .imul, .iload 3, .iadd, .iaload, .iadd, .aload 0, .invokeinterface 10 45, .aload 0, .aload 0, .sipush (1), .aload 0, .invokeinterface 10 13, .sipush (50), .iload 1, .imul, .iload 3, .iadd, .iaload, .invokevirtual 148, .invokevirtual 150, .iaload, .invokevirtual 152, .iinc 3 (1), .goto 152]),
  (210, [.return_])]
def hq151_4 : List (List (List Nat)) := [[[], [], [969], [], [], [], [], [], [], [970], [], [], [], [], [], [], [], [], [1003], [], [], [], [], [971], [], [], [], [], [], [], [1281, 1283, 68, 87, 1284], [1289, 1291, 70, 87, 1292], [], [1297, 1299, 72, 87, 1300], [], []],
  [[]]]
set_option maxRecDepth 100000 in
theorem cq151_4 : mm_chkM 151 bq151_4 hq151_4 = true := by decide +kernel
-- LispForgeModel.putPlace (II)V
def bq152_0 : List (Nat × List Instr) := [(0, [.aload 0, .invokeinterface 10 47, .iload 1, .iload 2, .sipush (8), .ishr, .i2b, .bastore, .aload 0, .invokeinterface 10 47, .iload 1, .sipush (1), .iadd, .iload 2, .i2b, .bastore, .return_])]
def hq152_0 : List (List (List Nat)) := [[[], [1005], [], [], [], [], [], [], [], [1005], [], [], [], [], [], [], []]]
set_option maxRecDepth 100000 in
theorem cq152_0 : mm_chkM 152 bq152_0 hq152_0 = true := by decide +kernel
-- LispForgeModel.wide (I)I
def bq153_0 : List (Nat × List Instr) := [(0, [.iload 0, .ifCond .eq 16, .iload 0, .sipush (7), .if_icmp .eq 16, .iload 0, .sipush (8), .if_icmp .ne 20, .goto_w 16]),
  (16, [.sipush (3), .goto 52]),
  (20, [.iload 0, .sipush (1), .if_icmp .eq 37, .iload 0, .sipush (11), .if_icmp .eq 37, .iload 0, .sipush (13), .if_icmp .ne 41, .goto_w 37]),
  (37, [.sipush (2), .goto 52]),
  (41, [.iload 0, .sipush (12), .if_icmp .ne 51, .sipush (4), .goto 52]),
  (51, [.sipush (1), .goto_w 52]),
  (52, [.ireturn])]
def hq153_0 : List (List (List Nat)) := [[[], [], [], [], [], [], [], [], []],
  [[], []],
  [[], [], [], [], [], [], [], [], [], []],
  [[], []],
  [[], [], [], [], []],
  [[], []],
  [[]]]
set_option maxRecDepth 100000 in
theorem cq153_0 : mm_chkM 153 bq153_0 hq153_0 = true := by decide +kernel
-- LispForgeModel.begin ()V
def bq154_0 : List (Nat × List Instr) := [(0, [.aload 0, .sipush (1), .multianewarray 10 48, .aload 0, .sipush (0), .multianewarray 10 49, .aload 0, .sipush (0), .multianewarray 10 50, .aload 0, .sipush (0), .multianewarray 10 51, .aload 0, .sipush (0), .multianewarray 10 52, .aload 0, .sipush (0), .multianewarray 10 53, .return_])]
def hq154_0 : List (List (List Nat)) := [[[], [], [1006], [], [], [1007], [], [], [1008], [], [], [1009], [], [], [1010], [], [], [1011], []]]
set_option maxRecDepth 100000 in
theorem cq154_0 : mm_chkM 154 bq154_0 hq154_0 = true := by decide +kernel
-- LispForgeModel.failure ()I
def bq155_0 : List (Nat × List Instr) := [(0, [.aload 0, .sipush (0), .multianewarray 10 0, .aload 0, .invokeinterface 10 4, .ireturn])]
def hq155_0 : List (List (List Nat)) := [[[], [], [958], [], [962], []]]
set_option maxRecDepth 100000 in
theorem cq155_0 : mm_chkM 155 bq155_0 hq155_0 = true := by decide +kernel
-- LispForgeModel.image (I)I
def bq156_0 : List (Nat × List Instr) := [(0, [.aload 0, .sipush (0), .multianewarray 10 0, .iload 1, .sipush (-1), .if_icmp .ne 17, .aload 0, .invokeinterface 10 46, .goto 43]),
  (17, [.iload 1, .ifCond .lt 42, .iload 1, .aload 0, .invokeinterface 10 46, .if_icmp .ge 42, .aload 0, .invokeinterface 10 47, .iload 1, .baload, .sipush (255), .iand, .goto 43]),
  (42, [.sipush (-1), .goto_w 43]),
  (43, [.ireturn])]
def hq156_0 : List (List (List Nat)) := [[[], [], [958], [], [], [], [], [1004], []],
  [[], [], [], [], [1004], [], [], [1005], [], [], [], [], []],
  [[], []],
  [[]]]
set_option maxRecDepth 100000 in
theorem cq156_0 : mm_chkM 156 bq156_0 hq156_0 = true := by decide +kernel
-- LispForgeModel.restart ()Z
def bq157_0 : List (Nat × List Instr) := [(0, [.aload 0, .sipush (0), .multianewarray 10 0, .aload 0, .invokeinterface 10 46, .ifCond .ne 14, .sipush (0), .freturn]),
  (14, [.aload 0, .invokevirtual 154, .sipush (1), .freturn])]
def hq157_0 : List (List (List Nat)) := [[[], [], [958], [], [1004], [], [], []],
  [[], [1304, 1306, 73, 87, 1307], [], []]]
set_option maxRecDepth 100000 in
theorem cq157_0 : mm_chkM 157 bq157_0 hq157_0 = true := by decide +kernel
-- LispForgeModel.run (I)I
def bq158_0 : List (Nat × List Instr) := [(0, [.aload 0, .iload 1, .ifCond .lt 12, .iload 1, .sipush (500), .if_icmp .le 16, .goto_w 12]),
  (12, [.sipush (1), .goto 17]),
  (16, [.sipush (0), .goto_w 17]),
  (17, [.multianewarray 10 0, .sipush (0), .istore 2, .goto_w 22]),
  (22, [.aload 0, .invokeinterface 10 0, .ifCond .ne 52, .iload 2, .iload 1, .if_icmp .ge 52, .aload 0, .invokeinterface 10 48, .sipush (1), .if_icmp .ne 52, .aload 0, .invokevirtual 159, .iinc 2 (1), .goto 22]),
  (52, [.iload 2, .ireturn])]
def hq158_0 : List (List (List Nat)) := [[[], [], [], [], [], [], []],
  [[], []],
  [[], []],
  [[958], [], [], []],
  [[], [958], [], [], [], [], [], [1006], [], [], [], [1324, 1326, 74, 87, 1327], [], []],
  [[], []]]
set_option maxRecDepth 100000 in
theorem cq158_0 : mm_chkM 158 bq158_0 hq158_0 = true := by decide +kernel
end
section
-- LispForgeModel.step ()V
def bq159_0 : List (Nat × List Instr) := [(0, [.aload 0, .invokeinterface 10 47, .aload 0, .invokeinterface 10 49, .baload, .istore 1, .iload 1, .sipush (1), .if_icmp .eq 27, .iload 1, .sipush (11), .if_icmp .eq 27, .iload 1, .sipush (13), .if_icmp .ne 45, .goto_w 27]),
  (27, [.aload 0, .invokeinterface 10 47, .aload 0, .invokeinterface 10 49, .sipush (1), .iadd, .baload, .sipush (255), .iand, .goto 46]),
  (45, [.sipush (0), .goto_w 46]),
  (46, [.istore 2, .iload 1, .sipush (2), .if_icmp .ge 61, .aload 0, .invokeinterface 10 51, .sipush (120), .if_icmp .eq 76, .goto_w 61]),
  (61, [.iload 1, .sipush (12), .if_icmp .ne 82, .aload 0, .invokeinterface 10 52, .sipush (24), .if_icmp .ne 82, .goto_w 76])]
def hq159_0 : List (List (List Nat)) := [[[], [1005], [], [1007], [], [], [], [], [], [], [], [], [], [], [], []],
  [[], [1005], [], [1007], [], [], [], [], [], []],
  [[], []],
  [[], [], [], [], [], [1009], [], [], []],
  [[], [], [], [], [1010], [], [], []]]
set_option maxRecDepth 100000 in
theorem cq159_0 : mm_chkM 159 bq159_0 hq159_0 = true := by decide +kernel
def bq159_1 : List (Nat × List Instr) := [(76, [.aload 0, .sipush (3), .multianewarray 10 48, .return_]),
  (82, [.aload 0, .invokeinterface 10 49, .iload 1, .invokestatic 153, .iadd, .istore 3, .iload 1, .lookupswitch 481 #[(0, 168), (1, 186), (2, 481), (3, 481), (4, 481), (5, 481), (6, 481), (7, 204), (8, 218), (9, 258), (10, 293), (11, 306), (12, 331), (13, 402), (14, 468)]]),
  (168, [.aload 0, .aload 0, .aload 0, .invokeinterface 10 49, .sipush (1), .iadd, .invokevirtual 160, .i2s, .invokevirtual 161, .goto 486]),
  (186, [.aload 0, .aload 0, .invokeinterface 10 54, .aload 0, .invokeinterface 10 50, .iload 2, .iadd, .iaload, .invokevirtual 161, .goto 486]),
  (204, [.aload 0, .aload 0, .invokeinterface 10 49, .sipush (1), .iadd, .invokevirtual 160, .istore 3, .goto 486])]
def hq159_1 : List (List (List Nat)) := [[[], [], [1006], []],
  [[], [1007], [], [1301, 1302, 87, 1303], [], [], [], []],
  [[], [], [], [1007], [], [], [1328, 1330, 75, 87, 1331], [], [1332, 1334, 76, 87, 1335], []],
  [[], [], [1012], [], [1008], [], [], [], [1332, 1334, 76, 87, 1335], []],
  [[], [], [1007], [], [], [1328, 1330, 75, 87, 1331], [], []]]
set_option maxRecDepth 100000 in
theorem cq159_1 : mm_chkM 159 bq159_1 hq159_1 = true := by decide +kernel
def bq159_2 : List (Nat × List Instr) := [(218, [.aload 0, .dup, .invokeinterface 10 51, .sipush (1), .isub, .multianewarray 10 51, .aload 0, .invokeinterface 10 54, .aload 0, .invokeinterface 10 51, .iaload, .ifCond .ne 253, .aload 0, .aload 0, .invokeinterface 10 49, .sipush (1), .iadd, .invokevirtual 160, .goto 254]),
  (253, [.iload 3, .goto_w 254]),
  (254, [.istore 3, .goto 486]),
  (258, [.aload 0, .invokeinterface 10 54, .aload 0, .invokeinterface 10 51, .sipush (2), .isub, .aload 0, .invokeinterface 10 54, .aload 0, .invokeinterface 10 51, .sipush (1), .isub, .iaload, .iastore, .aload 0, .dup, .invokeinterface 10 51, .sipush (1), .isub, .multianewarray 10 51, .goto 486])]
def hq159_2 : List (List (List Nat)) := [[[], [], [1009], [], [], [1009], [], [1012], [], [1009], [], [], [], [], [1007], [], [], [1328, 1330, 75, 87, 1331], []],
  [[], []],
  [[], []],
  [[], [1012], [], [1009], [], [], [], [1012], [], [1009], [], [], [], [], [], [], [1009], [], [], [1009], []]]
set_option maxRecDepth 100000 in
theorem cq159_2 : mm_chkM 159 bq159_2 hq159_2 = true := by decide +kernel
def bq159_3 : List (Nat × List Instr) := [(293, [.aload 0, .dup, .invokeinterface 10 51, .sipush (1), .isub, .multianewarray 10 51, .goto 486]),
  (306, [.aload 0, .invokeinterface 10 54, .aload 0, .invokeinterface 10 50, .iload 2, .iadd, .aload 0, .invokeinterface 10 54, .aload 0, .invokeinterface 10 51, .sipush (1), .isub, .iaload, .iastore, .goto 486])]
def hq159_3 : List (List (List Nat)) := [[[], [], [1009], [], [], [1009], []],
  [[], [1012], [], [1008], [], [], [], [1012], [], [1009], [], [], [], [], []]]
set_option maxRecDepth 100000 in
theorem cq159_3 : mm_chkM 159 bq159_3 hq159_3 = true := by decide +kernel
def bq159_4 : List (Nat × List Instr) := [(331, [.aload 0, .invokeinterface 10 55, .aload 0, .invokeinterface 10 52, .aload 0, .invokeinterface 10 50, .iastore, .aload 0, .invokeinterface 10 56, .aload 0, .invokeinterface 10 52, .iload 3, .iastore, .aload 0, .dup, .invokeinterface 10 52, .sipush (1), .iadd, .multianewarray 10 52, .aload 0, .aload 0, .invokeinterface 10 51, .aload 0, .invokeinterface 10 47, .aload 0, .invokeinterface 10 49, .sipush (3), .iadd, .baload, .sipush (255), .iand, .isub, .multianewarray 10 50, .aload 0, .aload 0, .invokeinterface 10 49, .sipush (1), .iadd, .invokevirtual 160, .istore 3, .goto 486])]
def hq159_4 : List (List (List Nat)) := [[[], [1013], [], [1010], [], [1008], [], [], [1014], [], [1010], [], [], [], [], [1010], [], [], [1010], [], [], [1009], [], [1005], [], [1007], [], [], [], [], [], [], [1008], [], [], [1007], [], [], [1328, 1330, 75, 87, 1331], [], []]]
set_option maxRecDepth 100000 in
theorem cq159_4 : mm_chkM 159 bq159_4 hq159_4 = true := by decide +kernel
def bq159_5 : List (Nat × List Instr) := [(402, [.aload 0, .invokeinterface 10 54, .aload 0, .invokeinterface 10 50, .aload 0, .invokeinterface 10 54, .aload 0, .invokeinterface 10 51, .sipush (1), .isub, .iaload, .iastore, .aload 0, .aload 0, .invokeinterface 10 50, .sipush (1), .iadd, .multianewarray 10 51, .aload 0, .dup, .invokeinterface 10 52, .sipush (1), .isub, .multianewarray 10 52, .aload 0, .aload 0, .invokeinterface 10 55, .aload 0, .invokeinterface 10 52, .iaload, .multianewarray 10 50, .aload 0, .invokeinterface 10 56, .aload 0, .invokeinterface 10 52, .iaload, .istore 3, .goto 486]),
  (468, [.aload 0, .sipush (2), .multianewarray 10 48, .aload 0, .invokeinterface 10 49, .istore 3, .goto 486])]
def hq159_5 : List (List (List Nat)) := [[[], [1012], [], [1008], [], [1012], [], [1009], [], [], [], [], [], [], [1008], [], [], [1009], [], [], [1010], [], [], [1010], [], [], [1013], [], [1010], [], [1008], [], [1014], [], [1010], [], [], []],
  [[], [], [1006], [], [1007], [], []]]
set_option maxRecDepth 100000 in
theorem cq159_5 : mm_chkM 159 bq159_5 hq159_5 = true := by decide +kernel
def bq159_6 : List (Nat × List Instr) := [(481, [.aload 0, .iload 1, .invokevirtual 162, .goto_w 486]),
  (486, [.aload 0, .iload 3, .multianewarray 10 49, .aload 0, .dup, .invokeinterface 10 53, .sipush (1), .iadd, .multianewarray 10 53, .return_])]
def hq159_6 : List (List (List Nat)) := [[[], [], [1336, 1338, 77, 87, 1339], []],
  [[], [], [1007], [], [], [1011], [], [], [1011], []]]
set_option maxRecDepth 100000 in
theorem cq159_6 : mm_chkM 159 bq159_6 hq159_6 = true := by decide +kernel
-- LispForgeModel.placeAt (I)I
def bq160_0 : List (Nat × List Instr) := [(0, [.aload 0, .invokeinterface 10 47, .iload 1, .baload, .sipush (255), .iand, .sipush (8), .ishl, .aload 0, .invokeinterface 10 47, .iload 1, .sipush (1), .iadd, .baload, .sipush (255), .iand, .ior, .ireturn])]
def hq160_0 : List (List (List Nat)) := [[[], [1005], [], [], [], [], [], [], [], [1005], [], [], [], [], [], [], [], []]]
set_option maxRecDepth 100000 in
theorem cq160_0 : mm_chkM 160 bq160_0 hq160_0 = true := by decide +kernel
-- LispForgeModel.put (I)V
def bq161_0 : List (Nat × List Instr) := [(0, [.aload 0, .invokeinterface 10 54, .aload 0, .invokeinterface 10 51, .iload 1, .iastore, .aload 0, .dup, .invokeinterface 10 51, .sipush (1), .iadd, .multianewarray 10 51, .return_])]
def hq161_0 : List (List (List Nat)) := [[[], [1012], [], [1009], [], [], [], [], [1009], [], [], [1009], []]]
set_option maxRecDepth 100000 in
theorem cq161_0 : mm_chkM 161 bq161_0 hq161_0 = true := by decide +kernel
-- LispForgeModel.work (I)V
def bq162_0 : List (Nat × List Instr) := [(0, [.aload 0, .invokeinterface 10 54, .aload 0, .invokeinterface 10 51, .sipush (1), .isub, .iaload, .istore 2, .aload 0, .invokeinterface 10 54, .aload 0, .invokeinterface 10 51, .sipush (2), .isub, .iaload, .istore 3, .aload 0, .dup, .invokeinterface 10 51, .sipush (1), .isub, .multianewarray 10 51, .aload 0, .invokeinterface 10 54, .aload 0, .invokeinterface 10 51, .sipush (1), .isub, .iload 1, .sipush (2), .if_icmp .ne 55, .iload 3, .iload 2, .iadd, .goto 100]),
  (55, [.iload 1, .sipush (3), .if_icmp .ne 66, .iload 3, .iload 2, .isub, .goto 100])]
def hq162_0 : List (List (List Nat)) := [[[], [1012], [], [1009], [], [], [], [], [], [1012], [], [1009], [], [], [], [], [], [], [1009], [], [], [1009], [], [1012], [], [1009], [], [], [], [], [], [], [], [], []],
  [[], [], [], [], [], [], []]]
set_option maxRecDepth 100000 in
theorem cq162_0 : mm_chkM 162 bq162_0 hq162_0 = true := by decide +kernel
def bq162_1 : List (Nat × List Instr) := [(66, [.iload 1, .sipush (4), .if_icmp .ne 77, .iload 3, .iload 2, .imul, .goto 100]),
  (77, [.iload 1, .sipush (5), .if_icmp .ne 90, .iload 3, .iload 2, .if_icmp .ge 99, .goto 95]),
  (90, [.iload 3, .iload 2, .if_icmp .ne 99, .goto_w 95]),
  (95, [.sipush (1), .goto 100]),
  (99, [.sipush (0), .goto_w 100]),
  (100, [.iastore, .return_])]
def hq162_1 : List (List (List Nat)) := [[[], [], [], [], [], [], []],
  [[], [], [], [], [], [], []],
  [[], [], [], []],
  [[], []],
  [[], []],
  [[], []]]
set_option maxRecDepth 100000 in
theorem cq162_1 : mm_chkM 162 bq162_1 hq162_1 = true := by decide +kernel
-- LispForgeModel.about (I)I
def bq163_0 : List (Nat × List Instr) := [(0, [.aload 0, .sipush (0), .multianewarray 10 0, .iload 1, .lookupswitch 74 #[(0, 44), (1, 49), (2, 54), (3, 59), (4, 64), (5, 69)]]),
  (44, [.aload 0, .invokeinterface 10 48, .ireturn]),
  (49, [.aload 0, .invokeinterface 10 49, .ireturn]),
  (54, [.aload 0, .invokeinterface 10 50, .ireturn]),
  (59, [.aload 0, .invokeinterface 10 51, .ireturn]),
  (64, [.aload 0, .invokeinterface 10 52, .ireturn]),
  (69, [.aload 0, .invokeinterface 10 53, .ireturn]),
  (74, [.sipush (-1), .ireturn])]
def hq163_0 : List (List (List Nat)) := [[[], [], [958], [], []],
  [[], [1006], []],
  [[], [1007], []],
  [[], [1008], []],
  [[], [1009], []],
  [[], [1010], []],
  [[], [1011], []],
  [[], []]]
set_option maxRecDepth 100000 in
theorem cq163_0 : mm_chkM 163 bq163_0 hq163_0 = true := by decide +kernel
-- LispForgeModel.stack (I)I
def bq164_0 : List (Nat × List Instr) := [(0, [.aload 0, .sipush (0), .multianewarray 10 0, .iload 1, .ifCond .lt 26, .iload 1, .aload 0, .invokeinterface 10 51, .if_icmp .ge 26, .aload 0, .invokeinterface 10 54, .iload 1, .iaload, .goto 27]),
  (26, [.sipush (0), .goto_w 27]),
  (27, [.ireturn])]
def hq164_0 : List (List (List Nat)) := [[[], [], [958], [], [], [], [], [1009], [], [], [1012], [], [], []],
  [[], []],
  [[]]]
set_option maxRecDepth 100000 in
theorem cq164_0 : mm_chkM 164 bq164_0 hq164_0 = true := by decide +kernel
-- LispForgeModel.top ()I
def bq165_0 : List (Nat × List Instr) := [(0, [.aload 0, .sipush (0), .multianewarray 10 0, .aload 0, .invokeinterface 10 51, .ifCond .le 26, .aload 0, .invokeinterface 10 54, .aload 0, .invokeinterface 10 51, .sipush (1), .isub, .iaload, .goto 27]),
  (26, [.sipush (0), .goto_w 27]),
  (27, [.ireturn])]
def hq165_0 : List (List (List Nat)) := [[[], [], [958], [], [1009], [], [], [1012], [], [1009], [], [], [], []],
  [[], []],
  [[]]]
set_option maxRecDepth 100000 in
theorem cq165_0 : mm_chkM 165 bq165_0 hq165_0 = true := by decide +kernel
end
section
-- LispForgeLaw.law ([I)Z
def bq166_0 : List (Nat × List Instr) := [(0, [.new 0, .dup, .invokevirtual 0, .astore 1, .new 10, .dup, .invokevirtual 108, .astore 2, .sipush (1), .newarray .long, .astore 3, .sipush (0), .istore 4, .goto_w 23]),
  (23, [.iload 4, .aload 0, .arraylength, .sipush (3), .isub, .if_icmp .gt 402, .aload 0, .iload 4, .iaload, .sipush (15), .iand, .lookupswitch 396 #[(0, 104), (1, 161), (2, 177), (3, 190), (4, 227), (5, 238), (6, 254), (7, 267), (8, 292), (9, 305), (10, 333), (11, 358), (12, 383)]])]
def hq166_0 : List (List (List Nat)) := [[[99, 100, 79], [], [101, 102, 79, 103], [], [952, 953, 87], [], [954, 955, 87, 956], [], [], [1353], [], [], [], []],
  [[], [], [], [], [], [], [], [], [], [], [], []]]
set_option maxRecDepth 100000 in
theorem cq166_0 : mm_chkM 166 bq166_0 hq166_0 = true := by decide +kernel
def bq166_1 : List (Nat × List Instr) := [(104, [.aload 1, .aload 0, .iload 4, .sipush (1), .iadd, .iaload, .i2l, .sipush (32), .lshl, .aload 0, .iload 4, .sipush (2), .iadd, .iaload, .i2l, .jsr (4294967295), .land, .lor, .invokevirtual 8, .aload 2, .aload 0, .iload 4, .sipush (1), .iadd, .iaload, .i2l, .sipush (32), .lshl, .aload 0, .iload 4, .sipush (2), .iadd, .iaload, .i2l, .jsr (4294967295), .land, .lor, .invokevirtual 109, .if_icmp .eq 396, .sipush (0), .freturn])]
def hq166_1 : List (List (List Nat)) := [[[], [], [], [], [], [], [], [], [], [], [], [], [], [], [], [1352], [], [], [313, 314, 315, 79, 316], [], [], [], [], [], [], [], [], [], [], [], [], [], [], [], [1352], [], [], [1131, 1132, 1133, 87, 1134], [], [], []]]
set_option maxRecDepth 100000 in
theorem cq166_1 : mm_chkM 166 bq166_1 hq166_1 = true := by decide +kernel
def bq166_2 : List (Nat × List Instr) := [(161, [.aload 1, .aload 3, .putstatic 167, .istore 5, .aload 2, .invokevirtual 110, .istore 6, .goto 396]),
  (177, [.aload 1, .invokevirtual 12, .pop, .aload 2, .invokevirtual 142, .pop, .goto 396]),
  (190, [.aload 1, .aload 0, .iload 4, .sipush (1), .iadd, .iaload, .aload 0, .iload 4, .sipush (2), .iadd, .iaload, .invokevirtual 13, .pop, .aload 2, .aload 0, .iload 4, .sipush (1), .iadd, .iaload, .aload 0, .iload 4, .sipush (2), .iadd, .iaload, .invokevirtual 143, .pop, .goto 396])]
def hq166_2 : List (List (List Nat)) := [[[], [], [388, 389, 78, 390], [], [], [1135, 1136, 1137, 87, 1138], [], []],
  [[], [328, 329, 330, 79, 331], [], [], [1257, 1258, 1259, 87, 1260], [], []],
  [[], [], [], [], [], [], [], [], [], [], [], [332, 333, 334, 79, 335], [], [], [], [], [], [], [], [], [], [], [], [], [1261, 1262, 1263, 87, 1264], [], []]]
set_option maxRecDepth 100000 in
theorem cq166_2 : mm_chkM 166 bq166_2 hq166_2 = true := by decide +kernel
def bq166_3 : List (Nat × List Instr) := [(227, [.aload 1, .invokevirtual 17, .aload 2, .invokevirtual 146, .goto 396]),
  (238, [.aload 1, .aload 3, .putstatic 168, .istore 5, .aload 2, .invokevirtual 147, .istore 6, .goto 396]),
  (254, [.aload 1, .invokevirtual 19, .pop, .aload 2, .invokevirtual 155, .pop, .goto 396]),
  (267, [.aload 1, .aload 0, .iload 4, .sipush (1), .iadd, .iaload, .invokevirtual 20, .pop, .aload 2, .aload 0, .iload 4, .sipush (1), .iadd, .iaload, .invokevirtual 156, .pop, .goto 396]),
  (292, [.aload 1, .invokevirtual 21, .pop, .aload 2, .invokevirtual 157, .pop, .goto 396])]
def hq166_3 : List (List (List Nat)) := [[[], [348, 349, 350, 79, 351], [], [1273, 1274, 1275, 87, 1276], []],
  [[], [], [850, 851, 78, 852], [], [], [1277, 1278, 1279, 87, 1280], [], []],
  [[], [356, 357, 358, 79, 359], [], [], [1308, 1309, 1310, 87, 1311], [], []],
  [[], [], [], [], [], [], [360, 361, 362, 79, 363], [], [], [], [], [], [], [], [1312, 1313, 1314, 87, 1315], [], []],
  [[], [364, 365, 366, 79, 367], [], [], [1316, 1317, 1318, 87, 1319], [], []]]
set_option maxRecDepth 100000 in
theorem cq166_3 : mm_chkM 166 bq166_3 hq166_3 = true := by decide +kernel
def bq166_4 : List (Nat × List Instr) := [(305, [.aload 1, .aload 0, .iload 4, .sipush (1), .iadd, .iaload, .aload 3, .putstatic 169, .istore 5, .aload 2, .aload 0, .iload 4, .sipush (1), .iadd, .iaload, .invokevirtual 158, .istore 6, .goto 396]),
  (333, [.aload 1, .aload 0, .iload 4, .sipush (1), .iadd, .iaload, .invokevirtual 23, .pop, .aload 2, .aload 0, .iload 4, .sipush (1), .iadd, .iaload, .invokevirtual 163, .pop, .goto 396])]
def hq166_4 : List (List (List Nat)) := [[[], [], [], [], [], [], [], [900, 901, 78, 902], [], [], [], [], [], [], [], [1320, 1321, 1322, 87, 1323], [], []],
  [[], [], [], [], [], [], [372, 373, 374, 79, 375], [], [], [], [], [], [], [], [1340, 1341, 1342, 87, 1343], [], []]]
set_option maxRecDepth 100000 in
theorem cq166_4 : mm_chkM 166 bq166_4 hq166_4 = true := by decide +kernel
def bq166_5 : List (Nat × List Instr) := [(358, [.aload 1, .aload 0, .iload 4, .sipush (1), .iadd, .iaload, .invokevirtual 24, .pop, .aload 2, .aload 0, .iload 4, .sipush (1), .iadd, .iaload, .invokevirtual 164, .pop, .goto 396]),
  (383, [.aload 1, .invokevirtual 26, .pop, .aload 2, .invokevirtual 165, .pop, .goto 396]),
  (396, [.iinc 4 (3), .goto 23]),
  (402, [.sipush (1), .freturn])]
def hq166_5 : List (List (List Nat)) := [[[], [], [], [], [], [], [376, 377, 378, 79, 379], [], [], [], [], [], [], [], [1344, 1345, 1346, 87, 1347], [], []],
  [[], [384, 385, 386, 79, 387], [], [], [1348, 1349, 1350, 87, 1351], [], []],
  [[], []],
  [[], []]]
set_option maxRecDepth 100000 in
theorem cq166_5 : mm_chkM 166 bq166_5 hq166_5 = true := by decide +kernel
-- LispForgeLaw.compile (LLispForge;[J)I
def bq167_0 : List (Nat × List Instr) := [(0, [.aload 1, .sipush (0), .aload 0, .goto_w 3]),
  (6, [.i2l, .lastore, .goto 20]),
  (20, [.sipush (0), .ireturn])]
def hq167_0 : List (List (List Nat)) := [[[], [], [], []],
  [[], [], []],
  [[], []]]
set_option maxRecDepth 100000 in
theorem cq167_0 : mm_chkM 167 bq167_0 hq167_0 = true := by decide +kernel
-- LispForgeLaw.link (LLispForge;[J)I
def bq168_0 : List (Nat × List Instr) := [(0, [.aload 1, .sipush (0), .aload 0, .goto_w 3]),
  (6, [.i2l, .lastore, .goto 14]),
  (14, [.sipush (0), .ireturn])]
def hq168_0 : List (List (List Nat)) := [[[], [], [], []],
  [[], [], []],
  [[], []]]
set_option maxRecDepth 100000 in
theorem cq168_0 : mm_chkM 168 bq168_0 hq168_0 = true := by decide +kernel
-- LispForgeLaw.run (LLispForge;I[J)I
def bq169_0 : List (Nat × List Instr) := [(0, [.aload 2, .sipush (0), .aload 0, .iload 1, .goto_w 4]),
  (7, [.i2l, .lastore, .goto 15]),
  (15, [.sipush (0), .ireturn])]
def hq169_0 : List (List (List Nat)) := [[[], [], [], [], []],
  [[], [], []],
  [[], []]]
set_option maxRecDepth 100000 in
theorem cq169_0 : mm_chkM 169 bq169_0 hq169_0 = true := by decide +kernel
end
section
/-- all blocks that are used: (method, place, steps) -/
def mm_bqs : List (Nat × List (Nat × List Instr)) := [(0, bq0_0), (1, bq1_0), (3, bq3_0), (4, bq4_0), (5, bq5_0), (6, bq6_0), (7, bq7_0), (8, bq8_0), (8, bq8_1), (9, bq9_0), (10, bq10_0), (11, bq11_0), (12, bq12_0), (13, bq13_0), (14, bq14_0), (15, bq15_0), (16, bq16_0), (17, bq17_0), (18, bq18_0), (19, bq19_0), (20, bq20_0), (21, bq21_0), (22, bq22_0), (23, bq23_0), (24, bq24_0), (25, bq25_0), (26, bq26_0), (27, bq27_0), (27, bq27_1), (28, bq28_0), (29, bq29_0), (30, bq30_0), (30, bq30_1), (31, bq31_0), (32, bq32_0), (32, bq32_1), (33, bq33_0), (34, bq34_0), (35, bq35_0), (36, bq36_0), (37, bq37_0), (38, bq38_0), (39, bq39_0), (40, bq40_0), (41, bq41_0), (42, bq42_0), (43, bq43_0), (59, bq59_0), (87, bq87_0), (88, bq88_0), (88, bq88_1), (97, bq97_0), (98, bq98_0), (108, bq108_0), (109, bq109_0), (109, bq109_1), (110, bq110_0), (110, bq110_1), (110, bq110_2), (110, bq110_3), (110, bq110_4), (110, bq110_5), (111, bq111_0), (111, bq111_1), (111, bq111_2), (111, bq111_3), (111, bq111_4), (111, bq111_5), (112, bq112_0), (113, bq113_0), (114, bq114_0), (115, bq115_0), (116, bq116_0), (117, bq117_0), (117, bq117_1), (118, bq118_0), (118, bq118_1), (119, bq119_0), (119, bq119_1), (119, bq119_2), (120, bq120_0), (121, bq121_0), (122, bq122_0), (123, bq123_0), (124, bq124_0), (125, bq125_0), (125, bq125_1), (126, bq126_0), (126, bq126_1), (127, bq127_0), (128, bq128_0), (128, bq128_1), (129, bq129_0), (130, bq130_0), (130, bq130_1), (130, bq130_2), (130, bq130_3), (130, bq130_4), (130, bq130_5), (130, bq130_6), (130, bq130_7), (131, bq131_0), (131, bq131_1), (131, bq131_2), (131, bq131_3), (131, bq131_4), (131, bq131_5), (131, bq131_6), (131, bq131_7), (132, bq132_0), (133, bq133_0), (134, bq134_0), (135, bq135_0), (136, bq136_0), (137, bq137_0), (138, bq138_0), (138, bq138_1), (139, bq139_0), (140, bq140_0), (140, bq140_1), (140, bq140_2), (141, bq141_0), (141, bq141_1), (141, bq141_2), (141, bq141_3), (141, bq141_4), (142, bq142_0), (143, bq143_0), (143, bq143_1), (143, bq143_2), (143, bq143_3), (143, bq143_4), (143, bq143_5), (144, bq144_0), (145, bq145_0), (146, bq146_0), (147, bq147_0), (147, bq147_1), (147, bq147_2), (147, bq147_3), (148, bq148_0), (149, bq149_0), (149, bq149_1), (149, bq149_2), (150, bq150_0), (151, bq151_0), (151, bq151_1), (151, bq151_2), (151, bq151_3), (151, bq151_4), (152, bq152_0), (153, bq153_0), (154, bq154_0), (155, bq155_0), (156, bq156_0), (157, bq157_0), (158, bq158_0), (159, bq159_0), (159, bq159_1), (159, bq159_2), (159, bq159_3), (159, bq159_4), (159, bq159_5), (159, bq159_6), (160, bq160_0), (161, bq161_0), (162, bq162_0), (162, bq162_1), (163, bq163_0), (164, bq164_0), (165, bq165_0), (166, bq166_0), (166, bq166_1), (166, bq166_2), (166, bq166_3), (166, bq166_4), (166, bq166_5), (167, bq167_0), (168, bq168_0), (169, bq169_0)]
set_option maxRecDepth 100000 in
theorem mm_bqs_ok : ∀ q ∈ mm_bqs, ∃ hs, mm_chkM q.1 q.2 hs = true := List.forall_mem_cons.mpr ⟨⟨hq0_0, cq0_0⟩, List.forall_mem_cons.mpr ⟨⟨hq1_0, cq1_0⟩, List.forall_mem_cons.mpr ⟨⟨hq3_0, cq3_0⟩, List.forall_mem_cons.mpr ⟨⟨hq4_0, cq4_0⟩, List.forall_mem_cons.mpr ⟨⟨hq5_0, cq5_0⟩, List.forall_mem_cons.mpr ⟨⟨hq6_0, cq6_0⟩, List.forall_mem_cons.mpr ⟨⟨hq7_0, cq7_0⟩, List.forall_mem_cons.mpr ⟨⟨hq8_0, cq8_0⟩, List.forall_mem_cons.mpr ⟨⟨hq8_1, cq8_1⟩, List.forall_mem_cons.mpr ⟨⟨hq9_0, cq9_0⟩, List.forall_mem_cons.mpr ⟨⟨hq10_0, cq10_0⟩, List.forall_mem_cons.mpr ⟨⟨hq11_0, cq11_0⟩, List.forall_mem_cons.mpr ⟨⟨hq12_0, cq12_0⟩, List.forall_mem_cons.mpr ⟨⟨hq13_0, cq13_0⟩, List.forall_mem_cons.mpr ⟨⟨hq14_0, cq14_0⟩, List.forall_mem_cons.mpr ⟨⟨hq15_0, cq15_0⟩, List.forall_mem_cons.mpr ⟨⟨hq16_0, cq16_0⟩, List.forall_mem_cons.mpr ⟨⟨hq17_0, cq17_0⟩, List.forall_mem_cons.mpr ⟨⟨hq18_0, cq18_0⟩, List.forall_mem_cons.mpr ⟨⟨hq19_0, cq19_0⟩, List.forall_mem_cons.mpr ⟨⟨hq20_0, cq20_0⟩, List.forall_mem_cons.mpr ⟨⟨hq21_0, cq21_0⟩, List.forall_mem_cons.mpr ⟨⟨hq22_0, cq22_0⟩, List.forall_mem_cons.mpr ⟨⟨hq23_0, cq23_0⟩, List.forall_mem_cons.mpr ⟨⟨hq24_0, cq24_0⟩, List.forall_mem_cons.mpr ⟨⟨hq25_0, cq25_0⟩, List.forall_mem_cons.mpr ⟨⟨hq26_0, cq26_0⟩, List.forall_mem_cons.mpr ⟨⟨hq27_0, cq27_0⟩, List.forall_mem_cons.mpr ⟨⟨hq27_1, cq27_1⟩, List.forall_mem_cons.mpr ⟨⟨hq28_0, cq28_0⟩, List.forall_mem_cons.mpr ⟨⟨hq29_0, cq29_0⟩, List.forall_mem_cons.mpr ⟨⟨hq30_0, cq30_0⟩, List.forall_mem_cons.mpr ⟨⟨hq30_1, cq30_1⟩, List.forall_mem_cons.mpr ⟨⟨hq31_0, cq31_0⟩, List.forall_mem_cons.mpr ⟨⟨hq32_0, cq32_0⟩, List.forall_mem_cons.mpr ⟨⟨hq32_1, cq32_1⟩, List.forall_mem_cons.mpr ⟨⟨hq33_0, cq33_0⟩, List.forall_mem_cons.mpr ⟨⟨hq34_0, cq34_0⟩, List.forall_mem_cons.mpr ⟨⟨hq35_0, cq35_0⟩, List.forall_mem_cons.mpr ⟨⟨hq36_0, cq36_0⟩, List.forall_mem_cons.mpr ⟨⟨hq37_0, cq37_0⟩, List.forall_mem_cons.mpr ⟨⟨hq38_0, cq38_0⟩, List.forall_mem_cons.mpr ⟨⟨hq39_0, cq39_0⟩, List.forall_mem_cons.mpr ⟨⟨hq40_0, cq40_0⟩, List.forall_mem_cons.mpr ⟨⟨hq41_0, cq41_0⟩, List.forall_mem_cons.mpr ⟨⟨hq42_0, cq42_0⟩, List.forall_mem_cons.mpr ⟨⟨hq43_0, cq43_0⟩, List.forall_mem_cons.mpr ⟨⟨hq59_0, cq59_0⟩, List.forall_mem_cons.mpr ⟨⟨hq87_0, cq87_0⟩, List.forall_mem_cons.mpr ⟨⟨hq88_0, cq88_0⟩, List.forall_mem_cons.mpr ⟨⟨hq88_1, cq88_1⟩, List.forall_mem_cons.mpr ⟨⟨hq97_0, cq97_0⟩, List.forall_mem_cons.mpr ⟨⟨hq98_0, cq98_0⟩, List.forall_mem_cons.mpr ⟨⟨hq108_0, cq108_0⟩, List.forall_mem_cons.mpr ⟨⟨hq109_0, cq109_0⟩, List.forall_mem_cons.mpr ⟨⟨hq109_1, cq109_1⟩, List.forall_mem_cons.mpr ⟨⟨hq110_0, cq110_0⟩, List.forall_mem_cons.mpr ⟨⟨hq110_1, cq110_1⟩, List.forall_mem_cons.mpr ⟨⟨hq110_2, cq110_2⟩, List.forall_mem_cons.mpr ⟨⟨hq110_3, cq110_3⟩, List.forall_mem_cons.mpr ⟨⟨hq110_4, cq110_4⟩, List.forall_mem_cons.mpr ⟨⟨hq110_5, cq110_5⟩, List.forall_mem_cons.mpr ⟨⟨hq111_0, cq111_0⟩, List.forall_mem_cons.mpr ⟨⟨hq111_1, cq111_1⟩, List.forall_mem_cons.mpr ⟨⟨hq111_2, cq111_2⟩, List.forall_mem_cons.mpr ⟨⟨hq111_3, cq111_3⟩, List.forall_mem_cons.mpr ⟨⟨hq111_4, cq111_4⟩, List.forall_mem_cons.mpr ⟨⟨hq111_5, cq111_5⟩, List.forall_mem_cons.mpr ⟨⟨hq112_0, cq112_0⟩, List.forall_mem_cons.mpr ⟨⟨hq113_0, cq113_0⟩, List.forall_mem_cons.mpr ⟨⟨hq114_0, cq114_0⟩, List.forall_mem_cons.mpr ⟨⟨hq115_0, cq115_0⟩, List.forall_mem_cons.mpr ⟨⟨hq116_0, cq116_0⟩, List.forall_mem_cons.mpr ⟨⟨hq117_0, cq117_0⟩, List.forall_mem_cons.mpr ⟨⟨hq117_1, cq117_1⟩, List.forall_mem_cons.mpr ⟨⟨hq118_0, cq118_0⟩, List.forall_mem_cons.mpr ⟨⟨hq118_1, cq118_1⟩, List.forall_mem_cons.mpr ⟨⟨hq119_0, cq119_0⟩, List.forall_mem_cons.mpr ⟨⟨hq119_1, cq119_1⟩, List.forall_mem_cons.mpr ⟨⟨hq119_2, cq119_2⟩, List.forall_mem_cons.mpr ⟨⟨hq120_0, cq120_0⟩, List.forall_mem_cons.mpr ⟨⟨hq121_0, cq121_0⟩, List.forall_mem_cons.mpr ⟨⟨hq122_0, cq122_0⟩, List.forall_mem_cons.mpr ⟨⟨hq123_0, cq123_0⟩, List.forall_mem_cons.mpr ⟨⟨hq124_0, cq124_0⟩, List.forall_mem_cons.mpr ⟨⟨hq125_0, cq125_0⟩, List.forall_mem_cons.mpr ⟨⟨hq125_1, cq125_1⟩, List.forall_mem_cons.mpr ⟨⟨hq126_0, cq126_0⟩, List.forall_mem_cons.mpr ⟨⟨hq126_1, cq126_1⟩, List.forall_mem_cons.mpr ⟨⟨hq127_0, cq127_0⟩, List.forall_mem_cons.mpr ⟨⟨hq128_0, cq128_0⟩, List.forall_mem_cons.mpr ⟨⟨hq128_1, cq128_1⟩, List.forall_mem_cons.mpr ⟨⟨hq129_0, cq129_0⟩, List.forall_mem_cons.mpr ⟨⟨hq130_0, cq130_0⟩, List.forall_mem_cons.mpr ⟨⟨hq130_1, cq130_1⟩, List.forall_mem_cons.mpr ⟨⟨hq130_2, cq130_2⟩, List.forall_mem_cons.mpr ⟨⟨hq130_3, cq130_3⟩, List.forall_mem_cons.mpr ⟨⟨hq130_4, cq130_4⟩, List.forall_mem_cons.mpr ⟨⟨hq130_5, cq130_5⟩, List.forall_mem_cons.mpr ⟨⟨hq130_6, cq130_6⟩, List.forall_mem_cons.mpr ⟨⟨hq130_7, cq130_7⟩, List.forall_mem_cons.mpr ⟨⟨hq131_0, cq131_0⟩, List.forall_mem_cons.mpr ⟨⟨hq131_1, cq131_1⟩, List.forall_mem_cons.mpr ⟨⟨hq131_2, cq131_2⟩, List.forall_mem_cons.mpr ⟨⟨hq131_3, cq131_3⟩, List.forall_mem_cons.mpr ⟨⟨hq131_4, cq131_4⟩, List.forall_mem_cons.mpr ⟨⟨hq131_5, cq131_5⟩, List.forall_mem_cons.mpr ⟨⟨hq131_6, cq131_6⟩, List.forall_mem_cons.mpr ⟨⟨hq131_7, cq131_7⟩, List.forall_mem_cons.mpr ⟨⟨hq132_0, cq132_0⟩, List.forall_mem_cons.mpr ⟨⟨hq133_0, cq133_0⟩, List.forall_mem_cons.mpr ⟨⟨hq134_0, cq134_0⟩, List.forall_mem_cons.mpr ⟨⟨hq135_0, cq135_0⟩, List.forall_mem_cons.mpr ⟨⟨hq136_0, cq136_0⟩, List.forall_mem_cons.mpr ⟨⟨hq137_0, cq137_0⟩, List.forall_mem_cons.mpr ⟨⟨hq138_0, cq138_0⟩, List.forall_mem_cons.mpr ⟨⟨hq138_1, cq138_1⟩, List.forall_mem_cons.mpr ⟨⟨hq139_0, cq139_0⟩, List.forall_mem_cons.mpr ⟨⟨hq140_0, cq140_0⟩, List.forall_mem_cons.mpr ⟨⟨hq140_1, cq140_1⟩, List.forall_mem_cons.mpr ⟨⟨hq140_2, cq140_2⟩, List.forall_mem_cons.mpr ⟨⟨hq141_0, cq141_0⟩, List.forall_mem_cons.mpr ⟨⟨hq141_1, cq141_1⟩, List.forall_mem_cons.mpr ⟨⟨hq141_2, cq141_2⟩, List.forall_mem_cons.mpr ⟨⟨hq141_3, cq141_3⟩, List.forall_mem_cons.mpr ⟨⟨hq141_4, cq141_4⟩, List.forall_mem_cons.mpr ⟨⟨hq142_0, cq142_0⟩, List.forall_mem_cons.mpr ⟨⟨hq143_0, cq143_0⟩, List.forall_mem_cons.mpr ⟨⟨hq143_1, cq143_1⟩, List.forall_mem_cons.mpr ⟨⟨hq143_2, cq143_2⟩, List.forall_mem_cons.mpr ⟨⟨hq143_3, cq143_3⟩, List.forall_mem_cons.mpr ⟨⟨hq143_4, cq143_4⟩, List.forall_mem_cons.mpr ⟨⟨hq143_5, cq143_5⟩, List.forall_mem_cons.mpr ⟨⟨hq144_0, cq144_0⟩, List.forall_mem_cons.mpr ⟨⟨hq145_0, cq145_0⟩, List.forall_mem_cons.mpr ⟨⟨hq146_0, cq146_0⟩, List.forall_mem_cons.mpr ⟨⟨hq147_0, cq147_0⟩, List.forall_mem_cons.mpr ⟨⟨hq147_1, cq147_1⟩, List.forall_mem_cons.mpr ⟨⟨hq147_2, cq147_2⟩, List.forall_mem_cons.mpr ⟨⟨hq147_3, cq147_3⟩, List.forall_mem_cons.mpr ⟨⟨hq148_0, cq148_0⟩, List.forall_mem_cons.mpr ⟨⟨hq149_0, cq149_0⟩, List.forall_mem_cons.mpr ⟨⟨hq149_1, cq149_1⟩, List.forall_mem_cons.mpr ⟨⟨hq149_2, cq149_2⟩, List.forall_mem_cons.mpr ⟨⟨hq150_0, cq150_0⟩, List.forall_mem_cons.mpr ⟨⟨hq151_0, cq151_0⟩, List.forall_mem_cons.mpr ⟨⟨hq151_1, cq151_1⟩, List.forall_mem_cons.mpr ⟨⟨hq151_2, cq151_2⟩, List.forall_mem_cons.mpr ⟨⟨hq151_3, cq151_3⟩, List.forall_mem_cons.mpr ⟨⟨hq151_4, cq151_4⟩, List.forall_mem_cons.mpr ⟨⟨hq152_0, cq152_0⟩, List.forall_mem_cons.mpr ⟨⟨hq153_0, cq153_0⟩, List.forall_mem_cons.mpr ⟨⟨hq154_0, cq154_0⟩, List.forall_mem_cons.mpr ⟨⟨hq155_0, cq155_0⟩, List.forall_mem_cons.mpr ⟨⟨hq156_0, cq156_0⟩, List.forall_mem_cons.mpr ⟨⟨hq157_0, cq157_0⟩, List.forall_mem_cons.mpr ⟨⟨hq158_0, cq158_0⟩, List.forall_mem_cons.mpr ⟨⟨hq159_0, cq159_0⟩, List.forall_mem_cons.mpr ⟨⟨hq159_1, cq159_1⟩, List.forall_mem_cons.mpr ⟨⟨hq159_2, cq159_2⟩, List.forall_mem_cons.mpr ⟨⟨hq159_3, cq159_3⟩, List.forall_mem_cons.mpr ⟨⟨hq159_4, cq159_4⟩, List.forall_mem_cons.mpr ⟨⟨hq159_5, cq159_5⟩, List.forall_mem_cons.mpr ⟨⟨hq159_6, cq159_6⟩, List.forall_mem_cons.mpr ⟨⟨hq160_0, cq160_0⟩, List.forall_mem_cons.mpr ⟨⟨hq161_0, cq161_0⟩, List.forall_mem_cons.mpr ⟨⟨hq162_0, cq162_0⟩, List.forall_mem_cons.mpr ⟨⟨hq162_1, cq162_1⟩, List.forall_mem_cons.mpr ⟨⟨hq163_0, cq163_0⟩, List.forall_mem_cons.mpr ⟨⟨hq164_0, cq164_0⟩, List.forall_mem_cons.mpr ⟨⟨hq165_0, cq165_0⟩, List.forall_mem_cons.mpr ⟨⟨hq166_0, cq166_0⟩, List.forall_mem_cons.mpr ⟨⟨hq166_1, cq166_1⟩, List.forall_mem_cons.mpr ⟨⟨hq166_2, cq166_2⟩, List.forall_mem_cons.mpr ⟨⟨hq166_3, cq166_3⟩, List.forall_mem_cons.mpr ⟨⟨hq166_4, cq166_4⟩, List.forall_mem_cons.mpr ⟨⟨hq166_5, cq166_5⟩, List.forall_mem_cons.mpr ⟨⟨hq167_0, cq167_0⟩, List.forall_mem_cons.mpr ⟨⟨hq168_0, cq168_0⟩, List.forall_mem_cons.mpr ⟨⟨hq169_0, cq169_0⟩, List.forall_mem_nil _⟩⟩⟩⟩⟩⟩⟩⟩⟩⟩⟩⟩⟩⟩⟩⟩⟩⟩⟩⟩⟩⟩⟩⟩⟩⟩⟩⟩⟩⟩⟩⟩⟩⟩⟩⟩⟩⟩⟩⟩⟩⟩⟩⟩⟩⟩⟩⟩⟩⟩⟩⟩⟩⟩⟩⟩⟩⟩⟩⟩⟩⟩⟩⟩⟩⟩⟩⟩⟩⟩⟩⟩⟩⟩⟩⟩⟩⟩⟩⟩⟩⟩⟩⟩⟩⟩⟩⟩⟩⟩⟩⟩⟩⟩⟩⟩⟩⟩⟩⟩⟩⟩⟩⟩⟩⟩⟩⟩⟩⟩⟩⟩⟩⟩⟩⟩⟩⟩⟩⟩⟩⟩⟩⟩⟩⟩⟩⟩⟩⟩⟩⟩⟩⟩⟩⟩⟩⟩⟩⟩⟩⟩⟩⟩⟩⟩⟩⟩⟩⟩⟩⟩⟩⟩⟩⟩⟩⟩⟩⟩⟩⟩⟩⟩⟩⟩⟩⟩⟩⟩⟩⟩⟩⟩⟩⟩⟩⟩⟩⟩
def mm_blk (mi pc : Nat) : Option (List Instr) := mm_bqs.findSome? fun q => if q.1 = mi then q.2.lookup pc else none
theorem mm_lookup_at {pc : Nat} {is : List Instr} : ∀ {bs : List (Nat × List Instr)}, bs.lookup pc = some is → ∃ k : Nat, bs[k]? = some (pc, is)
  | [], h => by simp at h
  | (a, b) :: bs, h => by
    rw [List.lookup_cons] at h
    split at h
    · rename_i hq
      cases h
      exact ⟨0, by rw [beq_iff_eq.mp hq]; rfl⟩
    · obtain ⟨k, hk⟩ := mm_lookup_at h
      exact ⟨k + 1, by simpa using hk⟩
theorem mm_blk_chk {mi pc : Nat} {is : List Instr} (h : mm_blk mi pc = some is) : ∃ hs, mm_chk mi pc is hs = true := by
  obtain ⟨q, hq, hv⟩ := List.exists_of_findSome?_eq_some h
  split at hv
  · rename_i hm
    subst hm
    obtain ⟨hs, hok⟩ := mm_bqs_ok q hq
    obtain ⟨k, hk⟩ := mm_lookup_at hv
    exact mm_chkM_of hok hk
  · cases hv
end
section
/-! AN INTERPRETER of the small machine: what it comes to is what the real machine comes to -/
/-- the step reads no constant array -/
def mm_nz (i : Instr) (st : List mm_V) : Bool := match i with
  | .arraylength => (match st with
    | .inr (.inr (.inr _)) :: _ => false
    | _ => true)
  | .iaload => (match st with
    | _ :: .inr (.inr (.inr _)) :: _ => false
    | _ => true)
  | _ => true
theorem mm_s1_nz {K : Nat → List FieldType} {Z Z' : Nat → List Int32} {i : Instr} {L : mm_L} {st : List mm_V} {h : mm_H} (hn : mm_nz i st = true) : mm_s1 K Z i L st h = mm_s1 K Z' i L st h := by
  cases i <;> first
    | rfl
    | (rename_i t; cases t <;> rfl)
    | (obtain _ | ⟨x | x | (_ | a) | j, _ | ⟨y | y | (_ | b) | j2, r⟩⟩ := st <;> first | rfl | (simp [mm_nz] at hn))
def mm_swv (d : Nat) (x : Int32) : List (Int × Int) → Nat
  | [] => d
  | (k, t) :: ps => if x = Int32.ofInt k then t.toNat else mm_swv d x ps
theorem mm_swv_of {F : Nat → Prop} {d : Nat} {x : Int32} : ∀ {ps : List (Int × Int)}, F (mm_swv d x ps) → mm_sw F d x ps
  | [], h => h
  | (k, t) :: ps, h => by
    unfold mm_swv at h
    refine ⟨fun z => ?_, fun z => ?_⟩
    · rw [if_pos z] at h; exact h
    · rw [if_neg z] at h; exact mm_swv_of h
def mm_cmpb (c : Jvm.ClassFile.Cond) (x y : Int32) : Bool := match c with
  | .eq => decide (x = y)
  | .ne => !decide (x = y)
  | .lt => decide (x < y)
  | .ge => decide (y ≤ x)
  | .gt => decide (y < x)
  | .le => decide (x ≤ y)
theorem mm_cmpb_iff {c : Jvm.ClassFile.Cond} {x y : Int32} : mm_cmpb c x y = true ↔ mm_cmp c x y := by
  cases c <;> simp [mm_cmpb, mm_cmp]
def mm_rcvb (h : mm_H) (vs : List mm_V) (ci : Nat) : Bool := match vs with
  | .inr (.inr (.inl (some a))) :: _ => (match h.1[a]? with
    | some (.inl (c, _)) => c == ci
    | _ => false)
  | _ => false
theorem mm_rcvb_of {h : mm_H} {vs : List mm_V} {ci : Nat} (hb : mm_rcvb h vs ci = true) : mm_rcv h vs ci := by
  unfold mm_rcvb at hb
  unfold mm_rcv
  split at hb
  · rename_i a r
    split at hb
    · rename_i c fs hc
      exact ⟨fs, by rw [hc, beq_iff_eq.mp hb]⟩
    · cases hb
  · cases hb
abbrev mm_EV : Type := Nat → Nat → List Instr → mm_L → List mm_V → mm_H → Option (mm_A × mm_H)
def mm_evJ (ev : mm_EV) (d mi t : Nat) (L : mm_L) (st : List mm_V) (h : mm_H) : Option (mm_A × mm_H) := (mm_blk mi t).bind fun is' => ev d mi is' L st h
def mm_evC (ev : mm_EV) (d mi : Nat) (is : List Instr) (L : mm_L) (st : List mm_V) (h : mm_H) (m : Nat) : Option (mm_A × mm_H) := match d with
  | 0 => none
  | d' + 1 => if mm_na m ≤ st.length ∧ st.length ≤ 12 ∧ mm_hd m = [] ∧ (mm_argsL (st.take (mm_na m)).reverse).length ≤ mm_ml m then (mm_blk m 0).bind fun is' => (ev d' m is' (mm_ent (mm_ml m) (st.take (mm_na m)).reverse) [] h).bind fun r => match r.1 with
    | .inl none => ev (d' + 1) mi is L (st.drop (mm_na m)) r.2
    | .inl (some v) => ev (d' + 1) mi is L (v :: st.drop (mm_na m)) r.2
    | .inr e => some (.inr e, r.2)
    else none
/-- n: how many steps at most; d: how many calls deep at most -/
def mm_ev : Nat → mm_EV
  | 0, _, _, _, _, _, _ => none
  | _ + 1, _, _, [], _, _, _ => none
  | n + 1, d, mi, i :: is, L, st, h =>
    match i with
    | .goto t => mm_evJ (mm_ev n) d mi t.toNat L st h
    | .goto_w t => mm_evJ (mm_ev n) d mi t.toNat L st h
    | .if_icmp c t => (match st with
      | .inl y :: .inl x :: r => if mm_cmpb c x y = true then mm_evJ (mm_ev n) d mi t.toNat L r h else mm_ev n d mi is L r h
      | _ => none)
    | .ifCond c t => (match st with
      | .inl x :: r => if mm_cmpb c x 0 = true then mm_evJ (mm_ev n) d mi t.toNat L r h else mm_ev n d mi is L r h
      | _ => none)
    | .ifnull t => (match st with
      | .inr (.inr (.inl q)) :: r => if q = none then mm_evJ (mm_ev n) d mi t.toNat L r h else mm_ev n d mi is L r h
      | _ => none)
    | .ifnonnull t => (match st with
      | .inr (.inr (.inl q)) :: r => if ¬ q = none then mm_evJ (mm_ev n) d mi t.toNat L r h else mm_ev n d mi is L r h
      | _ => none)
    | .if_acmp .eq t => (match st with
      | .inr (.inr (.inl q)) :: .inr (.inr (.inl p)) :: r => if p = q then mm_evJ (mm_ev n) d mi t.toNat L r h else mm_ev n d mi is L r h
      | _ => none)
    | .if_acmp .ne t => (match st with
      | .inr (.inr (.inl q)) :: .inr (.inr (.inl p)) :: r => if ¬ p = q then mm_evJ (mm_ev n) d mi t.toNat L r h else mm_ev n d mi is L r h
      | _ => none)
    | .lookupswitch df ps => (match st with
      | .inl x :: r => mm_evJ (mm_ev n) d mi (mm_swv df.toNat x ps.toList) L r h
      | _ => none)
    | .invokestatic m => mm_evC (mm_ev n) d mi is L st h m
    | .putstatic _ => none
    | .invokevirtual m => if mm_rcvb h (st.take (mm_na m)).reverse (mm_ci m) then mm_evC (mm_ev n) d mi is L st h m else none
    | .invokespecial _ => (match st with
      | .inr (.inr (.inl (some _))) :: r => if r.length ≤ 12 then mm_ev n d mi is L r h else none
      | _ => none)
    | .checkcast e => if st.length ≤ 12 ∧ 1 ≤ h.2.1 ∧ 6 ≤ h.2.2 then some (aT e, (h.1, (h.2.1 - 1, h.2.2 - 6))) else none
    | .return_ => (match st with
      | [] => some (aV, h)
      | _ => none)
    | .ireturn => (match st with
      | [.inl x] => some (aX (vI x), h)
      | _ => none)
    | .freturn => (match st with
      | [.inl x] => if x = 0 ∨ x = 1 then some (aX (vI x), h) else none
      | _ => none)
    | .lreturn => none
    | .areturn => (match st with
      | [.inr (.inr (.inl q))] => some (aX (vQ q), h)
      | _ => none)
    | .fadd => (match st with
      | .inl y :: .inl x :: r => if r.length ≤ 12 then mm_ev n d mi is L (vI (if x < y then y else x) :: r) h else none
      | _ => none)
    | .fsub => (match st with
      | .inl y :: .inl x :: r => if r.length ≤ 12 then mm_ev n d mi is L (vI (if y < x then y else x) :: r) h else none
      | _ => none)
    | i => if mm_nz i st then (match mm_s1 mm_K (fun _ => []) i L st h with
      | some o => mm_ev n d mi is o.1 o.2.1 o.2.2
      | none => none) else none
end
section
theorem mm_call_of {Z : Nat → List Int32} {n d mi m : Nat} {is : List Instr} {L : mm_L} {st : List mm_V} {h h' : mm_H} {r : mm_A} {Post : mm_A → mm_H → Prop}
    (ih : ∀ (d mi : Nat) (is : List Instr) (L : mm_L) (st : List mm_V) (h : mm_H) (r : mm_A) (h' : mm_H), mm_hd mi = [] → mm_ev n d mi is L st h = some (r, h') → ∀ Post : mm_A → mm_H → Prop, Post r h' → mm_wp mm_K Z mm_na 6 mm_ci (fun t L st h => mm_P Z (d + 6) mi t L st h Post) (mm_C Z (d + 6)) Post is L st h)
    (hh : mm_hd mi = []) (hp : Post r h')
    (hc : mm_evC (mm_ev n) d mi is L st h m = some (r, h')) :
    mm_na m ≤ st.length ∧ st.length ≤ 12 ∧ mm_C Z (d + 6) m (st.take (mm_na m)).reverse h (mm_Kt Post (mm_wp mm_K Z mm_na 6 mm_ci (fun t L st h => mm_P Z (d + 6) mi t L st h Post) (mm_C Z (d + 6)) Post is L) (st.drop (mm_na m))) := by
  cases d with
  | zero => simp [mm_evC] at hc
  | succ d =>
    unfold mm_evC at hc
    simp only at hc
    split at hc
    · rename_i hq
      obtain ⟨q1, q2, q3, q4⟩ := hq
      refine ⟨q1, q2, ?_⟩
      obtain ⟨is', hb, hc⟩ := Option.bind_eq_some_iff.mp hc
      obtain ⟨⟨r1, h1⟩, hb2, hc⟩ := Option.bind_eq_some_iff.mp hc
      obtain ⟨hs, hchk⟩ := mm_blk_chk hb
      refine mm_G_of q4 (mm_sound (d := d + 6) (by omega) is' 0 hs _ _ _ (Or.inl q3) hchk (ih d m is' _ _ _ r1 h1 q3 hb2 _ ?_))
      obtain (_ | v) | e := r1
      · exact ih (d + 1) mi is _ _ _ r h' hh hc Post hp
      · exact ih (d + 1) mi is _ _ _ r h' hh hc Post hp
      · simp only [Option.some.injEq, Prod.mk.injEq] at hc
        obtain ⟨rfl, rfl⟩ := hc
        exact hp
    · cases hc
set_option maxHeartbeats 4000000 in
theorem mm_ev_wp {Z : Nat → List Int32} : ∀ (n d mi : Nat) (is : List Instr) (L : mm_L) (st : List mm_V) (h : mm_H) (r : mm_A) (h' : mm_H), mm_hd mi = [] → mm_ev n d mi is L st h = some (r, h') → ∀ Post : mm_A → mm_H → Prop, Post r h' → mm_wp mm_K Z mm_na 6 mm_ci (fun t L st h => mm_P Z (d + 6) mi t L st h Post) (mm_C Z (d + 6)) Post is L st h := by
  intro n
  induction n with
  | zero => intro d mi is L st h r h' _ he; simp [mm_ev] at he
  | succ n ih =>
    intro d mi is L st h r h' hh he Post hp
    have jump : ∀ (t : Nat) (L : mm_L) (st : List mm_V) (h : mm_H), mm_evJ (mm_ev n) d mi t L st h = some (r, h') → mm_P Z (d + 6) mi t L st h Post := by
      intro t L st h hj
      obtain ⟨is', hb, hj⟩ := Option.bind_eq_some_iff.mp hj
      obtain ⟨hs, hchk⟩ := mm_blk_chk hb
      exact mm_sound (by omega) is' t hs L st h (Or.inl hh) hchk (ih d mi is' L st h r h' hh hj Post hp)
    cases is with
    | nil => simp [mm_ev] at he
    | cons i is =>
      have go : ∀ (L : mm_L) (st : List mm_V) (h : mm_H), mm_ev n d mi is L st h = some (r, h') → mm_wp mm_K Z mm_na 6 mm_ci (fun t L st h => mm_P Z (d + 6) mi t L st h Post) (mm_C Z (d + 6)) Post is L st h := fun L st h hj => ih d mi is L st h r h' hh hj Post hp
      unfold mm_ev at he
      unfold mm_wp
      split at he
      · exact jump _ _ _ _ he
      · exact jump _ _ _ _ he
      · split at he
        · split at he
          · rename_i hc; exact ⟨fun _ => jump _ _ _ _ he, fun z => absurd (mm_cmpb_iff.mp hc) z⟩
          · rename_i hc; exact ⟨fun z => absurd (mm_cmpb_iff.mpr z) hc, fun _ => go _ _ _ he⟩
        · cases he
      · split at he
        · split at he
          · rename_i hc; exact ⟨fun _ => jump _ _ _ _ he, fun z => absurd (mm_cmpb_iff.mp hc) z⟩
          · rename_i hc; exact ⟨fun z => absurd (mm_cmpb_iff.mpr z) hc, fun _ => go _ _ _ he⟩
        · cases he
      · split at he
        · split at he
          · rename_i hc; exact ⟨fun _ => jump _ _ _ _ he, fun z => absurd hc z⟩
          · rename_i hc; exact ⟨fun z => absurd z hc, fun _ => go _ _ _ he⟩
        · cases he
      · split at he
        · split at he
          · rename_i hc; exact ⟨fun _ => jump _ _ _ _ he, fun z => absurd z hc⟩
          · rename_i hc; exact ⟨fun z => absurd z hc, fun _ => go _ _ _ he⟩
        · cases he
      · split at he
        · split at he
          · rename_i hc; exact ⟨fun _ => jump _ _ _ _ he, fun z => absurd hc z⟩
          · rename_i hc; exact ⟨fun z => absurd z hc, fun _ => go _ _ _ he⟩
        · cases he
      · split at he
        · split at he
          · rename_i hc; exact ⟨fun _ => jump _ _ _ _ he, fun z => absurd z hc⟩
          · rename_i hc; exact ⟨fun z => absurd z hc, fun _ => go _ _ _ he⟩
        · cases he
      · split at he
        · exact mm_swv_of (jump _ _ _ _ he)
        · cases he
      · exact mm_call_of ih hh hp he
      · cases he
      · split at he
        · rename_i hrc
          obtain ⟨q1, q2, q3⟩ := mm_call_of ih hh hp he
          exact ⟨q1, q2, mm_rcvb_of hrc, q3⟩
        · cases he
      · split at he
        · split at he
          · rename_i hc; exact ⟨hc, go _ _ _ he⟩
          · cases he
        · cases he
      · split at he
        · rename_i hc
          simp only [Option.some.injEq, Prod.mk.injEq] at he
          obtain ⟨rfl, rfl⟩ := he
          exact ⟨hc.1, hc.2.1, hc.2.2, hp⟩
        · cases he
      · split at he
        · simp only [Option.some.injEq, Prod.mk.injEq] at he
          obtain ⟨rfl, rfl⟩ := he
          exact ⟨rfl, hp⟩
        · cases he
      · split at he
        · simp only [Option.some.injEq, Prod.mk.injEq] at he
          obtain ⟨rfl, rfl⟩ := he
          exact hp
        · cases he
      · split at he
        · split at he
          · rename_i hc
            simp only [Option.some.injEq, Prod.mk.injEq] at he
            obtain ⟨rfl, rfl⟩ := he
            exact ⟨hc, hp⟩
          · cases he
        · cases he
      · cases he
      · split at he
        · simp only [Option.some.injEq, Prod.mk.injEq] at he
          obtain ⟨rfl, rfl⟩ := he
          exact hp
        · cases he
      · split at he
        · split at he
          · rename_i hc; exact ⟨hc, go _ _ _ he⟩
          · cases he
        · cases he
      · split at he
        · split at he
          · rename_i hc; exact ⟨hc, go _ _ _ he⟩
          · cases he
        · cases he
      · split at he
        · rename_i hnz
          rw [mm_s1_nz (Z' := Z) hnz] at he
          split at he
          · rename_i o ho
            split <;> first
              | (rw [ho]; exact go _ _ _ he)
              | contradiction
          · cases he
        · cases he
/-- a method's contract by the interpreter -/
theorem mm_ev_G {Z : Nat → List Int32} {n d mi : Nat} {is : List Instr} {vs : List mm_V} {h h' : mm_H} {r : mm_A} {Post : mm_A → mm_H → Prop} (hh : mm_hd mi = []) (hl : (mm_argsL vs).length ≤ mm_ml mi) (hb : mm_blk mi 0 = some is) (he : mm_ev n d mi is (mm_ent (mm_ml mi) vs) [] h = some (r, h')) (hp : Post r h') : mm_G Z (d + 6) mi vs h Post := by
  obtain ⟨hs, hchk⟩ := mm_blk_chk hb
  exact mm_G_of hl (mm_sound (by omega) is 0 hs _ _ _ (Or.inl hh) hchk (mm_ev_wp n d mi is _ _ _ r h' hh he Post hp))
/-- run the method mi -/
def mm_run (n d mi : Nat) (vs : List mm_V) (h : mm_H) : Option (mm_A × mm_H) := if mm_hd mi = [] ∧ (mm_argsL vs).length ≤ mm_ml mi then (mm_blk mi 0).bind fun is => mm_ev n d mi is (mm_ent (mm_ml mi) vs) [] h else none
theorem mm_run_G {Z : Nat → List Int32} {n d mi : Nat} {vs : List mm_V} {h h' : mm_H} {r : mm_A} {Post : mm_A → mm_H → Prop} (he : mm_run n d mi vs h = some (r, h')) (hp : Post r h') : mm_G Z (d + 6) mi vs h Post := by
  unfold mm_run at he
  split at he
  · rename_i hc
    obtain ⟨is, hb, he⟩ := Option.bind_eq_some_iff.mp he
    exact mm_ev_G hc.1 hc.2 hb he hp
  · cases he
end
section
/-! THE LAW'S LOOP, at most one call -/
theorem mm_F_le {Z : Nat → List Int32} {mi d d' : Nat} {p : Program} {e : Env} {R : Room} {s : State} {m : MethodId} {meth : Method} {c : Code} {D : va_G} {cT : Nat → ClassId} {zt : Nat → Nat} {A : Nat → Prop} (h : d ≤ d') (hF : mm_F Z mi d' p e R s m meth c D cT zt A) : mm_F Z mi d p e R s m meth c D cT zt A := by
  obtain ⟨hx, htr, hb, hr, hml, hown, hnm, hlk, hex, hd1, hd2, hA, hTb⟩ := hF
  exact ⟨hx, htr, hb, hr, hml, hown, hnm, hlk, hex, by omega, by omega, hA, hTb⟩
theorem mm_G_le {Z : Nat → List Int32} {mi d d' : Nat} {vs : List mm_V} {h : mm_H} {Post : mm_A → mm_H → Prop} (hd : d ≤ d') (hG : mm_G Z d mi vs h Post) : mm_G Z d' mi vs h Post := fun p l e R s m below meth c D cT zt A rho hF => hG p l e R s m below meth c D cT zt A rho (mm_F_le hd hF)
theorem mm_at_blk {Z : Nat → List Int32} {d mi pc : Nat} {is : List Instr} {L : mm_L} {st : List mm_V} {h : mm_H} {Post : mm_A → mm_H → Prop} (hb : mm_blk mi pc = some is) (hd : 6 ≤ d) (hh : mm_hd mi = [] ∨ is.all mm_nc = true) (hw : mm_wp mm_K Z mm_na 6 mm_ci (fun t L st h => mm_P Z d mi t L st h Post) (mm_C Z d) Post is L st h) : mm_P Z d mi pc L st h Post := by
  obtain ⟨hs, hchk⟩ := mm_blk_chk hb
  exact mm_sound hd is pc hs L st h hh hchk hw
/-- steps that go on -/
def mm_s1ok (i : Instr) : Bool := match i with
  | .goto _ => false
  | .goto_w _ => false
  | .if_icmp _ _ => false
  | .ifCond _ _ => false
  | .ifnull _ => false
  | .ifnonnull _ => false
  | .if_acmp _ _ => false
  | .lookupswitch _ _ => false
  | .invokestatic _ => false
  | .putstatic _ => false
  | .invokevirtual _ => false
  | .invokespecial _ => false
  | .checkcast _ => false
  | .return_ => false
  | .ireturn => false
  | .freturn => false
  | .lreturn => false
  | .areturn => false
  | .fadd => false
  | .fsub => false
  | _ => true
theorem mm_st {K : Nat → List FieldType} {Z : Nat → List Int32} {nA : Nat → Nat} {nE : Nat} {ci : Nat → Nat} {J : Nat → mm_L → List mm_V → mm_H → Prop} {C : Nat → List mm_V → mm_H → (mm_A → mm_H → Prop) → Prop} {Q : mm_A → mm_H → Prop} {i : Instr} {is : List Instr} {L L' : mm_L} {st st' : List mm_V} {h h' : mm_H} (hi : mm_s1ok i = true) (hs : mm_s1 K Z i L st h = some (L', st', h')) (hk : mm_wp K Z nA nE ci J C Q is L' st' h') : mm_wp K Z nA nE ci J C Q (i :: is) L st h := by
  unfold mm_wp
  split <;> first
    | (simp [mm_s1ok] at hi; done)
    | (rw [hs]; exact hk)
/-! A FIRST CALL WITH A NUMBER -/
theorem mm_End_mono {R : Room} {s : State} {below : List Frame} {D : va_G} {cT : Nat → ClassId} {zt : Nat → Nat} {A : Nat → Prop} {rho0 : List Nat} {P Q : mm_A → mm_H → Prop} (hPQ : ∀ r h, P r h → Q r h) {t : State} (h : mm_End R s below D cT zt A rho0 P t) : mm_End R s below D cT zt A rho0 Q t := by
  obtain ⟨r, h', rho, o, Lc, k, n, hp, hrest⟩ := h
  exact ⟨r, h', rho, o, Lc, k, n, hPQ r h' hp, hrest⟩
theorem mm_G_mono {Z : Nat → List Int32} {d mi : Nat} {vs : List mm_V} {h : mm_H} {P Q : mm_A → mm_H → Prop} (hG : mm_G Z d mi vs h P) (hPQ : ∀ r h, P r h → Q r h) : mm_G Z d mi vs h Q := by
  intro p l e R s m below meth c D cT zt A rho hF h1 h2 h3 h4 h5 h6 h7 T hT X
  obtain ⟨t, a, b⟩ := hG p l e R s m below meth c D cT zt A rho hF h1 h2 h3 h4 h5 h6 h7 T hT X
  exact ⟨t, a, mm_End_mono hPQ b⟩
section MST
variable {Z : Nat → List Int32} {d : Nat} {J : Nat → mm_L → List mm_V → mm_H → Prop} {C : Nat → List mm_V → mm_H → (mm_A → mm_H → Prop) → Prop} {Q : mm_A → mm_H → Prop} {is : List Instr} {L : mm_L} {r : List mm_V} {h h' : mm_H}
theorem mm_gf {a ci k : Nat} {v : mm_V} (hf : mm_fld h a ci k = some v) (hk : mm_wp mm_K Z mm_na 6 mm_ci J C Q is L (v :: r) h) : mm_wp mm_K Z mm_na 6 mm_ci J C Q (.invokeinterface ci k :: is) L (vR a :: r) h := mm_st rfl (by simp [mm_s1, hf]) hk
theorem mm_pfi {a ci k : Nat} {x : Int32} (ht : (mm_K ci)[k]? = some .int) (hf : mm_put h a ci k (vI x) = some h') (hk : mm_wp mm_K Z mm_na 6 mm_ci J C Q is L r h') : mm_wp mm_K Z mm_na 6 mm_ci J C Q (.multianewarray ci k :: is) L (vI x :: vR a :: r) h := mm_st rfl (by simp [mm_s1, ht, hf]) hk
theorem mm_zi {i x : Int32} (hz : mm_zald Z 1 i = some x) (hk : mm_wp mm_K Z mm_na 6 mm_ci J C Q is L (vI x :: r) h) : mm_wp mm_K Z mm_na 6 mm_ci J C Q (.iaload :: is) L (vI i :: vZ 1 :: r) h := mm_st rfl (by simp [mm_s1, hz]) hk
/-- a call over the arguments vs -/
theorem mm_iv {m : Nat} {vs : List mm_V} {P : mm_A → mm_H → Prop} (hn : mm_na m = vs.length) (hl : vs.length + r.length ≤ 12) (hr : mm_rcvb h vs (mm_ci m) = true) (hG : mm_G Z d m vs h P) (hP : ∀ a h', P a h' → mm_Kt Q (mm_wp mm_K Z mm_na 6 mm_ci J (mm_C Z (d + 1)) Q is L) r a h') : mm_wp mm_K Z mm_na 6 mm_ci J (mm_C Z (d + 1)) Q (.invokevirtual m :: is) L (vs.reverse ++ r) h := by
  have h1 : (vs.reverse ++ r).take (mm_na m) = vs.reverse := by rw [hn, ← List.length_reverse]; exact List.take_left
  have h2 : (vs.reverse ++ r).drop (mm_na m) = r := by rw [hn, ← List.length_reverse]; exact List.drop_left
  show mm_na m ≤ (vs.reverse ++ r).length ∧ (vs.reverse ++ r).length ≤ 12 ∧ mm_rcv h ((vs.reverse ++ r).take (mm_na m)).reverse (mm_ci m) ∧ mm_C Z (d + 1) m ((vs.reverse ++ r).take (mm_na m)).reverse h (mm_Kt Q (mm_wp mm_K Z mm_na 6 mm_ci J (mm_C Z (d + 1)) Q is L) ((vs.reverse ++ r).drop (mm_na m)))
  rw [h1, h2, List.reverse_reverse]
  exact ⟨by rw [hn]; simp, by simp; omega, mm_rcvb_of hr, mm_G_mono hG hP⟩
end MST
section MSW
variable {Z : Nat → List Int32} {d : Nat} {J : Nat → mm_L → List mm_V → mm_H → Prop} {C : Nat → List mm_V → mm_H → (mm_A → mm_H → Prop) → Prop} {Q : mm_A → mm_H → Prop} {is : List Instr} {L : mm_L} {r : List mm_V} {h h' : mm_H}
theorem mm_cs {a : Nat} {i x : Int32} (hf : mm_iast h a 2 i (vp_nar .char x) = some h') (hk : mm_wp mm_K Z mm_na 6 mm_ci J C Q is L r h') : mm_wp mm_K Z mm_na 6 mm_ci J C Q (.castore :: is) L (vI x :: vI i :: vR a :: r) h := mm_st rfl (by simp [mm_s1, hf]) hk
theorem mm_ist {a : Nat} {i x : Int32} (hf : mm_iast h a 0 i x = some h') (hk : mm_wp mm_K Z mm_na 6 mm_ci J C Q is L r h') : mm_wp mm_K Z mm_na 6 mm_ci J C Q (.iastore :: is) L (vI x :: vI i :: vR a :: r) h := mm_st rfl (by simp [mm_s1, hf]) hk
theorem mm_al {a : Nat} {n : Int32} (hf : mm_len h a = some n) (hk : mm_wp mm_K Z mm_na 6 mm_ci J C Q is L (vI n :: r) h) : mm_wp mm_K Z mm_na 6 mm_ci J C Q (.arraylength :: is) L (vR a :: r) h := mm_st rfl (by simp [mm_s1, hf]) hk
/-- a static call over the arguments vs -/
theorem mm_is {m : Nat} {vs : List mm_V} {P : mm_A → mm_H → Prop} (hn : mm_na m = vs.length) (hl : vs.length + r.length ≤ 12) (hG : mm_G Z d m vs h P) (hP : ∀ a h', P a h' → mm_Kt Q (mm_wp mm_K Z mm_na 6 mm_ci J (mm_C Z (d + 1)) Q is L) r a h') : mm_wp mm_K Z mm_na 6 mm_ci J (mm_C Z (d + 1)) Q (.invokestatic m :: is) L (vs.reverse ++ r) h := by
  have h1 : (vs.reverse ++ r).take (mm_na m) = vs.reverse := by rw [hn, ← List.length_reverse]; exact List.take_left
  have h2 : (vs.reverse ++ r).drop (mm_na m) = r := by rw [hn, ← List.length_reverse]; exact List.drop_left
  show mm_na m ≤ (vs.reverse ++ r).length ∧ (vs.reverse ++ r).length ≤ 12 ∧ mm_C Z (d + 1) m ((vs.reverse ++ r).take (mm_na m)).reverse h (mm_Kt Q (mm_wp mm_K Z mm_na 6 mm_ci J (mm_C Z (d + 1)) Q is L) ((vs.reverse ++ r).drop (mm_na m)))
  rw [h1, h2, List.reverse_reverse]
  exact ⟨by rw [hn]; simp, by simp; omega, mm_G_mono hG hP⟩
end MSW
end
section
/-! LAYER TWO: the reference's methods over whole numbers. A value: a number (its 32 bits), a long, a place. A state: the reference's fields, its arrays. -/
abbrev nV : Type := Int ⊕ (Int64 ⊕ Nat)
abbrev nS : Type := (Nat → Int) × (Nat → Nat → Int)
abbrev nL : Type := List (Option nV)
abbrev nA : Type := Option Int
abbrev xI (x : Int) : nV := .inl x
abbrev xR (a : Nat) : nV := .inr (.inr a)
abbrev xJ (w : Int64) : nV := .inr (.inl w)
def ng (v : nV) : mm_V := match v with
  | .inl x => vI (Int32.ofInt x)
  | .inr (.inl w) => vJ w
  | .inr (.inr a) => vR a
def ngL (L : nL) : mm_L := L.map (Option.map ng)
def ngS (st : List nV) : List mm_V := st.map ng
def ngA (r : nA) : mm_A := .inl (r.map fun x => vI (Int32.ofInt x))
/-- the fields that are arrays, and where these lie; lengths and kinds by place -/
def n_refs : List Nat := [0, 0, 0, 0, 0, 26, 27, 28, 29, 30, 31, 32, 33, 34, 35, 36, 37, 0, 0, 38, 39, 40, 41, 0, 0, 0, 42, 43, 0, 0, 0, 0, 0, 0, 0, 44, 45, 46, 47, 48, 49, 50, 51, 0, 52, 53, 0, 54, 0, 0, 0, 0, 0, 0, 55, 56, 57]
def n_lens : List Nat := [120, 16, 16, 16, 16, 3200, 16, 800, 800, 64, 1920, 16, 1300, 1300, 1300, 1300, 9, 9, 300, 300, 300, 260, 120, 120, 70, 70, 16, 16, 600, 120, 24, 24]
def n_kds : List Nat := [2, 0, 0, 0, 0, 1, 0, 0, 0, 0, 2, 0, 0, 0, 0, 0, 0, 0, 0, 0, 0, 1, 0, 0, 0, 0, 0, 0, 1, 0, 0, 0]
def n_ref (k : Nat) : Nat := n_refs.getD k 0
def n_len (a : Nat) : Nat := n_lens.getD (a - 26) 0
def n_kd (a : Nat) : Nat := n_kds.getD (a - 26) 0
def n_cell (A : Nat → Nat → Int) (a : Nat) : mm_O := .inr (.inl (n_kd a, (List.range (n_len a)).map fun i => Int32.ofInt (A a i)))
def n_fv (S : Nat → Int) (k : Nat) : mm_V := if n_ref k = 0 then vI (Int32.ofInt (S k)) else vR (n_ref k)
def n_H (F T : List mm_O) (q : Nat × Nat) (s : nS) : mm_H := (F ++ (.inl (10, (List.range 57).map (n_fv s.1)) :: (List.range 32).map (fun j => n_cell s.2 (26 + j))) ++ T, q)
def n_upd (S : Nat → Int) (k : Nat) (x : Int) : Nat → Int := fun j => if j = k then x else S j
def n_updA (A : Nat → Nat → Int) (a i : Nat) (x : Int) : Nat → Nat → Int := fun b j => if b = a ∧ j = i then x else A b j
def n_rng (x : Int) : Prop := -2147483648 ≤ x ∧ x < 2147483648
section N1
variable {F T : List mm_O} {q : Nat × Nat} {s : nS}
theorem n_get25 (hF : F.length = 25) : (n_H F T q s).1[25]? = some (.inl (10, (List.range 57).map (n_fv s.1))) := by
  show (F ++ (_ :: _) ++ T)[25]? = _
  rw [List.append_assoc, List.getElem?_append_right (by omega), hF]
  rfl
theorem n_geta (hF : F.length = 25) {a : Nat} (h1 : 26 ≤ a) (h2 : a < 58) : (n_H F T q s).1[a]? = some (n_cell s.2 a) := by
  show (F ++ (_ :: _) ++ T)[a]? = _
  obtain ⟨j, rfl⟩ : ∃ j, a = 26 + j := ⟨a - 26, by omega⟩
  rw [List.append_assoc, List.getElem?_append_right (by omega), hF, List.cons_append, show 26 + j - 25 = j + 1 from by omega, List.getElem?_cons_succ, List.getElem?_append_left (by simp; omega), List.getElem?_map, List.getElem?_range (by omega)]
  rfl
end N1
section N2
variable {F T : List mm_O} {q : Nat × Nat} {s : nS}
theorem n_fld (hF : F.length = 25) {k : Nat} (hk : k < 57) : mm_fld (n_H F T q s) 25 10 k = some (n_fv s.1 k) := by
  unfold mm_fld
  rw [n_get25 hF]
  simp only [if_true]
  rw [List.getElem?_map, List.getElem?_range hk]
  rfl
theorem n_fv_upd {S : Nat → Int} {k : Nat} {x : Int} (h0 : n_ref k = 0) : ((List.range 57).map (n_fv S)).set k (vI (Int32.ofInt x)) = (List.range 57).map (n_fv (n_upd S k x)) := by
  refine List.ext_getElem (by simp) (fun i h1 h2 => ?_)
  rw [List.getElem_set]
  simp only [List.getElem_map, List.getElem_range]
  by_cases hi : k = i
  · subst hi
    simp [n_fv, n_upd, h0]
  · rw [if_neg hi]
    simp [n_fv, n_upd, Ne.symm hi]
theorem n_put (hF : F.length = 25) {k : Nat} {x : Int} (hk : k < 57) (h0 : n_ref k = 0) : mm_put (n_H F T q s) 25 10 k (vI (Int32.ofInt x)) = some (n_H F T q (n_upd s.1 k x, s.2)) := by
  unfold mm_put
  rw [n_get25 hF]
  simp only [List.length_map, List.length_range]
  rw [if_pos ⟨trivial, hk⟩, n_fv_upd h0]
  refine congrArg some (Prod.ext ?_ rfl)
  show (F ++ (_ :: _) ++ T).set 25 _ = F ++ (_ :: _) ++ T
  rw [List.append_assoc, List.set_append_right _ _ (by omega), hF, List.append_assoc]
  rfl
theorem n_toInt {x : Int} (h : n_rng x) : (Int32.ofInt x).toInt = x := Int32.toInt_ofInt_of_le (by have := h.1; omega) (by have := h.2; omega)
theorem n_ix {i : Int} {n : Nat} (h0 : 0 ≤ i) (h1 : i < n) (hn : n ≤ 134217728) : mm_ix (Int32.ofInt i) n = some i.toNat := by
  have e : (Int32.ofInt i).toInt = i := n_toInt ⟨by omega, by omega⟩
  unfold mm_ix
  rw [if_neg (by rw [Int32.lt_iff_toInt_lt, e]; show ¬ i < 0; omega)]
  have e2 : (Int32.ofInt i).toNatClampNeg = i.toNat := congrArg Int.toNat e
  rw [e2, if_pos (by omega)]
theorem n_len_le : ∀ a : Nat, n_len a ≤ 134217728 := by
  intro a
  unfold n_len
  by_cases h : a - 26 < 32
  · have : ∀ j : Nat, j < 32 → n_lens.getD j 0 ≤ 134217728 := by decide
    exact this _ h
  · rw [List.getD_eq_getElem?_getD, List.getElem?_eq_none (by show 32 ≤ a - 26; omega)]
    decide
theorem n_int (hF : F.length = 25) {a : Nat} (h1 : 26 ≤ a) (h2 : a < 58) {kd : Nat} (hk : n_kd a = kd) : mm_int (n_H F T q s) a kd = some ((List.range (n_len a)).map fun i => Int32.ofInt (s.2 a i)) := by
  unfold mm_int
  rw [n_geta hF h1 h2]
  simp only [n_cell, hk, if_true]
theorem n_iald (hF : F.length = 25) {a : Nat} (h1 : 26 ≤ a) (h2 : a < 58) {kd : Nat} (hk : n_kd a = kd) {i : Int} (h3 : 0 ≤ i ∧ i < n_len a) : mm_iald (n_H F T q s) a kd (Int32.ofInt i) = some (Int32.ofInt (s.2 a i.toNat)) := by
  unfold mm_iald
  rw [n_int hF h1 h2 hk, Option.bind_some, List.length_map, List.length_range, n_ix h3.1 h3.2 (n_len_le a), Option.bind_some, List.getElem?_map, List.getElem?_range (by omega)]
  rfl
theorem n_iast (hF : F.length = 25) {a : Nat} (h1 : 26 ≤ a) (h2 : a < 58) {kd : Nat} (hk : n_kd a = kd) {i x : Int} (h3 : 0 ≤ i ∧ i < n_len a) : mm_iast (n_H F T q s) a kd (Int32.ofInt i) (Int32.ofInt x) = some (n_H F T q (s.1, n_updA s.2 a i.toNat x)) := by
  unfold mm_iast
  rw [n_int hF h1 h2 hk, Option.bind_some, List.length_map, List.length_range, n_ix h3.1 h3.2 (n_len_le a), Option.map_some]
  refine congrArg some (Prod.ext ?_ rfl)
  have e1 : ((List.range (n_len a)).map fun i => Int32.ofInt (s.2 a i)).set i.toNat (Int32.ofInt x) = (List.range (n_len a)).map fun j => Int32.ofInt (n_updA s.2 a i.toNat x a j) := by
    refine List.ext_getElem (by simp) (fun j g1 g2 => ?_)
    rw [List.getElem_set]
    simp only [List.getElem_map, List.getElem_range]
    by_cases hj : i.toNat = j
    · subst hj
      simp [n_updA]
    · rw [if_neg hj]
      simp [n_updA, Ne.symm hj]
  rw [e1]
  show (F ++ (_ :: _) ++ T).set a _ = F ++ (_ :: _) ++ T
  obtain ⟨j, rfl⟩ : ∃ j, a = 26 + j := ⟨a - 26, by omega⟩
  rw [List.append_assoc, List.set_append_right _ _ (by omega), hF, List.append_assoc, show 26 + j - 25 = j + 1 from by omega]
  congr 1
  rw [List.cons_append, List.set_cons_succ, List.set_append_left _ _ (by simp; omega)]
  congr 2
  refine List.ext_getElem (by simp) (fun k g1 g2 => ?_)
  rw [List.getElem_set]
  simp only [List.getElem_map, List.getElem_range]
  by_cases hk2 : j = k
  · subst hk2
    rw [if_pos rfl]
    simp only [n_cell, hk]
  · rw [if_neg hk2]
    have e3 : (fun j' => Int32.ofInt (n_updA s.2 (26 + j) i.toNat x (26 + k) j')) = fun j' => Int32.ofInt (s.2 (26 + k) j') := by
      funext j'
      unfold n_updA
      rw [if_neg (by omega)]
    unfold n_cell
    rw [e3]
end N2
end
section
def n_cmp (c : Jvm.ClassFile.Cond) (x y : Int) : Prop := match c with
  | .eq => x = y
  | .ne => ¬ x = y
  | .lt => x < y
  | .ge => y ≤ x
  | .gt => y < x
  | .le => x ≤ y
theorem n_cmp_iff {c : Jvm.ClassFile.Cond} {x y : Int} (hx : n_rng x) (hy : n_rng y) : mm_cmp c (Int32.ofInt x) (Int32.ofInt y) ↔ n_cmp c x y := by
  have ex := n_toInt hx
  have ey := n_toInt hy
  have hq : Int32.ofInt x = Int32.ofInt y ↔ x = y := by rw [← Int32.toInt_inj, ex, ey]
  cases c <;> simp only [mm_cmp, n_cmp, hq, Int32.lt_iff_toInt_lt, Int32.le_iff_toInt_le, ex, ey]
theorem n_z : Int32.ofInt 0 = 0 := by decide
theorem n_rng0 : n_rng 0 := ⟨by decide, by decide⟩
def n_and (x y : Int) : Int := if y = 255 then x % 256 else if y = 15 then x % 16 else (Int32.ofInt x &&& Int32.ofInt y).toInt
def n_or (x y : Int) : Int := (Int32.ofInt x ||| Int32.ofInt y).toInt
def n_shl (x y : Int) : Int := (Int32.ofInt x <<< (Int32.ofInt y &&& 31)).toInt
def n_shr (x y : Int) : Int := (Int32.ofInt x >>> (Int32.ofInt y &&& 31)).toInt
def n_b (x : Int) : Int := (vp_nar .byte (Int32.ofInt x)).toInt
def n_c (x : Int) : Int := (vp_nar .char (Int32.ofInt x)).toInt
def n_i2b (x : Int) : Int := (Int32.ofInt x).toInt8.toInt32.toInt
def n_i2c (x : Int) : Int := ((Int32.ofInt x).toUInt32 % 65536).toInt32.toInt
def n_i2s (x : Int) : Int := (Int32.ofInt x).toInt16.toInt32.toInt
theorem n_back (z : Int32) : Int32.ofInt z.toInt = z := Int32.ofInt_toInt z
theorem n_andm {x : Int} {k m : Nat} (hk : k ≤ 31) (hm : m = 2 ^ k - 1) : Int32.ofInt x &&& Int32.ofInt (m : Int) = Int32.ofInt (x % (2 ^ k : Nat)) := by
  apply Int32.toBitVec_inj.mp
  rw [Int32.toBitVec_and]
  show BitVec.ofInt 32 x &&& BitVec.ofInt 32 (m : Int) = BitVec.ofInt 32 (x % (2 ^ k : Nat))
  apply BitVec.eq_of_toNat_eq
  have hp : 2 ^ k ≤ 2 ^ 31 := Nat.pow_le_pow_right (by decide) hk
  have hp1 : 0 < 2 ^ k := Nat.pos_of_ne_zero (by simp)
  rw [BitVec.toNat_and, BitVec.toNat_ofInt, BitVec.toNat_ofInt, BitVec.toNat_ofInt]
  have e : ((m : Int) % (2 ^ 32 : Nat)).toNat = 2 ^ k - 1 := by omega
  rw [e, Nat.and_two_pow_sub_one_eq_mod]
  have d : (2 ^ 32 : Nat) = 2 ^ k * 2 ^ (32 - k) := by rw [← Nat.pow_add]; congr 1; omega
  have h1 : x % (2 ^ 32 : Nat) % (2 ^ k : Nat) = x % (2 ^ k : Nat) := Int.emod_emod_of_dvd _ (by rw [d]; exact ⟨(2 ^ (32 - k) : Nat), by push_cast; rfl⟩)
  have h2 : 0 ≤ x % (2 ^ 32 : Nat) := Int.emod_nonneg _ (by omega)
  have h3 : 0 ≤ x % (2 ^ k : Nat) := Int.emod_nonneg _ (by omega)
  have h4 : x % (2 ^ k : Nat) < (2 ^ k : Nat) := Int.emod_lt_of_pos _ (by omega)
  rw [Int.emod_eq_of_lt h3 (by omega), ← h1, Int.toNat_emod h2 (by omega), Int.toNat_natCast]
theorem n_and_ok (x y : Int) : Int32.ofInt x &&& Int32.ofInt y = Int32.ofInt (n_and x y) := by
  unfold n_and
  split
  · rename_i h
    subst h
    exact n_andm (k := 8) (m := 255) (by decide) (by decide)
  · split
    · rename_i h
      subst h
      exact n_andm (k := 4) (m := 15) (by decide) (by decide)
    · rw [n_back]
def n_lj (o : Option (Option nV)) : Bool := match o with
  | some (some (.inr (.inl _))) => true
  | _ => false
def n_set (L : nL) (k : Nat) (v : nV) : Option nL := if k < L.length then (if k ≠ 0 ∧ n_lj L[k - 1]? = true then none else some (L.set k (some v))) else none
theorem n_lj_ok (o : Option (Option nV)) : mm_lj (o.map (Option.map ng)) = n_lj o := by
  obtain _ | _ | x | w | a := o <;> rfl
theorem n_set_ok {L L' : nL} {k : Nat} {v : nV} (h : n_set L k v = some L') : mm_set (ngL L) k (ng v) = some (ngL L') := by
  unfold n_set at h
  unfold mm_set
  have e : mm_lj (ngL L)[k - 1]? = n_lj L[k - 1]? := by
    unfold ngL
    rw [List.getElem?_map]
    exact n_lj_ok _
  rw [e]
  split at h
  · rename_i hk
    split at h
    · cases h
    · rename_i hj
      cases h
      rw [if_pos (by simpa [ngL] using hk), if_neg hj]
      simp [ngL, List.map_set]
  · cases h
/-- the same as tables that come to numbers -/
def n_refO : List (Option Nat) := [none, none, none, none, none, some 26, some 27, some 28, some 29, some 30, some 31, some 32, some 33, some 34, some 35, some 36, some 37, none, none, some 38, some 39, some 40, some 41, none, none, none, some 42, some 43, none, none, none, none, none, none, none, some 44, some 45, some 46, some 47, some 48, some 49, some 50, some 51, none, some 52, some 53, none, some 54, none, none, none, none, none, none, some 55, some 56, some 57]
def n_getf (s : nS) (k : Nat) : Option nV := match n_refO[k]? with
  | some (some a) => some (xR a)
  | some none => some (xI (s.1 k))
  | none => none
theorem n_refO_eq : n_refO = n_refs.map fun a => if a = 0 then none else some a := by decide
theorem n_getf_ok {s : nS} {k : Nat} {v : nV} (h : n_getf s k = some v) : k < 57 ∧ n_fv s.1 k = ng v := by
  unfold n_getf at h
  rw [n_refO_eq, List.getElem?_map] at h
  have hl : n_refs.length = 57 := by decide
  by_cases hk : k < 57
  · refine ⟨hk, ?_⟩
    have e : n_refs[k]? = some (n_ref k) := by
      unfold n_ref
      rw [List.getD_eq_getElem?_getD, List.getElem?_eq_getElem (by omega)]
      rfl
    rw [e] at h
    unfold n_fv
    by_cases h0 : n_ref k = 0
    · simp only [Option.map_some, h0, if_true, Option.some.injEq] at h
      subst h
      rw [if_pos h0]
      rfl
    · simp only [Option.map_some, h0, if_false, Option.some.injEq] at h
      subst h
      rw [if_neg h0]
      rfl
  · rw [List.getElem?_eq_none (by omega)] at h
    cases h
def n_arrs : List (Nat × Int) := [(2, 120), (0, 16), (0, 16), (0, 16), (0, 16), (1, 3200), (0, 16), (0, 800), (0, 800), (0, 64), (2, 1920), (0, 16), (0, 1300), (0, 1300), (0, 1300), (0, 1300), (0, 9), (0, 9), (0, 300), (0, 300), (0, 300), (1, 260), (0, 120), (0, 120), (0, 70), (0, 70), (0, 16), (0, 16), (1, 600), (0, 120), (0, 24), (0, 24)]
def n_arr (a : Nat) : Option (Nat × Int) := if a < 26 then none else n_arrs[a - 26]?
theorem n_arr_ok {a kd : Nat} {n : Int} (h : n_arr a = some (kd, n)) : 26 ≤ a ∧ a < 58 ∧ n_kd a = kd ∧ (n_len a : Int) = n := by
  unfold n_arr at h
  split at h
  · cases h
  · rename_i h1
    have hl : n_arrs.length = 32 := by decide
    have h2 : a - 26 < 32 := by
      have := (List.getElem?_eq_some_iff.mp h).1
      omega
    have q : ∀ j : Nat, j < 32 → n_arrs[j]? = some (n_kds.getD j 0, ((n_lens.getD j 0 : Nat) : Int)) := by decide
    rw [q _ h2] at h
    simp only [Option.some.injEq, Prod.mk.injEq] at h
    exact ⟨by omega, by omega, h.1, h.2⟩
def n_br (c : Jvm.ClassFile.Cond) (x y : Int) (P Q : Prop) : Prop := match c with
  | .eq => (x = y → P) ∧ (¬ x = y → Q)
  | .ne => (¬ x = y → P) ∧ (x = y → Q)
  | .lt => (x < y → P) ∧ (¬ x < y → Q)
  | .ge => (y ≤ x → P) ∧ (¬ y ≤ x → Q)
  | .gt => (y < x → P) ∧ (¬ y < x → Q)
  | .le => (x ≤ y → P) ∧ (¬ x ≤ y → Q)
theorem n_br_ok {c : Jvm.ClassFile.Cond} {x y : Int} {P Q : Prop} (h : n_br c x y P Q) : (n_cmp c x y → P) ∧ (¬ n_cmp c x y → Q) := by
  cases c
  · exact h
  · exact ⟨fun z => h.1 z, fun z => h.2 (Classical.not_not.mp z)⟩
  · exact h
  · exact h
  · exact h
  · exact h
def n_s1 (i : Instr) (L : nL) (st : List nV) (s : nS) : Option (nL × (List nV × nS)) := match i with
  | .sipush n => some (L, xI n :: st, s)
  | .iload k => (match L[k]? with
    | some (some (.inl x)) => some (L, xI x :: st, s)
    | _ => none)
  | .lload k => (match L[k]? with
    | some (some (.inr (.inl w))) => some (L, xJ w :: st, s)
    | _ => none)
  | .aload k => (match L[k]? with
    | some (some (.inr (.inr a))) => some (L, xR a :: st, s)
    | _ => none)
  | .istore k => (match st with
    | .inl x :: r => (n_set L k (xI x)).map fun L' => (L', r, s)
    | _ => none)
  | .iinc k n => (match L[k]? with
    | some (some (.inl x)) => (n_set L k (xI (x + n))).map fun L' => (L', st, s)
    | _ => none)
  | .invokeinterface ci k => (match st with
    | .inr (.inr a) :: r => if ci = 10 ∧ a = 25 then (match n_getf s k with
      | some v => some (L, v :: r, s)
      | none => none) else none
    | _ => none)
  | .pop => (match st with
    | .inl _ :: r => some (L, r, s)
    | _ => none)
  | .dup => (match st with
    | .inl x :: r => some (L, xI x :: xI x :: r, s)
    | .inr (.inr a) :: r => some (L, xR a :: xR a :: r, s)
    | _ => none)
  | .iadd => (match st with
    | .inl y :: .inl x :: r => some (L, xI (x + y) :: r, s)
    | _ => none)
  | .isub => (match st with
    | .inl y :: .inl x :: r => some (L, xI (x - y) :: r, s)
    | _ => none)
  | .imul => (match st with
    | .inl y :: .inl x :: r => some (L, xI (x * y) :: r, s)
    | _ => none)
  | .ineg => (match st with
    | .inl x :: r => some (L, xI (-x) :: r, s)
    | _ => none)
  | .iand => (match st with
    | .inl y :: .inl x :: r => some (L, xI (n_and x y) :: r, s)
    | _ => none)
  | .ior => (match st with
    | .inl y :: .inl x :: r => some (L, xI (n_or x y) :: r, s)
    | _ => none)
  | .ishl => (match st with
    | .inl y :: .inl x :: r => some (L, xI (n_shl x y) :: r, s)
    | _ => none)
  | .ishr => (match st with
    | .inl y :: .inl x :: r => some (L, xI (n_shr x y) :: r, s)
    | _ => none)
  | .i2b => (match st with
    | .inl x :: r => some (L, xI (n_i2b x) :: r, s)
    | _ => none)
  | .i2c => (match st with
    | .inl x :: r => some (L, xI (n_i2c x) :: r, s)
    | _ => none)
  | .i2s => (match st with
    | .inl x :: r => some (L, xI (n_i2s x) :: r, s)
    | _ => none)
  | .l2i => (match st with
    | .inr (.inl w) :: r => some (L, xI (w.toInt32.toInt) :: r, s)
    | _ => none)
  | .lushr => (match st with
    | .inl y :: .inr (.inl x) :: r => some (L, xJ (x.toUInt64 >>> ((Int32.ofInt y).toInt64.toUInt64 &&& Int64.toUInt64 63)).toInt64 :: r, s)
    | _ => none)
  | _ => none
theorem n_getL {L : nL} {k : Nat} {v : nV} (h : L[k]? = some (some v)) : (ngL L)[k]? = some (some (ng v)) := by
  unfold ngL
  rw [List.getElem?_map, h]
  rfl
set_option maxHeartbeats 1000000 in
theorem n_s1_ok {F T : List mm_O} {q : Nat × Nat} {Z : Nat → List Int32} {i : Instr} {L L' : nL} {st st' : List nV} {s s' : nS} (hF : F.length = 25) (h : n_s1 i L st s = some (L', st', s')) : mm_s1 mm_K Z i (ngL L) (ngS st) (n_H F T q s) = some (ngL L', ngS st', n_H F T q s') := by
  unfold n_s1 at h
  split at h
  · cases h; rfl
  · split at h
    · rename_i x hx
      cases h
      simp only [mm_s1, n_getL hx]
      rfl
    · cases h
  · split at h
    · rename_i x hx
      cases h
      simp only [mm_s1, n_getL hx]
      rfl
    · cases h
  · split at h
    · rename_i x hx
      cases h
      simp only [mm_s1, n_getL hx]
      rfl
    · cases h
  · split at h
    · obtain ⟨L2, h1, h2⟩ := Option.map_eq_some_iff.mp h
      cases h2
      show (mm_set (ngL L) _ (ng (xI _))).map _ = _
      rw [n_set_ok h1]
      rfl
    · cases h
  · split at h
    · rename_i x hx
      obtain ⟨L2, h1, h2⟩ := Option.map_eq_some_iff.mp h
      cases h2
      simp only [mm_s1, n_getL hx]
      have e := n_set_ok h1
      simp only [ng, Int32.ofInt_add] at e
      simp only [ng]
      rw [e]
      rfl
    · cases h
  · split at h
    · split at h
      · rename_i hc
        obtain ⟨rfl, rfl⟩ := hc
        split at h
        · rename_i v hv
          cases h
          have hk := n_getf_ok hv
          show (mm_fld (n_H F T q s) 25 10 _).map _ = _
          rw [n_fld hF hk.1, hk.2]
          rfl
        · cases h
      · cases h
    · cases h
  all_goals first
    | (split at h
       · cases h; rfl
       · cases h)
    | (split at h
       · cases h; rfl
       · cases h; rfl
       · cases h)
    | (split at h
       · cases h
         simp only [mm_s1, ngS, ng, List.map_cons, Int32.ofInt_add, Int32.ofInt_sub, Int32.ofInt_mul, Int32.ofInt_neg, n_and_ok, n_or, n_shl, n_shr, n_i2b, n_i2c, n_i2s, n_back]
       · cases h)
    | cases h
end
section
def n_Kt (G : List nV → nS → Prop) (rest : List nV) : nA → nS → Prop := fun r s => match r with
  | none => G rest s
  | some x => G (xI x :: rest) s
def n_sw (G : Nat → Prop) (d : Nat) (x : Int) : List (Int × Int) → Prop
  | [] => G d
  | (k, t) :: ps => n_rng k ∧ (x = k → G t.toNat) ∧ (¬ x = k → n_sw G d x ps)
theorem n_sw_ok {G G' : Nat → Prop} {d : Nat} {x : Int} (hx : n_rng x) (hG : ∀ t, G t → G' t) : ∀ ps : List (Int × Int), n_sw G d x ps → mm_sw G' d (Int32.ofInt x) ps
  | [], h => hG _ h
  | (k, t) :: ps, h => by
    obtain ⟨h0, h1, h2⟩ := h
    have e : Int32.ofInt x = Int32.ofInt k ↔ x = k := by rw [← Int32.toInt_inj, n_toInt hx, n_toInt h0]
    exact ⟨fun z => hG _ (h1 (e.mp z)), fun z => n_sw_ok hx hG ps (h2 (fun y => z (e.mpr y)))⟩
/-- A STRETCH over whole numbers: what must hold ahead of it -/
def wq (J : Nat → nL → List nV → nS → Prop) (C : Nat → List nV → nS → (nA → nS → Prop) → Prop) (Q : nA → nS → Prop) : List Instr → nL → List nV → nS → Prop
  | [], _, _, _ => False
  | i :: is, L, st, s => match i with
    | .goto t => J t.toNat L st s
    | .goto_w t => J t.toNat L st s
    | .if_icmp c t => (match st with
      | .inl y :: .inl x :: r => n_rng x ∧ n_rng y ∧ n_br c x y (J t.toNat L r s) (wq J C Q is L r s)
      | _ => False)
    | .ifCond c t => (match st with
      | .inl x :: r => n_rng x ∧ n_br c x 0 (J t.toNat L r s) (wq J C Q is L r s)
      | _ => False)
    | .lookupswitch d ps => (match st with
      | .inl x :: r => n_rng x ∧ n_sw (fun t => J t L r s) d.toNat x ps.toList
      | _ => False)
    | .invokestatic m => (mm_na m ≤ st.length ∧ st.length ≤ 12) ∧ C m (st.take (mm_na m)).reverse s (n_Kt (wq J C Q is L) (st.drop (mm_na m)))
    | .invokevirtual m => (mm_na m ≤ st.length ∧ st.length ≤ 12 ∧ (st.take (mm_na m)).reverse.head? = some (xR 25) ∧ mm_ci m = 10) ∧ C m (st.take (mm_na m)).reverse s (n_Kt (wq J C Q is L) (st.drop (mm_na m)))
    | .return_ => st = [] ∧ Q none s
    | .ireturn => (match st with
      | [.inl x] => Q (some x) s
      | _ => False)
    | .freturn => (match st with
      | [.inl x] => (x = 0 ∨ x = 1) ∧ Q (some x) s
      | _ => False)
    | .multianewarray ci k => (match st with
      | .inl x :: .inr (.inr a) :: r => if ci = 10 ∧ a = 25 ∧ k < 57 ∧ n_ref k = 0 then (if k = 28 then (x = 0 ∨ x = 1) ∧ wq J C Q is L r (n_upd s.1 k x, s.2) else wq J C Q is L r (n_upd s.1 k x, s.2)) else False
      | _ => False)
    | .iaload => (match st with
      | .inl i :: .inr (.inr a) :: r => (match n_arr a with
        | some (kd, n) => if kd = 0 then (0 ≤ i ∧ i < n) ∧ wq J C Q is L (xI (s.2 a i.toNat) :: r) s else False
        | none => False)
      | _ => False)
    | .baload => (match st with
      | .inl i :: .inr (.inr a) :: r => (match n_arr a with
        | some (kd, n) => if kd = 1 then (0 ≤ i ∧ i < n) ∧ wq J C Q is L (xI (s.2 a i.toNat) :: r) s else False
        | none => False)
      | _ => False)
    | .caload => (match st with
      | .inl i :: .inr (.inr a) :: r => (match n_arr a with
        | some (kd, n) => if kd = 2 then (0 ≤ i ∧ i < n) ∧ wq J C Q is L (xI (s.2 a i.toNat) :: r) s else False
        | none => False)
      | _ => False)
    | .iastore => (match st with
      | .inl x :: .inl i :: .inr (.inr a) :: r => (match n_arr a with
        | some (kd, n) => if kd = 0 then (0 ≤ i ∧ i < n) ∧ wq J C Q is L r (s.1, n_updA s.2 a i.toNat x) else False
        | none => False)
      | _ => False)
    | .bastore => (match st with
      | .inl x :: .inl i :: .inr (.inr a) :: r => (match n_arr a with
        | some (kd, n) => if kd = 1 then (0 ≤ i ∧ i < n) ∧ wq J C Q is L r (s.1, n_updA s.2 a i.toNat (n_b x)) else False
        | none => False)
      | _ => False)
    | .castore => (match st with
      | .inl x :: .inl i :: .inr (.inr a) :: r => (match n_arr a with
        | some (kd, n) => if kd = 2 then (0 ≤ i ∧ i < n) ∧ wq J C Q is L r (s.1, n_updA s.2 a i.toNat (n_c x)) else False
        | none => False)
      | _ => False)
    | i => (match n_s1 i L st s with
      | some (L', st', s') => wq J C Q is L' st' s'
      | none => False)
theorem n_args {st : List nV} {n : Nat} : ((ngS st).take n).reverse = (st.take n).reverse.map ng := by
  unfold ngS
  rw [← List.map_take, ← List.map_reverse]
theorem n_rcv {F T : List mm_O} {q : Nat × Nat} {s : nS} (hF : F.length = 25) {vs : List nV} (h : vs.head? = some (xR 25)) : mm_rcv (n_H F T q s) (vs.map ng) 10 := by
  obtain _ | ⟨v, vs⟩ := vs
  · cases h
  · simp only [List.head?_cons, Option.some.injEq] at h
    subst h
    exact ⟨_, n_get25 hF⟩
theorem n_K10 : ∀ k : Nat, k < 57 → n_ref k = 0 → (mm_K 10)[k]? = some (if k = 28 then .boolean else .int) := by decide +kernel
set_option maxHeartbeats 4000000 in
theorem wq_sound {F T : List mm_O} {q : Nat × Nat} (hF : F.length = 25) {Z : Nat → List Int32} {J : Nat → nL → List nV → nS → Prop} {C : Nat → List nV → nS → (nA → nS → Prop) → Prop} {Q : nA → nS → Prop} {J' : Nat → mm_L → List mm_V → mm_H → Prop} {C' : Nat → List mm_V → mm_H → (mm_A → mm_H → Prop) → Prop} {Q' : mm_A → mm_H → Prop}
    (hJ : ∀ t L st s, J t L st s → J' t (ngL L) (ngS st) (n_H F T q s))
    (hC : ∀ m vs s K K', (∀ r s, K r s → K' (ngA r) (n_H F T q s)) → C m vs s K → C' m (vs.map ng) (n_H F T q s) K')
    (hQ : ∀ r s, Q r s → Q' (ngA r) (n_H F T q s)) :
    ∀ (is : List Instr) (L : nL) (st : List nV) (s : nS), wq J C Q is L st s → mm_wp mm_K Z mm_na 6 mm_ci J' C' Q' is (ngL L) (ngS st) (n_H F T q s) := by
  intro is
  induction is with
  | nil => intro L st s h; cases h
  | cons i is ih =>
    intro L st s h
    have hKt : ∀ (rest : List nV) (r : nA) (s : nS), n_Kt (wq J C Q is L) rest r s → mm_Kt Q' (mm_wp mm_K Z mm_na 6 mm_ci J' C' Q' is (ngL L)) (ngS rest) (ngA r) (n_H F T q s) := by
      intro rest r s hk
      obtain _ | x := r
      · exact ih _ _ _ hk
      · exact ih _ _ _ hk
    unfold wq at h
    split at h
    · exact hJ _ _ _ _ h
    · exact hJ _ _ _ _ h
    · split at h
      · obtain ⟨h1, h2, hb⟩ := h
        obtain ⟨h3, h4⟩ := n_br_ok hb
        exact ⟨fun z => hJ _ _ _ _ (h3 ((n_cmp_iff h1 h2).mp z)), fun z => ih _ _ _ (h4 (fun y => z ((n_cmp_iff h1 h2).mpr y)))⟩
      · cases h
    · split at h
      · obtain ⟨h1, hb⟩ := h
        obtain ⟨h3, h4⟩ := n_br_ok hb
        have e := n_cmp_iff (c := ‹Jvm.ClassFile.Cond›) h1 n_rng0
        rw [n_z] at e
        exact ⟨fun z => hJ _ _ _ _ (h3 (e.mp z)), fun z => ih _ _ _ (h4 (fun y => z (e.mpr y)))⟩
      · cases h
    · split at h
      · exact n_sw_ok h.1 (fun t z => hJ _ _ _ _ z) _ h.2
      · cases h
    · obtain ⟨h2, h3⟩ := h
      refine ⟨by simpa [ngS] using h2.1, by simpa [ngS] using h2.2, ?_⟩
      rw [n_args]
      refine hC _ _ _ _ _ (fun r s hk => ?_) h3
      have := hKt _ r s hk
      simpa [ngS] using this
    · obtain ⟨h2, h3⟩ := h
      refine ⟨by simpa [ngS] using h2.1, by simpa [ngS] using h2.2.1, ?_, ?_⟩
      · rw [n_args, h2.2.2.2]
        exact n_rcv hF h2.2.2.1
      rw [n_args]
      refine hC _ _ _ _ _ (fun r s hk => ?_) h3
      have := hKt _ r s hk
      simpa [ngS] using this
    · exact ⟨by rw [h.1]; rfl, hQ _ _ h.2⟩
    · split at h
      · exact hQ _ _ h
      · cases h
    · split at h
      · refine ⟨?_, hQ _ _ h.2⟩
        rcases h.1 with rfl | rfl
        · exact Or.inl (by decide)
        · exact Or.inr (by decide)
      · cases h
    · split at h
      · split at h
        · rename_i hc
          obtain ⟨rfl, rfl, hk, h0⟩ := hc
          have hK := n_K10 _ hk h0
          split at h
          · rename_i hk28
            subst hk28
            refine mm_st (L' := ngL L) rfl ?_ (ih _ _ _ h.2)
            simp only [mm_s1, ngS, List.map_cons, ng]
            rw [hK]
            simp only [if_true]
            rw [if_pos (by rcases h.1 with rfl | rfl; exact Or.inl (by decide); exact Or.inr (by decide)), n_put hF hk h0]
            rfl
          · rename_i hk28
            refine mm_st (L' := ngL L) rfl ?_ (ih _ _ _ h)
            simp only [mm_s1, ngS, List.map_cons, ng]
            rw [hK, if_neg hk28]
            simp only
            rw [n_put hF hk h0]
            rfl
        · cases h
      · cases h
    iterate 3
      split at h
      · split at h
        · rename_i hn
          obtain ⟨b1, b2, b3, b4⟩ := n_arr_ok hn
          split at h
          · rename_i hk
            subst hk
            refine mm_st (L' := ngL L) rfl ?_ (ih _ _ _ h.2)
            simp only [mm_s1, ngS, List.map_cons, ng]
            rw [n_iald hF b1 b2 b3 (by rw [b4]; exact h.1)]
            rfl
          · cases h
        · cases h
      · cases h
    iterate 3
      split at h
      · split at h
        · rename_i hn
          obtain ⟨b1, b2, b3, b4⟩ := n_arr_ok hn
          split at h
          · rename_i hk
            subst hk
            refine mm_st (L' := ngL L) rfl ?_ (ih _ _ _ h.2)
            simp only [mm_s1, ngS, List.map_cons, ng]
            first
              | rw [n_iast hF b1 b2 b3 (by rw [b4]; exact h.1)]
              | rw [← n_back (vp_nar .byte _), n_iast hF b1 b2 b3 (by rw [b4]; exact h.1)]
              | rw [← n_back (vp_nar .char _), n_iast hF b1 b2 b3 (by rw [b4]; exact h.1)]
            rfl
          · cases h
        · cases h
      · cases h
    · split at h
      · rename_i L' st' s' ho
        have e := n_s1_ok (F := F) (T := T) (q := q) (Z := Z) hF ho
        unfold mm_wp
        split <;> first
          | (rw [e]; exact ih _ _ _ h)
          | contradiction
          | (simp [n_s1] at ho; done)
      · cases h
end
section
/-! THE REFERENCE'S CONTRACTS -/
def NP (Z : Nat → List Int32) (d mi pc : Nat) (L : nL) (st : List nV) (s : nS) (Post : nA → nS → Prop) : Prop := ∀ (F T : List mm_O) (q : Nat × Nat), F.length = 25 → mm_P Z d mi pc (ngL L) (ngS st) (n_H F T q s) (fun r h => ∃ r' s', r = ngA r' ∧ h = n_H F T q s' ∧ Post r' s')
def NG (Z : Nat → List Int32) (d mi : Nat) (vs : List nV) (s : nS) (Post : nA → nS → Prop) : Prop := ∀ (F T : List mm_O) (q : Nat × Nat), F.length = 25 → mm_G Z d mi (vs.map ng) (n_H F T q s) (fun r h => ∃ r' s', r = ngA r' ∧ h = n_H F T q s' ∧ Post r' s')
def nC (Z : Nat → List Int32) (d m : Nat) (vs : List nV) (s : nS) (K : nA → nS → Prop) : Prop := match d with
  | 0 => False
  | d + 1 => NG Z d m vs s K
section N4
variable {Z : Nat → List Int32} {d d' mi pc : Nat} {is : List Instr} {L : nL} {st : List nV} {s : nS} {vs : List nV} {Post Post' : nA → nS → Prop}
theorem n_at (hb : mm_blk mi pc = some is) (hd : 6 ≤ d) (hh : mm_hd mi = []) (hw : wq (fun t L st s => NP Z d mi t L st s Post) (nC Z d) Post is L st s) : NP Z d mi pc L st s Post := by
  intro F T q hF
  refine mm_at_blk hb hd (Or.inl hh) (wq_sound hF ?_ ?_ ?_ is L st s hw)
  · intro t L st s h
    exact h F T q hF
  · intro m vs s K K' hK hc
    cases d with
    | zero => cases hc
    | succ d =>
      refine mm_G_mono (hc F T q hF) (fun r h hr => ?_)
      obtain ⟨r', s', rfl, rfl, hk⟩ := hr
      exact hK _ _ hk
  · intro r s h
    exact ⟨r, s, rfl, rfl, h⟩
theorem n_G_of (hl : (mm_argsL (vs.map ng)).length ≤ mm_ml mi) (hL : mm_ent (mm_ml mi) (vs.map ng) = ngL L) (k : NP Z d mi 0 L [] s Post) : NG Z d mi vs s Post := by
  intro F T q hF
  refine mm_G_of hl ?_
  rw [hL]
  exact k F T q hF
theorem NG_le (h : d ≤ d') (hG : NG Z d mi vs s Post) : NG Z d' mi vs s Post := fun F T q hF => mm_G_le h (hG F T q hF)
theorem NG_mono (hG : NG Z d mi vs s Post) (h : ∀ r s, Post r s → Post' r s) : NG Z d mi vs s Post' := fun F T q hF => mm_G_mono (hG F T q hF) (fun r hh hr => by
  obtain ⟨r', s', e1, e2, hk⟩ := hr
  exact ⟨r', s', e1, e2, h _ _ hk⟩)
variable {J : Nat → nL → List nV → nS → Prop} {Q : nA → nS → Prop} {P : nA → nS → Prop} {r : List nV} {m : Nat}
/-- a call over the arguments vs -/
theorem n_iv (hn : mm_na m = vs.length) (hl : vs.length + r.length ≤ 12) (hr : vs.head? = some (xR 25)) (hci : mm_ci m = 10) (hG : NG Z d m vs s P) (hP : ∀ a s', P a s' → n_Kt (wq J (nC Z (d + 1)) Q is L) r a s') : wq J (nC Z (d + 1)) Q (.invokevirtual m :: is) L (vs.reverse ++ r) s := by
  have h1 : (vs.reverse ++ r).take (mm_na m) = vs.reverse := by rw [hn, ← List.length_reverse]; exact List.take_left
  have h2 : (vs.reverse ++ r).drop (mm_na m) = r := by rw [hn, ← List.length_reverse]; exact List.drop_left
  show (mm_na m ≤ (vs.reverse ++ r).length ∧ (vs.reverse ++ r).length ≤ 12 ∧ ((vs.reverse ++ r).take (mm_na m)).reverse.head? = some (xR 25) ∧ mm_ci m = 10) ∧ nC Z (d + 1) m ((vs.reverse ++ r).take (mm_na m)).reverse s (n_Kt (wq J (nC Z (d + 1)) Q is L) ((vs.reverse ++ r).drop (mm_na m)))
  rw [h1, h2, List.reverse_reverse]
  exact ⟨⟨by rw [hn]; simp, by simp; omega, hr, hci⟩, NG_mono hG hP⟩
theorem n_is (hn : mm_na m = vs.length) (hl : vs.length + r.length ≤ 12) (hG : NG Z d m vs s P) (hP : ∀ a s', P a s' → n_Kt (wq J (nC Z (d + 1)) Q is L) r a s') : wq J (nC Z (d + 1)) Q (.invokestatic m :: is) L (vs.reverse ++ r) s := by
  have h1 : (vs.reverse ++ r).take (mm_na m) = vs.reverse := by rw [hn, ← List.length_reverse]; exact List.take_left
  have h2 : (vs.reverse ++ r).drop (mm_na m) = r := by rw [hn, ← List.length_reverse]; exact List.drop_left
  show (mm_na m ≤ (vs.reverse ++ r).length ∧ (vs.reverse ++ r).length ≤ 12) ∧ nC Z (d + 1) m ((vs.reverse ++ r).take (mm_na m)).reverse s (n_Kt (wq J (nC Z (d + 1)) Q is L) ((vs.reverse ++ r).drop (mm_na m)))
  rw [h1, h2, List.reverse_reverse]
  exact ⟨⟨by rw [hn]; simp, by simp; omega⟩, NG_mono hG hP⟩
end N4
end
section
-- <init> ()V
set_option maxRecDepth 100000 in
theorem nb108_0 : mm_blk 108 0 = some [.aload 0, .invokespecial 0, .aload 0, .sipush (-1), .multianewarray 10 3, .aload 0, .sipush (120), .newarray .char, .multianewarray 10 5, .aload 0, .sipush (16), .newarray .int, .multianewarray 10 6, .aload 0, .sipush (16), .newarray .int, .multianewarray 10 7, .aload 0, .sipush (16), .newarray .int, .multianewarray 10 8, .aload 0, .sipush (16), .newarray .int, .multianewarray 10 9, .aload 0, .sipush (3200), .newarray .byte, .multianewarray 10 10, .aload 0, .sipush (16), .newarray .int, .multianewarray 10 11, .aload 0, .sipush (800), .newarray .int, .multianewarray 10 12, .aload 0, .sipush (800), .newarray .int, .multianewarray 10 13, .aload 0, .sipush (64), .newarray .int, .multianewarray 10 14, .aload 0, .sipush (1920), .newarray .char, .multianewarray 10 15, .aload 0, .sipush (16), .newarray .int, .multianewarray 10 16, .aload 0, .sipush (1300), .newarray .int, .multianewarray 10 19, .aload 0, .sipush (1300), .newarray .int, .multianewarray 10 20, .aload 0, .sipush (1300), .newarray .int, .multianewarray 10 21, .aload 0, .sipush (1300), .newarray .int, .multianewarray 10 22, .aload 0, .sipush (9), .newarray .int, .multianewarray 10 26, .aload 0, .sipush (9), .newarray .int, .multianewarray 10 27, .aload 0, .sipush (300), .newarray .int, .multianewarray 10 35, .aload 0, .sipush (300), .newarray .int, .multianewarray 10 36, .aload 0, .sipush (300), .newarray .int, .multianewarray 10 37, .aload 0, .sipush (260), .newarray .byte, .multianewarray 10 38, .aload 0, .sipush (120), .newarray .int, .multianewarray 10 39, .aload 0, .sipush (120), .newarray .int, .multianewarray 10 40, .aload 0, .sipush (70), .newarray .int, .multianewarray 10 41, .aload 0, .sipush (70), .newarray .int, .multianewarray 10 42, .aload 0, .sipush (16), .newarray .int, .multianewarray 10 44, .aload 0, .sipush (16), .newarray .int, .multianewarray 10 45, .aload 0, .sipush (600), .newarray .byte, .multianewarray 10 47, .aload 0, .sipush (120), .newarray .int, .multianewarray 10 54, .aload 0, .sipush (24), .newarray .int, .multianewarray 10 55, .aload 0, .sipush (24), .newarray .int, .multianewarray 10 56, .return_] := by decide +kernel
set_option maxRecDepth 100000 in
theorem nl108 : mm_ml 108 = 1 := by decide +kernel
set_option maxRecDepth 100000 in
theorem nn108 : mm_na 108 = 1 := by decide +kernel
set_option maxRecDepth 100000 in
theorem nc108 : mm_ci 108 = 10 := by decide +kernel
-- write (J)Z
set_option maxRecDepth 100000 in
theorem nb109_0 : mm_blk 109 0 = some [.aload 0, .sipush (0), .multianewarray 10 0, .aload 0, .invokeinterface 10 1, .istore 3, .sipush (1), .istore 4, .sipush (7), .istore 5, .goto_w 17] := by decide +kernel
set_option maxRecDepth 100000 in
theorem nb109_17 : mm_blk 109 17 = some [.iload 5, .ifCond .lt 101, .lload 1, .sipush (8), .iload 5, .imul, .lushr, .l2i, .sipush (255), .iand, .istore 6, .iload 4, .ifCond .eq 70, .iload 6, .ifCond .eq 66, .iload 6, .sipush (31), .if_icmp .le 70, .iload 6, .sipush (127), .if_icmp .ge 70, .iload 3, .sipush (120), .if_icmp .ge 70, .goto_w 66] := by decide +kernel
set_option maxRecDepth 100000 in
theorem nb109_66 : mm_blk 109 66 = some [.sipush (1), .goto 71] := by decide +kernel
set_option maxRecDepth 100000 in
theorem nb109_70 : mm_blk 109 70 = some [.sipush (0), .goto_w 71] := by decide +kernel
set_option maxRecDepth 100000 in
theorem nb109_71 : mm_blk 109 71 = some [.istore 4, .iload 4, .ifCond .eq 95, .iload 6, .ifCond .eq 95, .aload 0, .invokeinterface 10 5, .iload 3, .iload 6, .i2c, .castore, .iinc 3 (1), .goto_w 95] := by decide +kernel
set_option maxRecDepth 100000 in
theorem nb109_95 : mm_blk 109 95 = some [.iinc 5 (-1), .goto 17] := by decide +kernel
set_option maxRecDepth 100000 in
theorem nb109_101 : mm_blk 109 101 = some [.aload 0, .iload 4, .ifCond .eq 111, .iload 3, .goto 115] := by decide +kernel
set_option maxRecDepth 100000 in
theorem nb109_111 : mm_blk 109 111 = some [.aload 0, .invokeinterface 10 1, .goto_w 115] := by decide +kernel
set_option maxRecDepth 100000 in
theorem nb109_115 : mm_blk 109 115 = some [.multianewarray 10 1, .iload 4, .freturn] := by decide +kernel
set_option maxRecDepth 100000 in
theorem nl109 : mm_ml 109 = 7 := by decide +kernel
set_option maxRecDepth 100000 in
theorem nn109 : mm_na 109 = 2 := by decide +kernel
set_option maxRecDepth 100000 in
theorem nc109 : mm_ci 109 = 10 := by decide +kernel
-- compile ()I
set_option maxRecDepth 100000 in
theorem nb110_0 : mm_blk 110 0 = some [.aload 0, .sipush (0), .multianewarray 10 17, .aload 0, .sipush (0), .multianewarray 10 18, .aload 0, .sipush (0), .multianewarray 10 32, .aload 0, .sipush (0), .multianewarray 10 28, .aload 0, .sipush (-1), .sipush (0), .sipush (-1), .invokevirtual 111, .istore 1, .aload 0, .aload 0, .invokeinterface 10 24, .multianewarray 10 3, .aload 0, .aload 0, .invokeinterface 10 24, .ifCond .lt 48, .sipush (1), .goto 49] := by decide +kernel
set_option maxRecDepth 100000 in
theorem nb110_48 : mm_blk 110 48 = some [.sipush (0), .goto_w 49] := by decide +kernel
set_option maxRecDepth 100000 in
theorem nb110_49 : mm_blk 110 49 = some [.multianewarray 10 0, .sipush (0), .istore 2, .aload 0, .invokeinterface 10 0, .ifCond .ne 339, .aload 0, .iload 1, .invokevirtual 120, .istore 3, .iload 3, .sipush (109), .sipush (97), .sipush (99), .invokestatic 123, .if_icmp .ne 84, .sipush (1), .goto 85] := by decide +kernel
set_option maxRecDepth 100000 in
theorem nb110_84 : mm_blk 110 84 = some [.sipush (0), .goto_w 85] := by decide +kernel
set_option maxRecDepth 100000 in
theorem nb110_85 : mm_blk 110 85 = some [.istore 4, .iload 3, .sipush (100), .sipush (101), .sipush (102), .invokestatic 123, .if_icmp .ne 104, .sipush (1), .goto 105] := by decide +kernel
set_option maxRecDepth 100000 in
theorem nb110_104 : mm_blk 110 104 = some [.sipush (0), .goto_w 105] := by decide +kernel
set_option maxRecDepth 100000 in
theorem nb110_105 : mm_blk 110 105 = some [.istore 5, .sipush (0), .istore 6, .iload 4, .ifCond .ne 120, .iload 5, .ifCond .eq 191, .goto_w 120] := by decide +kernel
set_option maxRecDepth 100000 in
theorem nb110_120 : mm_blk 110 120 = some [.aload 0, .aload 0, .iload 1, .invokevirtual 121, .sipush (4), .if_icmp .ne 160, .aload 0, .aload 0, .iload 1, .sipush (1), .invokevirtual 122, .invokevirtual 124, .ifCond .eq 160, .aload 0, .invokeinterface 10 20, .aload 0, .iload 1, .sipush (1), .invokevirtual 122, .iaload, .invokestatic 125, .ifCond .eq 164, .goto_w 160] := by decide +kernel
set_option maxRecDepth 100000 in
theorem nb110_160 : mm_blk 110 160 = some [.sipush (1), .goto 165] := by decide +kernel
set_option maxRecDepth 100000 in
theorem nb110_164 : mm_blk 110 164 = some [.sipush (0), .goto_w 165] := by decide +kernel
set_option maxRecDepth 100000 in
theorem nb110_165 : mm_blk 110 165 = some [.multianewarray 10 28, .aload 0, .invokeinterface 10 28, .ifCond .eq 179, .sipush (0), .goto 189] := by decide +kernel
set_option maxRecDepth 100000 in
theorem nb110_179 : mm_blk 110 179 = some [.aload 0, .aload 0, .iload 1, .sipush (2), .invokevirtual 122, .invokevirtual 126, .goto_w 189] := by decide +kernel
set_option maxRecDepth 100000 in
theorem nb110_189 : mm_blk 110 189 = some [.istore 6, .goto_w 191] := by decide +kernel
set_option maxRecDepth 100000 in
theorem nb110_191 : mm_blk 110 191 = some [.aload 0, .invokeinterface 10 28, .ifCond .ne 236, .iload 4, .ifCond .ne 236, .aload 0, .iload 5, .ifCond .eq 218, .aload 0, .iload 1, .sipush (3), .invokevirtual 122, .goto 219] := by decide +kernel
set_option maxRecDepth 100000 in
theorem nb110_218 : mm_blk 110 218 = some [.iload 1, .goto_w 219] := by decide +kernel
set_option maxRecDepth 100000 in
theorem nb110_219 : mm_blk 110 219 = some [.iload 5, .ifCond .eq 229, .sipush (13), .goto 231] := by decide +kernel
set_option maxRecDepth 100000 in
theorem nb110_229 : mm_blk 110 229 = some [.sipush (14), .goto_w 231] := by decide +kernel
set_option maxRecDepth 100000 in
theorem nb110_231 : mm_blk 110 231 = some [.iload 6, .invokevirtual 128, .goto_w 236] := by decide +kernel
set_option maxRecDepth 100000 in
theorem nb110_236 : mm_blk 110 236 = some [.aload 0, .aload 0, .invokeinterface 10 28, .ifCond .eq 248, .sipush (2), .goto 262] := by decide +kernel
set_option maxRecDepth 100000 in
theorem nb110_248 : mm_blk 110 248 = some [.aload 0, .invokeinterface 10 2, .sipush (16), .if_icmp .ne 261, .sipush (3), .goto 262] := by decide +kernel
set_option maxRecDepth 100000 in
theorem nb110_261 : mm_blk 110 261 = some [.sipush (0), .goto_w 262] := by decide +kernel
set_option maxRecDepth 100000 in
theorem nb110_262 : mm_blk 110 262 = some [.multianewarray 10 0, .aload 0, .invokeinterface 10 0, .ifCond .ne 339, .aload 0, .iload 4, .ifCond .eq 282, .sipush (2), .goto 292] := by decide +kernel
set_option maxRecDepth 100000 in
theorem nb110_282 : mm_blk 110 282 = some [.iload 5, .ifCond .eq 291, .sipush (1), .goto 292] := by decide +kernel
set_option maxRecDepth 100000 in
theorem nb110_291 : mm_blk 110 291 = some [.sipush (0), .goto_w 292] := by decide +kernel
set_option maxRecDepth 100000 in
theorem nb110_292 : mm_blk 110 292 = some [.iload 4, .ifCond .ne 302, .iload 5, .ifCond .eq 316, .goto_w 302] := by decide +kernel
set_option maxRecDepth 100000 in
theorem nb110_302 : mm_blk 110 302 = some [.aload 0, .invokeinterface 10 20, .aload 0, .iload 1, .sipush (1), .invokevirtual 122, .iaload, .goto 317] := by decide +kernel
set_option maxRecDepth 100000 in
theorem nb110_316 : mm_blk 110 316 = some [.sipush (0), .goto_w 317] := by decide +kernel
set_option maxRecDepth 100000 in
theorem nb110_317 : mm_blk 110 317 = some [.iload 6, .iload 4, .ifCond .eq 331, .aload 0, .invokevirtual 140, .goto 335] := by decide +kernel
set_option maxRecDepth 100000 in
theorem nb110_331 : mm_blk 110 331 = some [.aload 0, .invokeinterface 10 1, .goto_w 335] := by decide +kernel
set_option maxRecDepth 100000 in
theorem nb110_335 : mm_blk 110 335 = some [.invokevirtual 141, .istore 2, .goto_w 339] := by decide +kernel
set_option maxRecDepth 100000 in
theorem nb110_339 : mm_blk 110 339 = some [.aload 0, .sipush (0), .multianewarray 10 1, .iload 2, .ireturn] := by decide +kernel
set_option maxRecDepth 100000 in
theorem nl110 : mm_ml 110 = 7 := by decide +kernel
set_option maxRecDepth 100000 in
theorem nn110 : mm_na 110 = 1 := by decide +kernel
set_option maxRecDepth 100000 in
theorem nc110 : mm_ci 110 = 10 := by decide +kernel
-- read (III)I
set_option maxRecDepth 100000 in
theorem nb111_0 : mm_blk 111 0 = some [.aload 0, .iload 2, .multianewarray 10 23, .aload 0, .sipush (-1), .multianewarray 10 24, .aload 0, .sipush (0), .multianewarray 10 25, .sipush (-1), .istore 4, .sipush (1), .istore 5, .goto_w 21] := by decide +kernel
set_option maxRecDepth 100000 in
theorem nb111_21 : mm_blk 111 21 = some [.aload 0, .invokeinterface 10 24, .ifCond .ge 384, .iload 4, .ifCond .lt 37, .iload 1, .ifCond .ge 384, .goto_w 37] := by decide +kernel
set_option maxRecDepth 100000 in
theorem nb111_37 : mm_blk 111 37 = some [.aload 0, .iload 1, .aload 0, .invokeinterface 10 23, .invokevirtual 112, .istore 6, .iload 6, .invokestatic 113, .ifCond .ne 72, .iload 6, .invokestatic 114, .ifCond .ne 72, .iload 6, .invokestatic 115, .ifCond .eq 76, .goto_w 72] := by decide +kernel
set_option maxRecDepth 100000 in
theorem nb111_72 : mm_blk 111 72 = some [.sipush (1), .goto 77] := by decide +kernel
set_option maxRecDepth 100000 in
theorem nb111_76 : mm_blk 111 76 = some [.sipush (0), .goto_w 77] := by decide +kernel
set_option maxRecDepth 100000 in
theorem nb111_77 : mm_blk 111 77 = some [.istore 7, .iload 6, .sipush (32), .if_icmp .ne 102, .aload 0, .dup, .invokeinterface 10 23, .sipush (1), .iadd, .multianewarray 10 23, .sipush (1), .istore 5, .goto 381] := by decide +kernel
set_option maxRecDepth 100000 in
theorem nb111_102 : mm_blk 111 102 = some [.iload 6, .ifCond .ne 115, .iload 4, .ifCond .lt 115, .iload 4, .ireturn] := by decide +kernel
set_option maxRecDepth 100000 in
theorem nb111_115 : mm_blk 111 115 = some [.iload 6, .sipush (41), .if_icmp .ne 174, .aload 0, .invokeinterface 10 25, .ifCond .le 174, .aload 0, .dup, .invokeinterface 10 23, .sipush (1), .iadd, .multianewarray 10 23, .aload 0, .dup, .invokeinterface 10 25, .sipush (1), .isub, .multianewarray 10 25, .sipush (1), .istore 5, .aload 0, .invokeinterface 10 25, .ifCond .ne 168, .aload 0, .invokeinterface 10 26, .sipush (1), .iaload, .goto 169] := by decide +kernel
set_option maxRecDepth 100000 in
theorem nb111_168 : mm_blk 111 168 = some [.sipush (-1), .goto_w 169] := by decide +kernel
set_option maxRecDepth 100000 in
theorem nb111_169 : mm_blk 111 169 = some [.istore 4, .goto 381] := by decide +kernel
set_option maxRecDepth 100000 in
theorem nb111_174 : mm_blk 111 174 = some [.iload 4, .ifCond .ge 212, .iload 6, .sipush (40), .if_icmp .eq 196, .iload 7, .ifCond .eq 212, .iload 5, .ifCond .eq 212, .goto_w 196] := by decide +kernel
set_option maxRecDepth 100000 in
theorem nb111_196 : mm_blk 111 196 = some [.iload 6, .sipush (40), .if_icmp .ne 223, .aload 0, .invokeinterface 10 25, .sipush (8), .if_icmp .ne 223, .goto_w 212] := by decide +kernel
set_option maxRecDepth 100000 in
theorem nb111_212 : mm_blk 111 212 = some [.aload 0, .aload 0, .invokeinterface 10 23, .multianewarray 10 24, .goto 381] := by decide +kernel
set_option maxRecDepth 100000 in
theorem nb111_223 : mm_blk 111 223 = some [.iload 6, .sipush (40), .if_icmp .ne 298, .aload 0, .sipush (2), .sipush (-1), .invokevirtual 116, .istore 8, .aload 0, .invokeinterface 10 25, .ifCond .le 251, .aload 0, .iload 8, .invokevirtual 117, .goto_w 251] := by decide +kernel
set_option maxRecDepth 100000 in
theorem nb111_251 : mm_blk 111 251 = some [.aload 0, .dup, .invokeinterface 10 23, .sipush (1), .iadd, .multianewarray 10 23, .aload 0, .dup, .invokeinterface 10 25, .sipush (1), .iadd, .multianewarray 10 25, .aload 0, .invokeinterface 10 26, .aload 0, .invokeinterface 10 25, .iload 8, .iastore, .aload 0, .invokeinterface 10 27, .aload 0, .invokeinterface 10 25, .sipush (-1), .iastore, .sipush (1), .istore 5, .goto 381] := by decide +kernel
set_option maxRecDepth 100000 in
theorem nb111_298 : mm_blk 111 298 = some [.iload 6, .invokestatic 113, .ifCond .ne 330, .iload 6, .sipush (45), .if_icmp .ne 334, .aload 0, .iload 1, .aload 0, .invokeinterface 10 23, .sipush (1), .iadd, .invokevirtual 112, .invokestatic 113, .ifCond .eq 334, .goto_w 330] := by decide +kernel
set_option maxRecDepth 100000 in
theorem nb111_330 : mm_blk 111 330 = some [.sipush (1), .goto 335] := by decide +kernel
set_option maxRecDepth 100000 in
theorem nb111_334 : mm_blk 111 334 = some [.sipush (0), .goto_w 335] := by decide +kernel
set_option maxRecDepth 100000 in
theorem nb111_335 : mm_blk 111 335 = some [.istore 8, .iload 8, .ifCond .eq 350, .aload 0, .iload 1, .invokevirtual 118, .goto 356] := by decide +kernel
set_option maxRecDepth 100000 in
theorem nb111_350 : mm_blk 111 350 = some [.aload 0, .iload 1, .iload 3, .invokevirtual 119, .goto_w 356] := by decide +kernel
set_option maxRecDepth 100000 in
theorem nb111_356 : mm_blk 111 356 = some [.istore 9, .aload 0, .invokeinterface 10 25, .ifCond .le 374, .aload 0, .iload 9, .invokevirtual 117, .goto 378] := by decide +kernel
set_option maxRecDepth 100000 in
theorem nb111_374 : mm_blk 111 374 = some [.iload 9, .istore 4, .goto_w 378] := by decide +kernel
set_option maxRecDepth 100000 in
theorem nb111_378 : mm_blk 111 378 = some [.sipush (0), .istore 5, .goto_w 381] := by decide +kernel
set_option maxRecDepth 100000 in
theorem nb111_381 : mm_blk 111 381 = some [.goto 21] := by decide +kernel
set_option maxRecDepth 100000 in
theorem nb111_384 : mm_blk 111 384 = some [.iload 4, .ireturn] := by decide +kernel
set_option maxRecDepth 100000 in
theorem nl111 : mm_ml 111 = 10 := by decide +kernel
set_option maxRecDepth 100000 in
theorem nn111 : mm_na 111 = 4 := by decide +kernel
set_option maxRecDepth 100000 in
theorem nc111 : mm_ci 111 = 10 := by decide +kernel
-- at (II)I
set_option maxRecDepth 100000 in
theorem nb112_0 : mm_blk 112 0 = some [.iload 1, .ifCond .ge 23, .iload 2, .aload 0, .invokeinterface 10 1, .if_icmp .ge 21, .aload 0, .invokeinterface 10 5, .iload 2, .caload, .goto 22] := by decide +kernel
set_option maxRecDepth 100000 in
theorem nb112_21 : mm_blk 112 21 = some [.sipush (0), .goto_w 22] := by decide +kernel
set_option maxRecDepth 100000 in
theorem nb112_22 : mm_blk 112 22 = some [.ireturn] := by decide +kernel
set_option maxRecDepth 100000 in
theorem nb112_23 : mm_blk 112 23 = some [.iload 2, .aload 0, .invokeinterface 10 16, .iload 1, .iaload, .if_icmp .ge 47, .aload 0, .invokeinterface 10 15, .sipush (120), .iload 1, .imul, .iload 2, .iadd, .caload, .goto 48] := by decide +kernel
set_option maxRecDepth 100000 in
theorem nb112_47 : mm_blk 112 47 = some [.sipush (0), .goto_w 48] := by decide +kernel
set_option maxRecDepth 100000 in
theorem nb112_48 : mm_blk 112 48 = some [.ireturn] := by decide +kernel
set_option maxRecDepth 100000 in
theorem nl112 : mm_ml 112 = 3 := by decide +kernel
set_option maxRecDepth 100000 in
theorem nn112 : mm_na 112 = 3 := by decide +kernel
set_option maxRecDepth 100000 in
theorem nc112 : mm_ci 112 = 10 := by decide +kernel
-- isDigit (I)Z
set_option maxRecDepth 100000 in
theorem nb113_0 : mm_blk 113 0 = some [.iload 0, .sipush (48), .if_icmp .lt 16, .iload 0, .sipush (57), .if_icmp .gt 16, .sipush (1), .goto 17] := by decide +kernel
set_option maxRecDepth 100000 in
theorem nb113_16 : mm_blk 113 16 = some [.sipush (0), .goto_w 17] := by decide +kernel
set_option maxRecDepth 100000 in
theorem nb113_17 : mm_blk 113 17 = some [.freturn] := by decide +kernel
set_option maxRecDepth 100000 in
theorem nl113 : mm_ml 113 = 1 := by decide +kernel
set_option maxRecDepth 100000 in
theorem nn113 : mm_na 113 = 1 := by decide +kernel
set_option maxRecDepth 100000 in
theorem nc113 : mm_ci 113 = 10 := by decide +kernel
-- isLetter (I)Z
set_option maxRecDepth 100000 in
theorem nb114_0 : mm_blk 114 0 = some [.iload 0, .sipush (97), .if_icmp .lt 16, .iload 0, .sipush (122), .if_icmp .gt 16, .sipush (1), .goto 17] := by decide +kernel
set_option maxRecDepth 100000 in
theorem nb114_16 : mm_blk 114 16 = some [.sipush (0), .goto_w 17] := by decide +kernel
set_option maxRecDepth 100000 in
theorem nb114_17 : mm_blk 114 17 = some [.freturn] := by decide +kernel
set_option maxRecDepth 100000 in
theorem nl114 : mm_ml 114 = 1 := by decide +kernel
set_option maxRecDepth 100000 in
theorem nn114 : mm_na 114 = 1 := by decide +kernel
set_option maxRecDepth 100000 in
theorem nc114 : mm_ci 114 = 10 := by decide +kernel
-- isSign (I)Z
set_option maxRecDepth 100000 in
theorem nb115_0 : mm_blk 115 0 = some [.iload 0, .sipush (43), .if_icmp .eq 30, .iload 0, .sipush (45), .if_icmp .eq 30, .iload 0, .sipush (42), .if_icmp .eq 30, .iload 0, .sipush (60), .if_icmp .eq 30, .iload 0, .sipush (61), .if_icmp .ne 34, .goto_w 30] := by decide +kernel
set_option maxRecDepth 100000 in
theorem nb115_30 : mm_blk 115 30 = some [.sipush (1), .goto 35] := by decide +kernel
set_option maxRecDepth 100000 in
theorem nb115_34 : mm_blk 115 34 = some [.sipush (0), .goto_w 35] := by decide +kernel
set_option maxRecDepth 100000 in
theorem nb115_35 : mm_blk 115 35 = some [.freturn] := by decide +kernel
set_option maxRecDepth 100000 in
theorem nl115 : mm_ml 115 = 1 := by decide +kernel
set_option maxRecDepth 100000 in
theorem nn115 : mm_na 115 = 1 := by decide +kernel
set_option maxRecDepth 100000 in
theorem nc115 : mm_ci 115 = 10 := by decide +kernel
-- form (II)I
set_option maxRecDepth 100000 in
theorem nb116_0 : mm_blk 116 0 = some [.aload 0, .invokeinterface 10 19, .aload 0, .invokeinterface 10 17, .iload 1, .iastore, .aload 0, .invokeinterface 10 20, .aload 0, .invokeinterface 10 17, .iload 2, .iastore, .aload 0, .dup, .invokeinterface 10 17, .sipush (1), .iadd, .multianewarray 10 17, .aload 0, .invokeinterface 10 17, .sipush (1), .isub, .ireturn] := by decide +kernel
set_option maxRecDepth 100000 in
theorem nl116 : mm_ml 116 = 3 := by decide +kernel
set_option maxRecDepth 100000 in
theorem nn116 : mm_na 116 = 3 := by decide +kernel
set_option maxRecDepth 100000 in
theorem nc116 : mm_ci 116 = 10 := by decide +kernel
-- joins (I)V
set_option maxRecDepth 100000 in
theorem nb117_0 : mm_blk 117 0 = some [.aload 0, .invokeinterface 10 21, .aload 0, .invokeinterface 10 18, .iload 1, .iastore, .aload 0, .invokeinterface 10 22, .aload 0, .invokeinterface 10 18, .sipush (-1), .iastore, .aload 0, .invokeinterface 10 27, .aload 0, .invokeinterface 10 25, .iaload, .ifCond .ge 53, .aload 0, .invokeinterface 10 20, .aload 0, .invokeinterface 10 26, .aload 0, .invokeinterface 10 25, .iaload, .aload 0, .invokeinterface 10 18, .iastore, .goto 71] := by decide +kernel
set_option maxRecDepth 100000 in
theorem nb117_53 : mm_blk 117 53 = some [.aload 0, .invokeinterface 10 22, .aload 0, .invokeinterface 10 27, .aload 0, .invokeinterface 10 25, .iaload, .aload 0, .invokeinterface 10 18, .iastore, .goto_w 71] := by decide +kernel
set_option maxRecDepth 100000 in
theorem nb117_71 : mm_blk 117 71 = some [.aload 0, .invokeinterface 10 27, .aload 0, .invokeinterface 10 25, .aload 0, .invokeinterface 10 18, .iastore, .aload 0, .dup, .invokeinterface 10 18, .sipush (1), .iadd, .multianewarray 10 18, .return_] := by decide +kernel
set_option maxRecDepth 100000 in
theorem nl117 : mm_ml 117 = 2 := by decide +kernel
set_option maxRecDepth 100000 in
theorem nn117 : mm_na 117 = 2 := by decide +kernel
set_option maxRecDepth 100000 in
theorem nc117 : mm_ci 117 = 10 := by decide +kernel
-- number (I)I
set_option maxRecDepth 100000 in
theorem nb118_0 : mm_blk 118 0 = some [.sipush (1), .istore 2, .aload 0, .iload 1, .aload 0, .invokeinterface 10 23, .invokevirtual 112, .sipush (45), .if_icmp .ne 28, .sipush (-1), .istore 2, .aload 0, .dup, .invokeinterface 10 23, .sipush (1), .iadd, .multianewarray 10 23, .goto_w 28] := by decide +kernel
set_option maxRecDepth 100000 in
theorem nb118_28 : mm_blk 118 28 = some [.sipush (0), .istore 3, .sipush (0), .istore 4, .goto_w 33] := by decide +kernel
set_option maxRecDepth 100000 in
theorem nb118_33 : mm_blk 118 33 = some [.iload 4, .sipush (4), .if_icmp .ge 88, .aload 0, .iload 1, .aload 0, .invokeinterface 10 23, .invokevirtual 112, .invokestatic 113, .ifCond .eq 88, .sipush (10), .iload 3, .imul, .aload 0, .iload 1, .aload 0, .invokeinterface 10 23, .invokevirtual 112, .iadd, .sipush (48), .isub, .istore 3, .aload 0, .dup, .invokeinterface 10 23, .sipush (1), .iadd, .multianewarray 10 23, .iinc 4 (1), .goto 33] := by decide +kernel
set_option maxRecDepth 100000 in
theorem nb118_88 : mm_blk 118 88 = some [.aload 0, .sipush (0), .iload 2, .iload 3, .imul, .invokevirtual 116, .ireturn] := by decide +kernel
set_option maxRecDepth 100000 in
theorem nl118 : mm_ml 118 = 5 := by decide +kernel
set_option maxRecDepth 100000 in
theorem nn118 : mm_na 118 = 2 := by decide +kernel
set_option maxRecDepth 100000 in
theorem nc118 : mm_ci 118 = 10 := by decide +kernel
-- symbolForm (II)I
set_option maxRecDepth 100000 in
theorem nb119_0 : mm_blk 119 0 = some [.aload 0, .iload 1, .aload 0, .invokeinterface 10 23, .invokevirtual 112, .istore 3, .aload 0, .dup, .invokeinterface 10 23, .sipush (1), .iadd, .multianewarray 10 23, .sipush (1), .istore 4, .goto_w 23] := by decide +kernel
set_option maxRecDepth 100000 in
theorem nb119_23 : mm_blk 119 23 = some [.iload 4, .sipush (4), .if_icmp .ge 86, .iload 3, .sipush (255), .iand, .invokestatic 114, .ifCond .eq 86, .aload 0, .iload 1, .aload 0, .invokeinterface 10 23, .invokevirtual 112, .invokestatic 114, .ifCond .eq 86, .iload 3, .sipush (8), .ishl, .aload 0, .iload 1, .aload 0, .invokeinterface 10 23, .invokevirtual 112, .ior, .istore 3, .aload 0, .dup, .invokeinterface 10 23, .sipush (1), .iadd, .multianewarray 10 23, .iinc 4 (1), .goto 23] := by decide +kernel
set_option maxRecDepth 100000 in
theorem nb119_86 : mm_blk 119 86 = some [.iload 2, .istore 4, .sipush (0), .istore 5, .goto_w 92] := by decide +kernel
set_option maxRecDepth 100000 in
theorem nb119_92 : mm_blk 119 92 = some [.iload 1, .ifCond .lt 145, .iload 5, .aload 0, .invokeinterface 10 8, .iload 1, .iaload, .if_icmp .ge 145, .aload 0, .invokeinterface 10 14, .sipush (4), .iload 1, .imul, .iload 5, .iadd, .iaload, .iload 3, .if_icmp .ne 130, .aload 0, .invokeinterface 10 21, .iload 4, .iaload, .ireturn] := by decide +kernel
set_option maxRecDepth 100000 in
theorem nb119_130 : mm_blk 119 130 = some [.aload 0, .invokeinterface 10 22, .iload 4, .iaload, .istore 4, .iinc 5 (1), .goto 92] := by decide +kernel
set_option maxRecDepth 100000 in
theorem nb119_145 : mm_blk 119 145 = some [.aload 0, .sipush (1), .iload 3, .invokevirtual 116, .ireturn] := by decide +kernel
set_option maxRecDepth 100000 in
theorem nl119 : mm_ml 119 = 6 := by decide +kernel
set_option maxRecDepth 100000 in
theorem nn119 : mm_na 119 = 3 := by decide +kernel
set_option maxRecDepth 100000 in
theorem nc119 : mm_ci 119 = 10 := by decide +kernel
-- head (I)I
set_option maxRecDepth 100000 in
theorem nb120_0 : mm_blk 120 0 = some [.aload 0, .iload 1, .invokevirtual 121, .istore 2, .iload 2, .ifCond .le 39, .aload 0, .invokeinterface 10 19, .aload 0, .iload 1, .sipush (0), .invokevirtual 122, .iaload, .sipush (1), .if_icmp .ne 39, .aload 0, .invokeinterface 10 20, .aload 0, .iload 1, .sipush (0), .invokevirtual 122, .iaload, .goto 40] := by decide +kernel
set_option maxRecDepth 100000 in
theorem nb120_39 : mm_blk 120 39 = some [.sipush (0), .goto_w 40] := by decide +kernel
set_option maxRecDepth 100000 in
theorem nb120_40 : mm_blk 120 40 = some [.ireturn] := by decide +kernel
set_option maxRecDepth 100000 in
theorem nl120 : mm_ml 120 = 3 := by decide +kernel
set_option maxRecDepth 100000 in
theorem nn120 : mm_na 120 = 2 := by decide +kernel
set_option maxRecDepth 100000 in
theorem nc120 : mm_ci 120 = 10 := by decide +kernel
-- count (I)I
set_option maxRecDepth 100000 in
theorem nb121_0 : mm_blk 121 0 = some [.sipush (0), .istore 2, .aload 0, .invokeinterface 10 19, .iload 1, .iaload, .sipush (2), .if_icmp .ne 21, .aload 0, .invokeinterface 10 20, .iload 1, .iaload, .goto 22] := by decide +kernel
set_option maxRecDepth 100000 in
theorem nb121_21 : mm_blk 121 21 = some [.sipush (-1), .goto_w 22] := by decide +kernel
set_option maxRecDepth 100000 in
theorem nb121_22 : mm_blk 121 22 = some [.istore 3, .goto_w 23] := by decide +kernel
set_option maxRecDepth 100000 in
theorem nb121_23 : mm_blk 121 23 = some [.iload 3, .ifCond .lt 40, .iinc 2 (1), .aload 0, .invokeinterface 10 22, .iload 3, .iaload, .istore 3, .goto 23] := by decide +kernel
set_option maxRecDepth 100000 in
theorem nb121_40 : mm_blk 121 40 = some [.iload 2, .ireturn] := by decide +kernel
set_option maxRecDepth 100000 in
theorem nl121 : mm_ml 121 = 4 := by decide +kernel
set_option maxRecDepth 100000 in
theorem nn121 : mm_na 121 = 2 := by decide +kernel
set_option maxRecDepth 100000 in
theorem nc121 : mm_ci 121 = 10 := by decide +kernel
-- part (II)I
set_option maxRecDepth 100000 in
theorem nb122_0 : mm_blk 122 0 = some [.aload 0, .invokeinterface 10 20, .iload 1, .iaload, .istore 3, .sipush (0), .istore 4, .goto_w 10] := by decide +kernel
set_option maxRecDepth 100000 in
theorem nb122_10 : mm_blk 122 10 = some [.iload 4, .iload 2, .if_icmp .ge 29, .aload 0, .invokeinterface 10 22, .iload 3, .iaload, .istore 3, .iinc 4 (1), .goto 10] := by decide +kernel
set_option maxRecDepth 100000 in
theorem nb122_29 : mm_blk 122 29 = some [.aload 0, .invokeinterface 10 21, .iload 3, .iaload, .ireturn] := by decide +kernel
set_option maxRecDepth 100000 in
theorem nl122 : mm_ml 122 = 5 := by decide +kernel
set_option maxRecDepth 100000 in
theorem nn122 : mm_na 122 = 3 := by decide +kernel
set_option maxRecDepth 100000 in
theorem nc122 : mm_ci 122 = 10 := by decide +kernel
-- word (III)I
set_option maxRecDepth 100000 in
theorem nb123_0 : mm_blk 123 0 = some [.iload 0, .sipush (16), .ishl, .iload 1, .sipush (8), .ishl, .ior, .iload 2, .ior, .ireturn] := by decide +kernel
set_option maxRecDepth 100000 in
theorem nl123 : mm_ml 123 = 3 := by decide +kernel
set_option maxRecDepth 100000 in
theorem nn123 : mm_na 123 = 3 := by decide +kernel
set_option maxRecDepth 100000 in
theorem nc123 : mm_ci 123 = 10 := by decide +kernel
-- isSymbol (I)Z
set_option maxRecDepth 100000 in
theorem nb124_0 : mm_blk 124 0 = some [.aload 0, .invokeinterface 10 19, .iload 1, .iaload, .sipush (1), .if_icmp .ne 30, .aload 0, .invokeinterface 10 20, .iload 1, .iaload, .sipush (255), .iand, .invokestatic 114, .ifCond .eq 30, .sipush (1), .goto 31] := by decide +kernel
set_option maxRecDepth 100000 in
theorem nb124_30 : mm_blk 124 30 = some [.sipush (0), .goto_w 31] := by decide +kernel
set_option maxRecDepth 100000 in
theorem nb124_31 : mm_blk 124 31 = some [.freturn] := by decide +kernel
set_option maxRecDepth 100000 in
theorem nl124 : mm_ml 124 = 2 := by decide +kernel
set_option maxRecDepth 100000 in
theorem nn124 : mm_na 124 = 2 := by decide +kernel
set_option maxRecDepth 100000 in
theorem nc124 : mm_ci 124 = 10 := by decide +kernel
-- isWord (I)Z
set_option maxRecDepth 100000 in
theorem nb125_0 : mm_blk 125 0 = some [.iload 0, .sipush (100), .sipush (101), .sipush (102), .invokestatic 123, .if_icmp .eq 89, .iload 0, .sipush (109), .sipush (97), .sipush (99), .invokestatic 123, .if_icmp .eq 89, .iload 0, .sipush (0), .sipush (105), .sipush (102), .invokestatic 123, .if_icmp .eq 89, .iload 0, .sipush (108), .sipush (101), .sipush (116), .invokestatic 123, .if_icmp .eq 89, .iload 0, .sipush (0), .sipush (100), .sipush (111), .invokestatic 123, .if_icmp .eq 89, .iload 0, .sipush (115), .sipush (101), .sipush (116), .invokestatic 123, .if_icmp .eq 89, .iload 0, .sipush (114), .sipush (117), .sipush (110), .invokestatic 123, .if_icmp .ne 93, .goto_w 89] := by decide +kernel
set_option maxRecDepth 100000 in
theorem nb125_89 : mm_blk 125 89 = some [.sipush (1), .goto 94] := by decide +kernel
set_option maxRecDepth 100000 in
theorem nb125_93 : mm_blk 125 93 = some [.sipush (0), .goto_w 94] := by decide +kernel
set_option maxRecDepth 100000 in
theorem nb125_94 : mm_blk 125 94 = some [.freturn] := by decide +kernel
set_option maxRecDepth 100000 in
theorem nl125 : mm_ml 125 = 1 := by decide +kernel
set_option maxRecDepth 100000 in
theorem nn125 : mm_na 125 = 1 := by decide +kernel
set_option maxRecDepth 100000 in
theorem nc125 : mm_ci 125 = 10 := by decide +kernel
-- parametersOf (I)I
set_option maxRecDepth 100000 in
theorem nb126_0 : mm_blk 126 0 = some [.aload 0, .iload 1, .invokevirtual 121, .istore 2, .aload 0, .aload 0, .invokeinterface 10 28, .ifCond .ne 29, .aload 0, .invokeinterface 10 19, .iload 1, .iaload, .sipush (2), .if_icmp .ne 29, .iload 2, .sipush (4), .if_icmp .le 33, .goto_w 29] := by decide +kernel
set_option maxRecDepth 100000 in
theorem nb126_29 : mm_blk 126 29 = some [.sipush (1), .goto 34] := by decide +kernel
set_option maxRecDepth 100000 in
theorem nb126_33 : mm_blk 126 33 = some [.sipush (0), .goto_w 34] := by decide +kernel
set_option maxRecDepth 100000 in
theorem nb126_34 : mm_blk 126 34 = some [.multianewarray 10 28, .sipush (0), .istore 3, .goto_w 39] := by decide +kernel
set_option maxRecDepth 100000 in
theorem nb126_39 : mm_blk 126 39 = some [.iload 3, .iload 2, .if_icmp .ge 148, .aload 0, .invokeinterface 10 28, .ifCond .ne 148, .aload 0, .iload 1, .iload 3, .invokevirtual 122, .istore 4, .aload 0, .aload 0, .iload 4, .invokevirtual 124, .ifCond .ne 73, .sipush (1), .goto 74] := by decide +kernel
set_option maxRecDepth 100000 in
theorem nb126_73 : mm_blk 126 73 = some [.sipush (0), .goto_w 74] := by decide +kernel
set_option maxRecDepth 100000 in
theorem nb126_74 : mm_blk 126 74 = some [.multianewarray 10 28, .sipush (0), .istore 5, .goto_w 80] := by decide +kernel
set_option maxRecDepth 100000 in
theorem nb126_80 : mm_blk 126 80 = some [.iload 5, .iload 3, .if_icmp .ge 130, .aload 0, .invokeinterface 10 28, .ifCond .ne 130, .aload 0, .aload 0, .invokeinterface 10 20, .aload 0, .iload 1, .iload 5, .invokevirtual 122, .iaload, .aload 0, .invokeinterface 10 20, .iload 4, .iaload, .if_icmp .ne 120, .sipush (1), .goto 121] := by decide +kernel
set_option maxRecDepth 100000 in
theorem nb126_120 : mm_blk 126 120 = some [.sipush (0), .goto_w 121] := by decide +kernel
set_option maxRecDepth 100000 in
theorem nb126_121 : mm_blk 126 121 = some [.multianewarray 10 28, .iinc 5 (1), .goto 80] := by decide +kernel
set_option maxRecDepth 100000 in
theorem nb126_130 : mm_blk 126 130 = some [.aload 0, .aload 0, .invokeinterface 10 20, .iload 4, .iaload, .iload 3, .invokevirtual 127, .iinc 3 (1), .goto 39] := by decide +kernel
set_option maxRecDepth 100000 in
theorem nb126_148 : mm_blk 126 148 = some [.iload 2, .ireturn] := by decide +kernel
set_option maxRecDepth 100000 in
theorem nl126 : mm_ml 126 = 6 := by decide +kernel
set_option maxRecDepth 100000 in
theorem nn126 : mm_na 126 = 2 := by decide +kernel
set_option maxRecDepth 100000 in
theorem nc126 : mm_ci 126 = 10 := by decide +kernel
-- know (II)V
set_option maxRecDepth 100000 in
theorem nb127_0 : mm_blk 127 0 = some [.aload 0, .invokeinterface 10 39, .aload 0, .invokeinterface 10 32, .iload 1, .iastore, .aload 0, .invokeinterface 10 40, .aload 0, .invokeinterface 10 32, .iload 2, .iastore, .aload 0, .dup, .invokeinterface 10 32, .sipush (1), .iadd, .multianewarray 10 32, .return_] := by decide +kernel
set_option maxRecDepth 100000 in
theorem nl127 : mm_ml 127 = 3 := by decide +kernel
set_option maxRecDepth 100000 in
theorem nn127 : mm_na 127 = 3 := by decide +kernel
set_option maxRecDepth 100000 in
theorem nc127 : mm_ci 127 = 10 := by decide +kernel
-- body (III)V
set_option maxRecDepth 100000 in
theorem nb128_0 : mm_blk 128 0 = some [.aload 0, .sipush (0), .multianewarray 10 29, .aload 0, .sipush (0), .multianewarray 10 30, .aload 0, .iload 3, .multianewarray 10 31, .aload 0, .sipush (0), .multianewarray 10 33, .aload 0, .sipush (0), .multianewarray 10 34, .aload 0, .sipush (0), .iload 1, .sipush (0), .invokevirtual 129, .goto_w 32] := by decide +kernel
set_option maxRecDepth 100000 in
theorem nb128_32 : mm_blk 128 32 = some [.aload 0, .invokeinterface 10 29, .ifCond .le 90, .aload 0, .invokeinterface 10 28, .ifCond .ne 90, .aload 0, .dup, .invokeinterface 10 29, .sipush (1), .isub, .multianewarray 10 29, .aload 0, .aload 0, .invokeinterface 10 35, .aload 0, .invokeinterface 10 29, .iaload, .aload 0, .invokeinterface 10 36, .aload 0, .invokeinterface 10 29, .iaload, .aload 0, .invokeinterface 10 37, .aload 0, .invokeinterface 10 29, .iaload, .invokevirtual 130, .goto 32] := by decide +kernel
set_option maxRecDepth 100000 in
theorem nb128_90 : mm_blk 128 90 = some [.aload 0, .iload 2, .invokevirtual 136, .iload 2, .sipush (13), .if_icmp .ne 106, .aload 0, .iload 3, .invokevirtual 136, .goto_w 106] := by decide +kernel
set_option maxRecDepth 100000 in
theorem nb128_106 : mm_blk 128 106 = some [.return_] := by decide +kernel
set_option maxRecDepth 100000 in
theorem nl128 : mm_ml 128 = 4 := by decide +kernel
set_option maxRecDepth 100000 in
theorem nn128 : mm_na 128 = 4 := by decide +kernel
set_option maxRecDepth 100000 in
theorem nc128 : mm_ci 128 = 10 := by decide +kernel
-- push (III)V
set_option maxRecDepth 100000 in
theorem nb129_0 : mm_blk 129 0 = some [.aload 0, .invokeinterface 10 35, .aload 0, .invokeinterface 10 29, .iload 1, .iastore, .aload 0, .invokeinterface 10 36, .aload 0, .invokeinterface 10 29, .iload 2, .iastore, .aload 0, .invokeinterface 10 37, .aload 0, .invokeinterface 10 29, .iload 3, .iastore, .aload 0, .dup, .invokeinterface 10 29, .sipush (1), .iadd, .multianewarray 10 29, .return_] := by decide +kernel
set_option maxRecDepth 100000 in
theorem nl129 : mm_ml 129 = 4 := by decide +kernel
set_option maxRecDepth 100000 in
theorem nn129 : mm_na 129 = 4 := by decide +kernel
set_option maxRecDepth 100000 in
theorem nc129 : mm_ci 129 = 10 := by decide +kernel
-- perform (III)V
set_option maxRecDepth 100000 in
theorem nb130_0 : mm_blk 130 0 = some [.iload 1, .lookupswitch 465 #[(0, 64), (1, 90), (2, 121), (3, 139), (4, 185), (5, 236), (6, 244), (7, 288), (8, 317), (9, 365), (10, 383), (11, 430)]] := by decide +kernel
set_option maxRecDepth 100000 in
theorem nb130_64 : mm_blk 130 64 = some [.aload 0, .invokeinterface 10 19, .iload 2, .iaload, .sipush (2), .if_icmp .ne 82, .aload 0, .iload 2, .invokevirtual 131, .goto 526] := by decide +kernel
set_option maxRecDepth 100000 in
theorem nb130_82 : mm_blk 130 82 = some [.aload 0, .iload 2, .invokevirtual 135, .goto 526] := by decide +kernel
set_option maxRecDepth 100000 in
theorem nb130_90 : mm_blk 130 90 = some [.iload 2, .ifCond .lt 526, .aload 0, .sipush (1), .aload 0, .invokeinterface 10 22, .iload 2, .iaload, .sipush (0), .invokevirtual 129, .aload 0, .sipush (0), .aload 0, .invokeinterface 10 21, .iload 2, .iaload, .sipush (0), .invokevirtual 129, .goto 526] := by decide +kernel
set_option maxRecDepth 100000 in
theorem nb130_121 : mm_blk 130 121 = some [.aload 0, .iload 2, .invokevirtual 136, .aload 0, .dup, .invokeinterface 10 31, .sipush (1), .isub, .multianewarray 10 31, .goto 526] := by decide +kernel
set_option maxRecDepth 100000 in
theorem nb130_139 : mm_blk 130 139 = some [.aload 0, .sipush (8), .invokevirtual 136, .aload 0, .sipush (4), .iload 2, .aload 0, .invokeinterface 10 30, .invokevirtual 129, .aload 0, .sipush (0), .invokevirtual 137, .aload 0, .dup, .invokeinterface 10 31, .sipush (1), .isub, .multianewarray 10 31, .aload 0, .sipush (0), .aload 0, .iload 2, .sipush (2), .invokevirtual 122, .sipush (0), .invokevirtual 129, .goto 526] := by decide +kernel
set_option maxRecDepth 100000 in
theorem nb130_185 : mm_blk 130 185 = some [.aload 0, .sipush (7), .invokevirtual 136, .aload 0, .sipush (5), .aload 0, .invokeinterface 10 30, .sipush (0), .invokevirtual 129, .aload 0, .sipush (0), .invokevirtual 137, .aload 0, .iload 3, .invokevirtual 139, .aload 0, .dup, .invokeinterface 10 31, .sipush (1), .isub, .multianewarray 10 31, .aload 0, .sipush (0), .aload 0, .iload 2, .sipush (3), .invokevirtual 122, .sipush (0), .invokevirtual 129, .goto 526] := by decide +kernel
set_option maxRecDepth 100000 in
theorem nb130_236 : mm_blk 130 236 = some [.aload 0, .iload 2, .invokevirtual 139, .goto 526] := by decide +kernel
set_option maxRecDepth 100000 in
theorem nb130_244 : mm_blk 130 244 = some [.aload 0, .aload 0, .invokeinterface 10 20, .aload 0, .iload 2, .sipush (1), .invokevirtual 122, .iaload, .aload 0, .invokeinterface 10 31, .sipush (1), .isub, .invokevirtual 127, .aload 0, .sipush (7), .sipush (0), .sipush (0), .invokevirtual 129, .aload 0, .sipush (0), .aload 0, .iload 2, .sipush (3), .invokevirtual 122, .sipush (0), .invokevirtual 129, .goto 526] := by decide +kernel
set_option maxRecDepth 100000 in
theorem nb130_288 : mm_blk 130 288 = some [.aload 0, .sipush (9), .invokevirtual 136, .aload 0, .dup, .invokeinterface 10 31, .sipush (1), .isub, .multianewarray 10 31, .aload 0, .dup, .invokeinterface 10 32, .sipush (1), .isub, .multianewarray 10 32, .goto 526] := by decide +kernel
set_option maxRecDepth 100000 in
theorem nb130_317 : mm_blk 130 317 = some [.iload 2, .ifCond .lt 526, .aload 0, .sipush (10), .invokevirtual 136, .aload 0, .dup, .invokeinterface 10 31, .sipush (1), .isub, .multianewarray 10 31, .aload 0, .sipush (8), .aload 0, .invokeinterface 10 22, .iload 2, .iaload, .sipush (0), .invokevirtual 129, .aload 0, .sipush (0), .aload 0, .invokeinterface 10 21, .iload 2, .iaload, .sipush (0), .invokevirtual 129, .goto 526] := by decide +kernel
set_option maxRecDepth 100000 in
theorem nb130_365 : mm_blk 130 365 = some [.aload 0, .sipush (11), .invokevirtual 136, .aload 0, .aload 0, .iload 2, .invokevirtual 138, .invokevirtual 136, .goto 526] := by decide +kernel
set_option maxRecDepth 100000 in
theorem nb130_383 : mm_blk 130 383 = some [.aload 0, .sipush (8), .invokevirtual 136, .aload 0, .sipush (11), .aload 0, .invokeinterface 10 30, .iload 3, .invokevirtual 129, .aload 0, .sipush (0), .invokevirtual 137, .aload 0, .dup, .invokeinterface 10 31, .sipush (1), .isub, .multianewarray 10 31, .aload 0, .sipush (0), .aload 0, .iload 2, .sipush (2), .invokevirtual 122, .sipush (0), .invokevirtual 129, .goto 526] := by decide +kernel
set_option maxRecDepth 100000 in
theorem nb130_430 : mm_blk 130 430 = some [.aload 0, .sipush (10), .invokevirtual 136, .aload 0, .sipush (7), .invokevirtual 136, .aload 0, .iload 3, .invokevirtual 137, .aload 0, .iload 2, .invokevirtual 139, .aload 0, .sipush (0), .invokevirtual 136, .aload 0, .sipush (0), .invokevirtual 137, .goto 526] := by decide +kernel
set_option maxRecDepth 100000 in
theorem nb130_465 : mm_blk 130 465 = some [.aload 0, .sipush (12), .invokevirtual 136, .aload 0, .invokeinterface 10 41, .aload 0, .invokeinterface 10 34, .aload 0, .invokeinterface 10 30, .iastore, .aload 0, .invokeinterface 10 42, .aload 0, .invokeinterface 10 34, .iload 2, .iastore, .aload 0, .dup, .invokeinterface 10 34, .sipush (1), .iadd, .multianewarray 10 34, .aload 0, .sipush (0), .invokevirtual 137, .aload 0, .iload 3, .invokevirtual 136, .aload 0, .dup, .invokeinterface 10 31, .sipush (1), .iload 3, .isub, .iadd, .multianewarray 10 31, .goto_w 526] := by decide +kernel
set_option maxRecDepth 100000 in
theorem nb130_526 : mm_blk 130 526 = some [.return_] := by decide +kernel
set_option maxRecDepth 100000 in
theorem nl130 : mm_ml 130 = 4 := by decide +kernel
set_option maxRecDepth 100000 in
theorem nn130 : mm_na 130 = 4 := by decide +kernel
set_option maxRecDepth 100000 in
theorem nc130 : mm_ci 130 = 10 := by decide +kernel
end
section
-- listed (I)V
set_option maxRecDepth 100000 in
theorem nb131_0 : mm_blk 131 0 = some [.aload 0, .iload 1, .invokevirtual 121, .istore 2, .aload 0, .iload 1, .invokevirtual 120, .istore 3, .aload 0, .iload 3, .invokevirtual 132, .istore 4, .iload 2, .ifCond .le 37, .aload 0, .invokeinterface 10 22, .aload 0, .invokeinterface 10 20, .iload 1, .iaload, .iaload, .goto 38] := by decide +kernel
set_option maxRecDepth 100000 in
theorem nb131_37 : mm_blk 131 37 = some [.sipush (-1), .goto_w 38] := by decide +kernel
set_option maxRecDepth 100000 in
theorem nb131_38 : mm_blk 131 38 = some [.istore 5, .iload 4, .ifCond .lt 56, .aload 0, .iload 1, .iload 4, .iload 2, .invokevirtual 133, .goto 392] := by decide +kernel
set_option maxRecDepth 100000 in
theorem nb131_56 : mm_blk 131 56 = some [.iload 3, .invokestatic 134, .ifCond .le 105, .iload 2, .sipush (3), .if_icmp .ne 105, .aload 0, .sipush (2), .iload 3, .invokestatic 134, .sipush (0), .invokevirtual 129, .aload 0, .sipush (0), .aload 0, .iload 1, .sipush (2), .invokevirtual 122, .sipush (0), .invokevirtual 129, .aload 0, .sipush (0), .aload 0, .iload 1, .sipush (1), .invokevirtual 122, .sipush (0), .invokevirtual 129, .goto 392] := by decide +kernel
set_option maxRecDepth 100000 in
theorem nb131_105 : mm_blk 131 105 = some [.iload 3, .sipush (0), .sipush (105), .sipush (102), .invokestatic 123, .if_icmp .ne 144, .iload 2, .sipush (4), .if_icmp .ne 144, .aload 0, .sipush (3), .iload 1, .sipush (0), .invokevirtual 129, .aload 0, .sipush (0), .aload 0, .iload 1, .sipush (1), .invokevirtual 122, .sipush (0), .invokevirtual 129, .goto 392] := by decide +kernel
set_option maxRecDepth 100000 in
theorem nb131_144 : mm_blk 131 144 = some [.iload 3, .sipush (108), .sipush (101), .sipush (116), .invokestatic 123, .if_icmp .ne 198, .iload 2, .sipush (4), .if_icmp .ne 198, .aload 0, .aload 0, .iload 1, .sipush (1), .invokevirtual 122, .invokevirtual 124, .ifCond .eq 198, .aload 0, .sipush (6), .iload 1, .sipush (0), .invokevirtual 129, .aload 0, .sipush (0), .aload 0, .iload 1, .sipush (2), .invokevirtual 122, .sipush (0), .invokevirtual 129, .goto 392] := by decide +kernel
set_option maxRecDepth 100000 in
theorem nb131_198 : mm_blk 131 198 = some [.iload 3, .sipush (0), .sipush (100), .sipush (111), .invokestatic 123, .if_icmp .ne 245, .iload 2, .sipush (1), .if_icmp .le 245, .aload 0, .sipush (8), .aload 0, .invokeinterface 10 22, .iload 5, .iaload, .sipush (0), .invokevirtual 129, .aload 0, .sipush (0), .aload 0, .invokeinterface 10 21, .iload 5, .iaload, .sipush (0), .invokevirtual 129, .goto 392] := by decide +kernel
set_option maxRecDepth 100000 in
theorem nb131_245 : mm_blk 131 245 = some [.iload 3, .sipush (115), .sipush (101), .sipush (116), .invokestatic 123, .if_icmp .ne 304, .iload 2, .sipush (3), .if_icmp .ne 304, .aload 0, .aload 0, .iload 1, .sipush (1), .invokevirtual 122, .invokevirtual 124, .ifCond .eq 304, .aload 0, .sipush (9), .aload 0, .iload 1, .sipush (1), .invokevirtual 122, .sipush (0), .invokevirtual 129, .aload 0, .sipush (0), .aload 0, .iload 1, .sipush (2), .invokevirtual 122, .sipush (0), .invokevirtual 129, .goto 392] := by decide +kernel
set_option maxRecDepth 100000 in
theorem nb131_304 : mm_blk 131 304 = some [.iload 3, .sipush (114), .sipush (117), .sipush (110), .invokestatic 123, .if_icmp .ne 348, .iload 2, .sipush (3), .if_icmp .ne 348, .aload 0, .sipush (10), .iload 1, .aload 0, .invokeinterface 10 30, .invokevirtual 129, .aload 0, .sipush (0), .aload 0, .iload 1, .sipush (1), .invokevirtual 122, .sipush (0), .invokevirtual 129, .goto 392] := by decide +kernel
set_option maxRecDepth 100000 in
theorem nb131_348 : mm_blk 131 348 = some [.iload 3, .sipush (255), .iand, .invokestatic 114, .ifCond .eq 387, .iload 3, .invokestatic 125, .ifCond .ne 387, .aload 0, .sipush (12), .iload 3, .iload 2, .sipush (1), .isub, .invokevirtual 129, .aload 0, .sipush (1), .iload 5, .sipush (0), .invokevirtual 129, .goto 392] := by decide +kernel
set_option maxRecDepth 100000 in
theorem nb131_387 : mm_blk 131 387 = some [.aload 0, .sipush (1), .multianewarray 10 28, .goto_w 392] := by decide +kernel
set_option maxRecDepth 100000 in
theorem nb131_392 : mm_blk 131 392 = some [.return_] := by decide +kernel
set_option maxRecDepth 100000 in
theorem nl131 : mm_ml 131 = 6 := by decide +kernel
set_option maxRecDepth 100000 in
theorem nn131 : mm_na 131 = 2 := by decide +kernel
set_option maxRecDepth 100000 in
theorem nc131 : mm_ci 131 = 10 := by decide +kernel
-- macro (I)I
set_option maxRecDepth 100000 in
theorem nb132_0 : mm_blk 132 0 = some [.aload 0, .invokeinterface 10 2, .sipush (1), .isub, .istore 2, .goto_w 7] := by decide +kernel
set_option maxRecDepth 100000 in
theorem nb132_7 : mm_blk 132 7 = some [.iload 2, .ifCond .lt 37, .aload 0, .invokeinterface 10 6, .iload 2, .iaload, .sipush (2), .if_icmp .ne 31, .aload 0, .invokeinterface 10 7, .iload 2, .iaload, .iload 1, .if_icmp .eq 37, .goto_w 31] := by decide +kernel
set_option maxRecDepth 100000 in
theorem nb132_31 : mm_blk 132 31 = some [.iinc 2 (-1), .goto 7] := by decide +kernel
set_option maxRecDepth 100000 in
theorem nb132_37 : mm_blk 132 37 = some [.iload 1, .ifCond .ne 45, .sipush (-1), .goto 46] := by decide +kernel
set_option maxRecDepth 100000 in
theorem nb132_45 : mm_blk 132 45 = some [.iload 2, .goto_w 46] := by decide +kernel
set_option maxRecDepth 100000 in
theorem nb132_46 : mm_blk 132 46 = some [.ireturn] := by decide +kernel
set_option maxRecDepth 100000 in
theorem nl132 : mm_ml 132 = 3 := by decide +kernel
set_option maxRecDepth 100000 in
theorem nn132 : mm_na 132 = 2 := by decide +kernel
set_option maxRecDepth 100000 in
theorem nc132 : mm_ci 132 = 10 := by decide +kernel
-- replace (III)V
set_option maxRecDepth 100000 in
theorem nb133_0 : mm_blk 133 0 = some [.aload 0, .dup, .invokeinterface 10 33, .sipush (1), .iadd, .multianewarray 10 33, .aload 0, .invokeinterface 10 33, .sipush (12), .if_icmp .gt 31, .iload 3, .aload 0, .invokeinterface 10 8, .iload 2, .iaload, .sipush (1), .iadd, .if_icmp .eq 37, .goto_w 31] := by decide +kernel
set_option maxRecDepth 100000 in
theorem nb133_31 : mm_blk 133 31 = some [.aload 0, .sipush (1), .multianewarray 10 28, .return_] := by decide +kernel
set_option maxRecDepth 100000 in
theorem nb133_37 : mm_blk 133 37 = some [.aload 0, .sipush (0), .aload 0, .iload 2, .sipush (0), .aload 0, .invokeinterface 10 22, .aload 0, .invokeinterface 10 20, .iload 1, .iaload, .iaload, .invokevirtual 111, .sipush (0), .invokevirtual 129, .return_] := by decide +kernel
set_option maxRecDepth 100000 in
theorem nl133 : mm_ml 133 = 4 := by decide +kernel
set_option maxRecDepth 100000 in
theorem nn133 : mm_na 133 = 4 := by decide +kernel
set_option maxRecDepth 100000 in
theorem nc133 : mm_ci 133 = 10 := by decide +kernel
-- sign (I)I
set_option maxRecDepth 100000 in
theorem nb134_0 : mm_blk 134 0 = some [.iload 0, .sipush (43), .if_icmp .ne 10, .sipush (2), .goto 52] := by decide +kernel
set_option maxRecDepth 100000 in
theorem nb134_10 : mm_blk 134 10 = some [.iload 0, .sipush (45), .if_icmp .ne 20, .sipush (3), .goto 52] := by decide +kernel
set_option maxRecDepth 100000 in
theorem nb134_20 : mm_blk 134 20 = some [.iload 0, .sipush (42), .if_icmp .ne 30, .sipush (4), .goto 52] := by decide +kernel
set_option maxRecDepth 100000 in
theorem nb134_30 : mm_blk 134 30 = some [.iload 0, .sipush (60), .if_icmp .ne 40, .sipush (5), .goto 52] := by decide +kernel
set_option maxRecDepth 100000 in
theorem nb134_40 : mm_blk 134 40 = some [.iload 0, .sipush (61), .if_icmp .ne 51, .sipush (6), .goto 52] := by decide +kernel
set_option maxRecDepth 100000 in
theorem nb134_51 : mm_blk 134 51 = some [.sipush (0), .goto_w 52] := by decide +kernel
set_option maxRecDepth 100000 in
theorem nb134_52 : mm_blk 134 52 = some [.ireturn] := by decide +kernel
set_option maxRecDepth 100000 in
theorem nl134 : mm_ml 134 = 1 := by decide +kernel
set_option maxRecDepth 100000 in
theorem nn134 : mm_na 134 = 1 := by decide +kernel
set_option maxRecDepth 100000 in
theorem nc134 : mm_ci 134 = 10 := by decide +kernel
-- atom (I)V
set_option maxRecDepth 100000 in
theorem nb135_0 : mm_blk 135 0 = some [.aload 0, .invokeinterface 10 19, .iload 1, .iaload, .ifCond .ne 27, .aload 0, .sipush (0), .invokevirtual 136, .aload 0, .aload 0, .invokeinterface 10 20, .iload 1, .iaload, .invokevirtual 137, .goto 43] := by decide +kernel
set_option maxRecDepth 100000 in
theorem nb135_27 : mm_blk 135 27 = some [.aload 0, .iload 1, .invokevirtual 138, .istore 2, .aload 0, .sipush (1), .invokevirtual 136, .aload 0, .iload 2, .invokevirtual 136, .goto_w 43] := by decide +kernel
set_option maxRecDepth 100000 in
theorem nb135_43 : mm_blk 135 43 = some [.aload 0, .dup, .invokeinterface 10 31, .sipush (1), .iadd, .multianewarray 10 31, .return_] := by decide +kernel
set_option maxRecDepth 100000 in
theorem nl135 : mm_ml 135 = 3 := by decide +kernel
set_option maxRecDepth 100000 in
theorem nn135 : mm_na 135 = 2 := by decide +kernel
set_option maxRecDepth 100000 in
theorem nc135 : mm_ci 135 = 10 := by decide +kernel
-- emit (I)V
set_option maxRecDepth 100000 in
theorem nb136_0 : mm_blk 136 0 = some [.aload 0, .invokeinterface 10 30, .sipush (260), .if_icmp .ge 31, .aload 0, .invokeinterface 10 38, .aload 0, .invokeinterface 10 30, .iload 1, .i2b, .bastore, .aload 0, .dup, .invokeinterface 10 30, .sipush (1), .iadd, .multianewarray 10 30, .goto_w 31] := by decide +kernel
set_option maxRecDepth 100000 in
theorem nb136_31 : mm_blk 136 31 = some [.aload 0, .aload 0, .invokeinterface 10 28, .ifCond .ne 49, .aload 0, .invokeinterface 10 30, .sipush (200), .if_icmp .le 53, .goto_w 49] := by decide +kernel
set_option maxRecDepth 100000 in
theorem nb136_49 : mm_blk 136 49 = some [.sipush (1), .goto 54] := by decide +kernel
set_option maxRecDepth 100000 in
theorem nb136_53 : mm_blk 136 53 = some [.sipush (0), .goto_w 54] := by decide +kernel
set_option maxRecDepth 100000 in
theorem nb136_54 : mm_blk 136 54 = some [.multianewarray 10 28, .return_] := by decide +kernel
set_option maxRecDepth 100000 in
theorem nl136 : mm_ml 136 = 2 := by decide +kernel
set_option maxRecDepth 100000 in
theorem nn136 : mm_na 136 = 2 := by decide +kernel
set_option maxRecDepth 100000 in
theorem nc136 : mm_ci 136 = 10 := by decide +kernel
-- emitPlace (I)V
set_option maxRecDepth 100000 in
theorem nb137_0 : mm_blk 137 0 = some [.aload 0, .iload 1, .sipush (8), .ishr, .invokevirtual 136, .aload 0, .iload 1, .invokevirtual 136, .return_] := by decide +kernel
set_option maxRecDepth 100000 in
theorem nl137 : mm_ml 137 = 2 := by decide +kernel
set_option maxRecDepth 100000 in
theorem nn137 : mm_na 137 = 2 := by decide +kernel
set_option maxRecDepth 100000 in
theorem nc137 : mm_ci 137 = 10 := by decide +kernel
-- slotOf (I)I
set_option maxRecDepth 100000 in
theorem nb138_0 : mm_blk 138 0 = some [.aload 0, .invokeinterface 10 32, .sipush (1), .isub, .istore 2, .goto_w 7] := by decide +kernel
set_option maxRecDepth 100000 in
theorem nb138_7 : mm_blk 138 7 = some [.iload 2, .ifCond .lt 42, .aload 0, .invokeinterface 10 19, .iload 1, .iaload, .sipush (1), .if_icmp .ne 36, .aload 0, .invokeinterface 10 39, .iload 2, .iaload, .aload 0, .invokeinterface 10 20, .iload 1, .iaload, .if_icmp .eq 42, .goto_w 36] := by decide +kernel
set_option maxRecDepth 100000 in
theorem nb138_36 : mm_blk 138 36 = some [.iinc 2 (-1), .goto 7] := by decide +kernel
set_option maxRecDepth 100000 in
theorem nb138_42 : mm_blk 138 42 = some [.aload 0, .aload 0, .invokeinterface 10 28, .ifCond .ne 54, .iload 2, .ifCond .ge 58, .goto_w 54] := by decide +kernel
set_option maxRecDepth 100000 in
theorem nb138_54 : mm_blk 138 54 = some [.sipush (1), .goto 59] := by decide +kernel
set_option maxRecDepth 100000 in
theorem nb138_58 : mm_blk 138 58 = some [.sipush (0), .goto_w 59] := by decide +kernel
set_option maxRecDepth 100000 in
theorem nb138_59 : mm_blk 138 59 = some [.multianewarray 10 28, .iload 2, .ifCond .ge 70, .sipush (0), .goto 76] := by decide +kernel
set_option maxRecDepth 100000 in
theorem nb138_70 : mm_blk 138 70 = some [.aload 0, .invokeinterface 10 40, .iload 2, .iaload, .goto_w 76] := by decide +kernel
set_option maxRecDepth 100000 in
theorem nb138_76 : mm_blk 138 76 = some [.ireturn] := by decide +kernel
set_option maxRecDepth 100000 in
theorem nl138 : mm_ml 138 = 3 := by decide +kernel
set_option maxRecDepth 100000 in
theorem nn138 : mm_na 138 = 2 := by decide +kernel
set_option maxRecDepth 100000 in
theorem nc138 : mm_ci 138 = 10 := by decide +kernel
-- aim (I)V
set_option maxRecDepth 100000 in
theorem nb139_0 : mm_blk 139 0 = some [.aload 0, .invokeinterface 10 38, .iload 1, .aload 0, .invokeinterface 10 30, .sipush (8), .ishr, .i2b, .bastore, .aload 0, .invokeinterface 10 38, .iload 1, .sipush (1), .iadd, .aload 0, .invokeinterface 10 30, .i2b, .bastore, .return_] := by decide +kernel
set_option maxRecDepth 100000 in
theorem nl139 : mm_ml 139 = 2 := by decide +kernel
set_option maxRecDepth 100000 in
theorem nn139 : mm_na 139 = 2 := by decide +kernel
set_option maxRecDepth 100000 in
theorem nc139 : mm_ci 139 = 10 := by decide +kernel
-- fourth ()I
set_option maxRecDepth 100000 in
theorem nb140_0 : mm_blk 140 0 = some [.sipush (0), .istore 1, .sipush (0), .istore 2, .sipush (0), .istore 3, .sipush (0), .istore 4, .goto_w 9] := by decide +kernel
set_option maxRecDepth 100000 in
theorem nb140_9 : mm_blk 140 9 = some [.iload 4, .aload 0, .invokeinterface 10 1, .if_icmp .ge 152, .aload 0, .invokeinterface 10 5, .iload 4, .caload, .istore 5, .iload 5, .sipush (32), .if_icmp .eq 52, .iload 5, .sipush (40), .if_icmp .eq 52, .iload 5, .sipush (41), .if_icmp .eq 52, .sipush (1), .goto 53] := by decide +kernel
set_option maxRecDepth 100000 in
theorem nb140_52 : mm_blk 140 52 = some [.sipush (0), .goto_w 53] := by decide +kernel
set_option maxRecDepth 100000 in
theorem nb140_53 : mm_blk 140 53 = some [.istore 6, .iload 2, .sipush (1), .if_icmp .ne 80, .iload 5, .sipush (40), .if_icmp .eq 76, .iload 6, .ifCond .eq 80, .iload 3, .ifCond .ne 80, .goto_w 76] := by decide +kernel
set_option maxRecDepth 100000 in
theorem nb140_76 : mm_blk 140 76 = some [.sipush (1), .goto 81] := by decide +kernel
set_option maxRecDepth 100000 in
theorem nb140_80 : mm_blk 140 80 = some [.sipush (0), .goto_w 81] := by decide +kernel
set_option maxRecDepth 100000 in
theorem nb140_81 : mm_blk 140 81 = some [.istore 7, .iload 6, .ifCond .eq 97, .iload 2, .sipush (1), .if_icmp .ne 97, .sipush (1), .goto 98] := by decide +kernel
set_option maxRecDepth 100000 in
theorem nb140_97 : mm_blk 140 97 = some [.sipush (0), .goto_w 98] := by decide +kernel
set_option maxRecDepth 100000 in
theorem nb140_98 : mm_blk 140 98 = some [.istore 3, .iload 7, .ifCond .eq 110, .iload 1, .sipush (1), .iadd, .goto 111] := by decide +kernel
set_option maxRecDepth 100000 in
theorem nb140_110 : mm_blk 140 110 = some [.iload 1, .goto_w 111] := by decide +kernel
set_option maxRecDepth 100000 in
theorem nb140_111 : mm_blk 140 111 = some [.istore 1, .iload 1, .sipush (4), .if_icmp .ne 120, .iload 4, .ireturn] := by decide +kernel
set_option maxRecDepth 100000 in
theorem nb140_120 : mm_blk 140 120 = some [.iload 2, .iload 5, .sipush (40), .if_icmp .ne 132, .sipush (1), .goto 144] := by decide +kernel
set_option maxRecDepth 100000 in
theorem nb140_132 : mm_blk 140 132 = some [.iload 5, .sipush (41), .if_icmp .ne 143, .sipush (-1), .goto 144] := by decide +kernel
set_option maxRecDepth 100000 in
theorem nb140_143 : mm_blk 140 143 = some [.sipush (0), .goto_w 144] := by decide +kernel
set_option maxRecDepth 100000 in
theorem nb140_144 : mm_blk 140 144 = some [.iadd, .istore 2, .iinc 4 (1), .goto 9] := by decide +kernel
set_option maxRecDepth 100000 in
theorem nb140_152 : mm_blk 140 152 = some [.sipush (0), .ireturn] := by decide +kernel
set_option maxRecDepth 100000 in
theorem nl140 : mm_ml 140 = 8 := by decide +kernel
set_option maxRecDepth 100000 in
theorem nn140 : mm_na 140 = 1 := by decide +kernel
set_option maxRecDepth 100000 in
theorem nc140 : mm_ci 140 = 10 := by decide +kernel
-- keep (IIII)I
set_option maxRecDepth 100000 in
theorem nb141_0 : mm_blk 141 0 = some [.aload 0, .invokeinterface 10 2, .istore 5, .aload 0, .invokeinterface 10 6, .iload 5, .iload 1, .iastore, .aload 0, .invokeinterface 10 7, .iload 5, .iload 2, .iastore, .aload 0, .invokeinterface 10 8, .iload 5, .iload 3, .iastore, .aload 0, .invokeinterface 10 9, .iload 5, .iload 1, .sipush (2), .if_icmp .ne 45, .sipush (0), .goto 49] := by decide +kernel
set_option maxRecDepth 100000 in
theorem nb141_45 : mm_blk 141 45 = some [.aload 0, .invokeinterface 10 30, .goto_w 49] := by decide +kernel
set_option maxRecDepth 100000 in
theorem nb141_49 : mm_blk 141 49 = some [.iastore, .aload 0, .invokeinterface 10 11, .iload 5, .iload 1, .sipush (2), .if_icmp .ne 65, .sipush (0), .goto 69] := by decide +kernel
set_option maxRecDepth 100000 in
theorem nb141_65 : mm_blk 141 65 = some [.aload 0, .invokeinterface 10 34, .goto_w 69] := by decide +kernel
set_option maxRecDepth 100000 in
theorem nb141_69 : mm_blk 141 69 = some [.iastore, .sipush (0), .istore 6, .goto_w 73] := by decide +kernel
set_option maxRecDepth 100000 in
theorem nb141_73 : mm_blk 141 73 = some [.iload 6, .aload 0, .invokeinterface 10 9, .iload 5, .iaload, .if_icmp .ge 112, .aload 0, .invokeinterface 10 10, .sipush (200), .iload 5, .imul, .iload 6, .iadd, .aload 0, .invokeinterface 10 38, .iload 6, .baload, .bastore, .iinc 6 (1), .goto 73] := by decide +kernel
set_option maxRecDepth 100000 in
theorem nb141_112 : mm_blk 141 112 = some [.sipush (0), .istore 6, .goto_w 115] := by decide +kernel
set_option maxRecDepth 100000 in
theorem nb141_115 : mm_blk 141 115 = some [.iload 6, .aload 0, .invokeinterface 10 11, .iload 5, .iaload, .if_icmp .ge 173, .aload 0, .invokeinterface 10 12, .sipush (50), .iload 5, .imul, .iload 6, .iadd, .aload 0, .invokeinterface 10 41, .iload 6, .iaload, .iastore, .aload 0, .invokeinterface 10 13, .sipush (50), .iload 5, .imul, .iload 6, .iadd, .aload 0, .invokeinterface 10 42, .iload 6, .iaload, .iastore, .iinc 6 (1), .goto 115] := by decide +kernel
set_option maxRecDepth 100000 in
theorem nb141_173 : mm_blk 141 173 = some [.sipush (0), .istore 6, .goto_w 176] := by decide +kernel
set_option maxRecDepth 100000 in
theorem nb141_176 : mm_blk 141 176 = some [.iload 6, .iload 3, .if_icmp .ge 212, .iload 1, .sipush (2), .if_icmp .ne 212, .aload 0, .invokeinterface 10 14, .sipush (4), .iload 5, .imul, .iload 6, .iadd, .aload 0, .invokeinterface 10 39, .iload 6, .iaload, .iastore, .iinc 6 (1), .goto 176] := by decide +kernel
set_option maxRecDepth 100000 in
theorem nb141_212 : mm_blk 141 212 = some [.aload 0, .invokeinterface 10 16, .iload 5, .aload 0, .invokeinterface 10 1, .iload 4, .isub, .iastore, .iload 4, .istore 6, .goto_w 230] := by decide +kernel
set_option maxRecDepth 100000 in
theorem nb141_230 : mm_blk 141 230 = some [.iload 6, .aload 0, .invokeinterface 10 1, .if_icmp .ge 273, .iload 1, .sipush (2), .if_icmp .ne 273, .aload 0, .invokeinterface 10 15, .sipush (120), .iload 5, .imul, .iload 6, .iadd, .iload 4, .isub, .aload 0, .invokeinterface 10 5, .iload 6, .caload, .castore, .iinc 6 (1), .goto 230] := by decide +kernel
set_option maxRecDepth 100000 in
theorem nb141_273 : mm_blk 141 273 = some [.aload 0, .dup, .invokeinterface 10 2, .sipush (1), .iadd, .multianewarray 10 2, .iload 5, .ireturn] := by decide +kernel
set_option maxRecDepth 100000 in
theorem nl141 : mm_ml 141 = 7 := by decide +kernel
set_option maxRecDepth 100000 in
theorem nn141 : mm_na 141 = 5 := by decide +kernel
set_option maxRecDepth 100000 in
theorem nc141 : mm_ci 141 = 10 := by decide +kernel
-- position ()I
set_option maxRecDepth 100000 in
theorem nb142_0 : mm_blk 142 0 = some [.aload 0, .sipush (0), .multianewarray 10 0, .aload 0, .invokeinterface 10 3, .ireturn] := by decide +kernel
set_option maxRecDepth 100000 in
theorem nl142 : mm_ml 142 = 1 := by decide +kernel
set_option maxRecDepth 100000 in
theorem nn142 : mm_na 142 = 1 := by decide +kernel
set_option maxRecDepth 100000 in
theorem nc142 : mm_ci 142 = 10 := by decide +kernel
-- object (II)I
set_option maxRecDepth 100000 in
theorem nb143_0 : mm_blk 143 0 = some [.aload 0, .sipush (0), .multianewarray 10 0, .iload 1, .ifCond .lt 27, .iload 1, .aload 0, .invokeinterface 10 2, .if_icmp .ge 27, .aload 0, .invokeinterface 10 6, .iload 1, .iaload, .sipush (2), .if_icmp .ne 29, .goto_w 27] := by decide +kernel
set_option maxRecDepth 100000 in
theorem nb143_27 : mm_blk 143 27 = some [.sipush (-1), .ireturn] := by decide +kernel
set_option maxRecDepth 100000 in
theorem nb143_29 : mm_blk 143 29 = some [.sipush (1), .aload 0, .invokeinterface 10 7, .iload 1, .iaload, .invokestatic 144, .iadd, .istore 3, .sipush (1), .iload 3, .iadd, .istore 4, .iload 4, .sipush (3), .iadd, .istore 5, .iload 5, .aload 0, .invokeinterface 10 9, .iload 1, .iaload, .iadd, .istore 6, .iload 2, .ifCond .ne 74, .aload 0, .invokeinterface 10 6, .iload 1, .iaload, .ireturn] := by decide +kernel
set_option maxRecDepth 100000 in
theorem nb143_74 : mm_blk 143 74 = some [.iload 2, .ifCond .le 97, .iload 2, .iload 4, .if_icmp .ge 97, .aload 0, .invokeinterface 10 7, .iload 1, .iaload, .iload 2, .sipush (1), .isub, .invokestatic 145, .ireturn] := by decide +kernel
set_option maxRecDepth 100000 in
theorem nb143_97 : mm_blk 143 97 = some [.iload 2, .iload 4, .if_icmp .lt 150, .iload 2, .iload 5, .if_icmp .ge 150, .iload 2, .iload 4, .if_icmp .ne 124, .aload 0, .invokeinterface 10 8, .iload 1, .iaload, .goto 149] := by decide +kernel
set_option maxRecDepth 100000 in
theorem nb143_124 : mm_blk 143 124 = some [.aload 0, .invokeinterface 10 9, .iload 1, .iaload, .iload 2, .iload 4, .sipush (1), .iadd, .if_icmp .ne 143, .sipush (8), .goto 144] := by decide +kernel
set_option maxRecDepth 100000 in
theorem nb143_143 : mm_blk 143 143 = some [.sipush (0), .goto_w 144] := by decide +kernel
set_option maxRecDepth 100000 in
theorem nb143_144 : mm_blk 143 144 = some [.ishr, .sipush (255), .iand, .goto_w 149] := by decide +kernel
set_option maxRecDepth 100000 in
theorem nb143_149 : mm_blk 143 149 = some [.ireturn] := by decide +kernel
set_option maxRecDepth 100000 in
theorem nb143_150 : mm_blk 143 150 = some [.iload 2, .iload 5, .if_icmp .lt 182, .iload 2, .iload 6, .if_icmp .ge 182, .aload 0, .invokeinterface 10 10, .sipush (200), .iload 1, .imul, .iload 2, .iadd, .iload 5, .isub, .baload, .sipush (255), .iand, .ireturn] := by decide +kernel
set_option maxRecDepth 100000 in
theorem nb143_182 : mm_blk 143 182 = some [.iload 2, .iload 6, .if_icmp .ne 195, .aload 0, .invokeinterface 10 11, .iload 1, .iaload, .ireturn] := by decide +kernel
set_option maxRecDepth 100000 in
theorem nb143_195 : mm_blk 143 195 = some [.iload 6, .sipush (1), .iadd, .istore 7, .sipush (0), .istore 8, .goto_w 204] := by decide +kernel
set_option maxRecDepth 100000 in
theorem nb143_204 : mm_blk 143 204 = some [.iload 8, .aload 0, .invokeinterface 10 11, .iload 1, .iaload, .if_icmp .ge 324, .sipush (50), .iload 1, .imul, .iload 8, .iadd, .istore 9, .sipush (3), .aload 0, .invokeinterface 10 13, .iload 9, .iaload, .invokestatic 144, .iadd, .istore 10, .iload 2, .iload 7, .if_icmp .lt 311, .iload 2, .iload 7, .iload 10, .iadd, .if_icmp .ge 311, .iload 2, .iload 7, .if_icmp .ne 272, .aload 0, .invokeinterface 10 12, .iload 9, .iaload, .sipush (8), .ishr, .goto 310] := by decide +kernel
set_option maxRecDepth 100000 in
theorem nb143_272 : mm_blk 143 272 = some [.iload 2, .iload 7, .sipush (1), .iadd, .if_icmp .ne 294, .aload 0, .invokeinterface 10 12, .iload 9, .iaload, .sipush (255), .iand, .goto 310] := by decide +kernel
set_option maxRecDepth 100000 in
theorem nb143_294 : mm_blk 143 294 = some [.aload 0, .invokeinterface 10 13, .iload 9, .iaload, .iload 2, .iload 7, .isub, .sipush (2), .isub, .invokestatic 145, .goto_w 310] := by decide +kernel
set_option maxRecDepth 100000 in
theorem nb143_310 : mm_blk 143 310 = some [.ireturn] := by decide +kernel
set_option maxRecDepth 100000 in
theorem nb143_311 : mm_blk 143 311 = some [.iload 7, .iload 10, .iadd, .istore 7, .iinc 8 (1), .goto 204] := by decide +kernel
set_option maxRecDepth 100000 in
theorem nb143_324 : mm_blk 143 324 = some [.iload 2, .sipush (-1), .if_icmp .ne 334, .iload 7, .goto 335] := by decide +kernel
set_option maxRecDepth 100000 in
theorem nb143_334 : mm_blk 143 334 = some [.sipush (-1), .goto_w 335] := by decide +kernel
set_option maxRecDepth 100000 in
theorem nb143_335 : mm_blk 143 335 = some [.ireturn] := by decide +kernel
set_option maxRecDepth 100000 in
theorem nl143 : mm_ml 143 = 11 := by decide +kernel
set_option maxRecDepth 100000 in
theorem nn143 : mm_na 143 = 3 := by decide +kernel
set_option maxRecDepth 100000 in
theorem nc143 : mm_ci 143 = 10 := by decide +kernel
-- letters (I)I
set_option maxRecDepth 100000 in
theorem nb144_0 : mm_blk 144 0 = some [.iload 0, .ifCond .ne 8, .sipush (0), .goto 42] := by decide +kernel
set_option maxRecDepth 100000 in
theorem nb144_8 : mm_blk 144 8 = some [.iload 0, .sipush (256), .if_icmp .ge 19, .sipush (1), .goto 42] := by decide +kernel
set_option maxRecDepth 100000 in
theorem nb144_19 : mm_blk 144 19 = some [.iload 0, .sipush (65536), .if_icmp .ge 30, .sipush (2), .goto 42] := by decide +kernel
set_option maxRecDepth 100000 in
theorem nb144_30 : mm_blk 144 30 = some [.iload 0, .sipush (16777216), .if_icmp .ge 41, .sipush (3), .goto 42] := by decide +kernel
set_option maxRecDepth 100000 in
theorem nb144_41 : mm_blk 144 41 = some [.sipush (4), .goto_w 42] := by decide +kernel
set_option maxRecDepth 100000 in
theorem nb144_42 : mm_blk 144 42 = some [.ireturn] := by decide +kernel
set_option maxRecDepth 100000 in
theorem nl144 : mm_ml 144 = 1 := by decide +kernel
set_option maxRecDepth 100000 in
theorem nn144 : mm_na 144 = 1 := by decide +kernel
set_option maxRecDepth 100000 in
theorem nc144 : mm_ci 144 = 10 := by decide +kernel
-- nameByte (II)I
set_option maxRecDepth 100000 in
theorem nb145_0 : mm_blk 145 0 = some [.iload 0, .invokestatic 144, .istore 2, .iload 1, .ifCond .ne 13, .iload 2, .goto 25] := by decide +kernel
set_option maxRecDepth 100000 in
theorem nb145_13 : mm_blk 145 13 = some [.iload 0, .sipush (8), .iload 2, .iload 1, .isub, .imul, .ishr, .sipush (255), .iand, .goto_w 25] := by decide +kernel
set_option maxRecDepth 100000 in
theorem nb145_25 : mm_blk 145 25 = some [.ireturn] := by decide +kernel
set_option maxRecDepth 100000 in
theorem nl145 : mm_ml 145 = 3 := by decide +kernel
set_option maxRecDepth 100000 in
theorem nn145 : mm_na 145 = 2 := by decide +kernel
set_option maxRecDepth 100000 in
theorem nc145 : mm_ci 145 = 10 := by decide +kernel
-- clear ()V
set_option maxRecDepth 100000 in
theorem nb146_0 : mm_blk 146 0 = some [.aload 0, .sipush (0), .multianewarray 10 0, .aload 0, .sipush (0), .multianewarray 10 2, .return_] := by decide +kernel
set_option maxRecDepth 100000 in
theorem nl146 : mm_ml 146 = 1 := by decide +kernel
set_option maxRecDepth 100000 in
theorem nn146 : mm_na 146 = 1 := by decide +kernel
set_option maxRecDepth 100000 in
theorem nc146 : mm_ci 146 = 10 := by decide +kernel
-- link ()I
set_option maxRecDepth 100000 in
theorem nb147_0 : mm_blk 147 0 = some [.aload 0, .sipush (0), .sipush (0), .invokevirtual 148, .istore 1, .aload 0, .iload 1, .ifCond .ge 16, .sipush (1), .goto 17] := by decide +kernel
set_option maxRecDepth 100000 in
theorem nb147_16 : mm_blk 147 16 = some [.sipush (0), .goto_w 17] := by decide +kernel
set_option maxRecDepth 100000 in
theorem nb147_17 : mm_blk 147 17 = some [.multianewarray 10 4, .aload 0, .sipush (0), .multianewarray 10 43, .aload 0, .invokeinterface 10 4, .ifCond .ne 44, .aload 0, .invokeinterface 10 44, .sipush (0), .iload 1, .iastore, .aload 0, .sipush (1), .multianewarray 10 43, .goto_w 44] := by decide +kernel
set_option maxRecDepth 100000 in
theorem nb147_44 : mm_blk 147 44 = some [.sipush (0), .istore 2, .goto_w 46] := by decide +kernel
set_option maxRecDepth 100000 in
theorem nb147_46 : mm_blk 147 46 = some [.iload 2, .aload 0, .invokeinterface 10 43, .if_icmp .ge 81, .aload 0, .invokeinterface 10 4, .ifCond .ne 81, .aload 0, .aload 0, .aload 0, .invokeinterface 10 44, .iload 2, .iaload, .invokevirtual 149, .multianewarray 10 4, .iinc 2 (1), .goto 46] := by decide +kernel
set_option maxRecDepth 100000 in
theorem nb147_81 : mm_blk 147 81 = some [.sipush (0), .istore 2, .sipush (0), .istore 3, .goto_w 85] := by decide +kernel
set_option maxRecDepth 100000 in
theorem nb147_85 : mm_blk 147 85 = some [.iload 3, .aload 0, .invokeinterface 10 43, .if_icmp .ge 120, .aload 0, .invokeinterface 10 45, .iload 3, .iload 2, .iastore, .iload 2, .aload 0, .invokeinterface 10 9, .aload 0, .invokeinterface 10 44, .iload 3, .iaload, .iaload, .iadd, .istore 2, .iinc 3 (1), .goto 85] := by decide +kernel
set_option maxRecDepth 100000 in
theorem nb147_120 : mm_blk 147 120 = some [.aload 0, .aload 0, .invokeinterface 10 4, .ifCond .ne 139, .iload 2, .sipush (600), .if_icmp .le 139, .sipush (4), .goto 143] := by decide +kernel
set_option maxRecDepth 100000 in
theorem nb147_139 : mm_blk 147 139 = some [.aload 0, .invokeinterface 10 4, .goto_w 143] := by decide +kernel
set_option maxRecDepth 100000 in
theorem nb147_143 : mm_blk 147 143 = some [.multianewarray 10 4, .aload 0, .aload 0, .invokeinterface 10 4, .ifCond .le 158, .sipush (1), .goto 159] := by decide +kernel
set_option maxRecDepth 100000 in
theorem nb147_158 : mm_blk 147 158 = some [.sipush (0), .goto_w 159] := by decide +kernel
set_option maxRecDepth 100000 in
theorem nb147_159 : mm_blk 147 159 = some [.multianewarray 10 0, .aload 0, .invokeinterface 10 0, .ifCond .le 171, .sipush (0), .ireturn] := by decide +kernel
set_option maxRecDepth 100000 in
theorem nb147_171 : mm_blk 147 171 = some [.sipush (0), .istore 3, .goto_w 173] := by decide +kernel
set_option maxRecDepth 100000 in
theorem nb147_173 : mm_blk 147 173 = some [.iload 3, .aload 0, .invokeinterface 10 43, .if_icmp .ge 203, .aload 0, .aload 0, .invokeinterface 10 44, .iload 3, .iaload, .aload 0, .invokeinterface 10 45, .iload 3, .iaload, .invokevirtual 151, .iinc 3 (1), .goto 173] := by decide +kernel
set_option maxRecDepth 100000 in
theorem nb147_203 : mm_blk 147 203 = some [.aload 0, .iload 2, .multianewarray 10 46, .aload 0, .invokevirtual 154, .iload 2, .ireturn] := by decide +kernel
set_option maxRecDepth 100000 in
theorem nl147 : mm_ml 147 = 4 := by decide +kernel
set_option maxRecDepth 100000 in
theorem nn147 : mm_na 147 = 1 := by decide +kernel
set_option maxRecDepth 100000 in
theorem nc147 : mm_ci 147 = 10 := by decide +kernel
-- latest (II)I
set_option maxRecDepth 100000 in
theorem nb148_0 : mm_blk 148 0 = some [.aload 0, .invokeinterface 10 2, .sipush (1), .isub, .istore 3, .goto_w 7] := by decide +kernel
set_option maxRecDepth 100000 in
theorem nb148_7 : mm_blk 148 7 = some [.iload 3, .ifCond .lt 37, .aload 0, .invokeinterface 10 6, .iload 3, .iaload, .iload 1, .if_icmp .ne 31, .aload 0, .invokeinterface 10 7, .iload 3, .iaload, .iload 2, .if_icmp .eq 37, .goto_w 31] := by decide +kernel
set_option maxRecDepth 100000 in
theorem nb148_31 : mm_blk 148 31 = some [.iinc 3 (-1), .goto 7] := by decide +kernel
set_option maxRecDepth 100000 in
theorem nb148_37 : mm_blk 148 37 = some [.iload 3, .ireturn] := by decide +kernel
set_option maxRecDepth 100000 in
theorem nl148 : mm_ml 148 = 4 := by decide +kernel
set_option maxRecDepth 100000 in
theorem nn148 : mm_na 148 = 3 := by decide +kernel
set_option maxRecDepth 100000 in
theorem nc148 : mm_ci 148 = 10 := by decide +kernel
-- meet (I)I
set_option maxRecDepth 100000 in
theorem nb149_0 : mm_blk 149 0 = some [.sipush (0), .istore 2, .goto_w 2] := by decide +kernel
set_option maxRecDepth 100000 in
theorem nb149_2 : mm_blk 149 2 = some [.iload 2, .aload 0, .invokeinterface 10 11, .iload 1, .iaload, .if_icmp .ge 108, .aload 0, .sipush (1), .aload 0, .invokeinterface 10 13, .sipush (50), .iload 1, .imul, .iload 2, .iadd, .iaload, .invokevirtual 148, .istore 3, .iload 3, .ifCond .ge 35, .sipush (2), .ireturn] := by decide +kernel
set_option maxRecDepth 100000 in
theorem nb149_35 : mm_blk 149 35 = some [.aload 0, .invokeinterface 10 10, .sipush (200), .iload 1, .imul, .aload 0, .invokeinterface 10 12, .sipush (50), .iload 1, .imul, .iload 2, .iadd, .iaload, .iadd, .sipush (2), .iadd, .baload, .sipush (255), .iand, .aload 0, .invokeinterface 10 8, .iload 3, .iaload, .if_icmp .eq 74, .sipush (3), .ireturn] := by decide +kernel
set_option maxRecDepth 100000 in
theorem nb149_74 : mm_blk 149 74 = some [.aload 0, .iload 3, .invokevirtual 150, .ifCond .ge 102, .aload 0, .invokeinterface 10 44, .aload 0, .invokeinterface 10 43, .iload 3, .iastore, .aload 0, .dup, .invokeinterface 10 43, .sipush (1), .iadd, .multianewarray 10 43, .goto_w 102] := by decide +kernel
set_option maxRecDepth 100000 in
theorem nb149_102 : mm_blk 149 102 = some [.iinc 2 (1), .goto 2] := by decide +kernel
set_option maxRecDepth 100000 in
theorem nb149_108 : mm_blk 149 108 = some [.sipush (0), .ireturn] := by decide +kernel
set_option maxRecDepth 100000 in
theorem nl149 : mm_ml 149 = 4 := by decide +kernel
set_option maxRecDepth 100000 in
theorem nn149 : mm_na 149 = 2 := by decide +kernel
set_option maxRecDepth 100000 in
theorem nc149 : mm_ci 149 = 10 := by decide +kernel
-- stands (I)I
set_option maxRecDepth 100000 in
theorem nb150_0 : mm_blk 150 0 = some [.aload 0, .invokeinterface 10 43, .sipush (1), .isub, .istore 2, .goto_w 7] := by decide +kernel
set_option maxRecDepth 100000 in
theorem nb150_7 : mm_blk 150 7 = some [.iload 2, .ifCond .lt 27, .aload 0, .invokeinterface 10 44, .iload 2, .iaload, .iload 1, .if_icmp .eq 27, .iinc 2 (-1), .goto 7] := by decide +kernel
set_option maxRecDepth 100000 in
theorem nb150_27 : mm_blk 150 27 = some [.iload 2, .ireturn] := by decide +kernel
set_option maxRecDepth 100000 in
theorem nl150 : mm_ml 150 = 3 := by decide +kernel
set_option maxRecDepth 100000 in
theorem nn150 : mm_na 150 = 2 := by decide +kernel
set_option maxRecDepth 100000 in
theorem nc150 : mm_ci 150 = 10 := by decide +kernel
-- copy (II)V
set_option maxRecDepth 100000 in
theorem nb151_0 : mm_blk 151 0 = some [.sipush (0), .istore 3, .goto_w 2] := by decide +kernel
set_option maxRecDepth 100000 in
theorem nb151_2 : mm_blk 151 2 = some [.iload 3, .aload 0, .invokeinterface 10 9, .iload 1, .iaload, .if_icmp .ge 38, .aload 0, .invokeinterface 10 47, .iload 2, .iload 3, .iadd, .aload 0, .invokeinterface 10 10, .sipush (200), .iload 1, .imul, .iload 3, .iadd, .baload, .bastore, .iinc 3 (1), .goto 2] := by decide +kernel
set_option maxRecDepth 100000 in
theorem nb151_38 : mm_blk 151 38 = some [.sipush (0), .istore 3, .goto_w 40] := by decide +kernel
set_option maxRecDepth 100000 in
theorem nb151_40 : mm_blk 151 40 = some [.iload 3, .aload 0, .invokeinterface 10 9, .iload 1, .iaload, .if_icmp .ge 150, .aload 0, .invokeinterface 10 10, .sipush (200), .iload 1, .imul, .iload 3, .iadd, .baload, .istore 4, .iload 4, .sipush (7), .if_icmp .eq 78, .iload 4, .sipush (8), .if_icmp .ne 129, .goto_w 78] := by decide +kernel
set_option maxRecDepth 100000 in
theorem nb151_78 : mm_blk 151 78 = some [.aload 0, .iload 2, .iload 3, .iadd, .sipush (1), .iadd, .iload 2, .aload 0, .invokeinterface 10 10, .sipush (200), .iload 1, .imul, .iload 3, .iadd, .sipush (1), .iadd, .baload, .sipush (255), .iand, .sipush (8), .ishl, .aload 0, .invokeinterface 10 10, .sipush (200), .iload 1, .imul, .iload 3, .iadd, .sipush (2), .iadd, .baload, .sipush (255), .iand, .ior, .iadd, .invokevirtual 152, .goto_w 129] := by decide +kernel
set_option maxRecDepth 100000 in
theorem nb151_129 : mm_blk 151 129 = some [.iload 3, .aload 0, .invokeinterface 10 10, .sipush (200), .iload 1, .imul, .iload 3, .iadd, .baload, .invokestatic 153, .iadd, .istore 3, .goto 40] := by decide +kernel
set_option maxRecDepth 100000 in
theorem nb151_150 : mm_blk 151 150 = some [.sipush (0), .istore 3, .goto_w 152] := by decide +kernel
set_option maxRecDepth 100000 in
theorem nb151_152 : mm_blk 151 152 = some [.iload 3, .aload 0, .invokeinterface 10 11, .iload 1, .iaload, .if_icmp .ge 210, .aload 0, .iload 2, .aload 0, .invokeinterface 10 12, .sipush (50), .iload 1, .imul, .iload 3, .iadd, .iaload, .iadd, .aload 0, .invokeinterface 10 45, .aload 0, .aload 0, .sipush (1), .aload 0, .invokeinterface 10 13, .sipush (50), .iload 1, .imul, .iload 3, .iadd, .iaload, .invokevirtual 148, .invokevirtual 150, .iaload, .invokevirtual 152, .iinc 3 (1), .goto 152] := by decide +kernel
set_option maxRecDepth 100000 in
theorem nb151_210 : mm_blk 151 210 = some [.return_] := by decide +kernel
set_option maxRecDepth 100000 in
theorem nl151 : mm_ml 151 = 5 := by decide +kernel
set_option maxRecDepth 100000 in
theorem nn151 : mm_na 151 = 3 := by decide +kernel
set_option maxRecDepth 100000 in
theorem nc151 : mm_ci 151 = 10 := by decide +kernel
-- putPlace (II)V
set_option maxRecDepth 100000 in
theorem nb152_0 : mm_blk 152 0 = some [.aload 0, .invokeinterface 10 47, .iload 1, .iload 2, .sipush (8), .ishr, .i2b, .bastore, .aload 0, .invokeinterface 10 47, .iload 1, .sipush (1), .iadd, .iload 2, .i2b, .bastore, .return_] := by decide +kernel
set_option maxRecDepth 100000 in
theorem nl152 : mm_ml 152 = 3 := by decide +kernel
set_option maxRecDepth 100000 in
theorem nn152 : mm_na 152 = 3 := by decide +kernel
set_option maxRecDepth 100000 in
theorem nc152 : mm_ci 152 = 10 := by decide +kernel
-- wide (I)I
set_option maxRecDepth 100000 in
theorem nb153_0 : mm_blk 153 0 = some [.iload 0, .ifCond .eq 16, .iload 0, .sipush (7), .if_icmp .eq 16, .iload 0, .sipush (8), .if_icmp .ne 20, .goto_w 16] := by decide +kernel
set_option maxRecDepth 100000 in
theorem nb153_16 : mm_blk 153 16 = some [.sipush (3), .goto 52] := by decide +kernel
set_option maxRecDepth 100000 in
theorem nb153_20 : mm_blk 153 20 = some [.iload 0, .sipush (1), .if_icmp .eq 37, .iload 0, .sipush (11), .if_icmp .eq 37, .iload 0, .sipush (13), .if_icmp .ne 41, .goto_w 37] := by decide +kernel
set_option maxRecDepth 100000 in
theorem nb153_37 : mm_blk 153 37 = some [.sipush (2), .goto 52] := by decide +kernel
set_option maxRecDepth 100000 in
theorem nb153_41 : mm_blk 153 41 = some [.iload 0, .sipush (12), .if_icmp .ne 51, .sipush (4), .goto 52] := by decide +kernel
set_option maxRecDepth 100000 in
theorem nb153_51 : mm_blk 153 51 = some [.sipush (1), .goto_w 52] := by decide +kernel
set_option maxRecDepth 100000 in
theorem nb153_52 : mm_blk 153 52 = some [.ireturn] := by decide +kernel
set_option maxRecDepth 100000 in
theorem nl153 : mm_ml 153 = 1 := by decide +kernel
set_option maxRecDepth 100000 in
theorem nn153 : mm_na 153 = 1 := by decide +kernel
set_option maxRecDepth 100000 in
theorem nc153 : mm_ci 153 = 10 := by decide +kernel
-- begin ()V
set_option maxRecDepth 100000 in
theorem nb154_0 : mm_blk 154 0 = some [.aload 0, .sipush (1), .multianewarray 10 48, .aload 0, .sipush (0), .multianewarray 10 49, .aload 0, .sipush (0), .multianewarray 10 50, .aload 0, .sipush (0), .multianewarray 10 51, .aload 0, .sipush (0), .multianewarray 10 52, .aload 0, .sipush (0), .multianewarray 10 53, .return_] := by decide +kernel
set_option maxRecDepth 100000 in
theorem nl154 : mm_ml 154 = 1 := by decide +kernel
set_option maxRecDepth 100000 in
theorem nn154 : mm_na 154 = 1 := by decide +kernel
set_option maxRecDepth 100000 in
theorem nc154 : mm_ci 154 = 10 := by decide +kernel
-- failure ()I
set_option maxRecDepth 100000 in
theorem nb155_0 : mm_blk 155 0 = some [.aload 0, .sipush (0), .multianewarray 10 0, .aload 0, .invokeinterface 10 4, .ireturn] := by decide +kernel
set_option maxRecDepth 100000 in
theorem nl155 : mm_ml 155 = 1 := by decide +kernel
set_option maxRecDepth 100000 in
theorem nn155 : mm_na 155 = 1 := by decide +kernel
set_option maxRecDepth 100000 in
theorem nc155 : mm_ci 155 = 10 := by decide +kernel
-- image (I)I
set_option maxRecDepth 100000 in
theorem nb156_0 : mm_blk 156 0 = some [.aload 0, .sipush (0), .multianewarray 10 0, .iload 1, .sipush (-1), .if_icmp .ne 17, .aload 0, .invokeinterface 10 46, .goto 43] := by decide +kernel
set_option maxRecDepth 100000 in
theorem nb156_17 : mm_blk 156 17 = some [.iload 1, .ifCond .lt 42, .iload 1, .aload 0, .invokeinterface 10 46, .if_icmp .ge 42, .aload 0, .invokeinterface 10 47, .iload 1, .baload, .sipush (255), .iand, .goto 43] := by decide +kernel
set_option maxRecDepth 100000 in
theorem nb156_42 : mm_blk 156 42 = some [.sipush (-1), .goto_w 43] := by decide +kernel
set_option maxRecDepth 100000 in
theorem nb156_43 : mm_blk 156 43 = some [.ireturn] := by decide +kernel
set_option maxRecDepth 100000 in
theorem nl156 : mm_ml 156 = 2 := by decide +kernel
set_option maxRecDepth 100000 in
theorem nn156 : mm_na 156 = 2 := by decide +kernel
set_option maxRecDepth 100000 in
theorem nc156 : mm_ci 156 = 10 := by decide +kernel
-- restart ()Z
set_option maxRecDepth 100000 in
theorem nb157_0 : mm_blk 157 0 = some [.aload 0, .sipush (0), .multianewarray 10 0, .aload 0, .invokeinterface 10 46, .ifCond .ne 14, .sipush (0), .freturn] := by decide +kernel
set_option maxRecDepth 100000 in
theorem nb157_14 : mm_blk 157 14 = some [.aload 0, .invokevirtual 154, .sipush (1), .freturn] := by decide +kernel
set_option maxRecDepth 100000 in
theorem nl157 : mm_ml 157 = 1 := by decide +kernel
set_option maxRecDepth 100000 in
theorem nn157 : mm_na 157 = 1 := by decide +kernel
set_option maxRecDepth 100000 in
theorem nc157 : mm_ci 157 = 10 := by decide +kernel
-- run (I)I
set_option maxRecDepth 100000 in
theorem nb158_0 : mm_blk 158 0 = some [.aload 0, .iload 1, .ifCond .lt 12, .iload 1, .sipush (500), .if_icmp .le 16, .goto_w 12] := by decide +kernel
set_option maxRecDepth 100000 in
theorem nb158_12 : mm_blk 158 12 = some [.sipush (1), .goto 17] := by decide +kernel
set_option maxRecDepth 100000 in
theorem nb158_16 : mm_blk 158 16 = some [.sipush (0), .goto_w 17] := by decide +kernel
set_option maxRecDepth 100000 in
theorem nb158_17 : mm_blk 158 17 = some [.multianewarray 10 0, .sipush (0), .istore 2, .goto_w 22] := by decide +kernel
set_option maxRecDepth 100000 in
theorem nb158_22 : mm_blk 158 22 = some [.aload 0, .invokeinterface 10 0, .ifCond .ne 52, .iload 2, .iload 1, .if_icmp .ge 52, .aload 0, .invokeinterface 10 48, .sipush (1), .if_icmp .ne 52, .aload 0, .invokevirtual 159, .iinc 2 (1), .goto 22] := by decide +kernel
set_option maxRecDepth 100000 in
theorem nb158_52 : mm_blk 158 52 = some [.iload 2, .ireturn] := by decide +kernel
set_option maxRecDepth 100000 in
theorem nl158 : mm_ml 158 = 3 := by decide +kernel
set_option maxRecDepth 100000 in
theorem nn158 : mm_na 158 = 2 := by decide +kernel
set_option maxRecDepth 100000 in
theorem nc158 : mm_ci 158 = 10 := by decide +kernel
-- step ()V
set_option maxRecDepth 100000 in
theorem nb159_0 : mm_blk 159 0 = some [.aload 0, .invokeinterface 10 47, .aload 0, .invokeinterface 10 49, .baload, .istore 1, .iload 1, .sipush (1), .if_icmp .eq 27, .iload 1, .sipush (11), .if_icmp .eq 27, .iload 1, .sipush (13), .if_icmp .ne 45, .goto_w 27] := by decide +kernel
set_option maxRecDepth 100000 in
theorem nb159_27 : mm_blk 159 27 = some [.aload 0, .invokeinterface 10 47, .aload 0, .invokeinterface 10 49, .sipush (1), .iadd, .baload, .sipush (255), .iand, .goto 46] := by decide +kernel
set_option maxRecDepth 100000 in
theorem nb159_45 : mm_blk 159 45 = some [.sipush (0), .goto_w 46] := by decide +kernel
set_option maxRecDepth 100000 in
theorem nb159_46 : mm_blk 159 46 = some [.istore 2, .iload 1, .sipush (2), .if_icmp .ge 61, .aload 0, .invokeinterface 10 51, .sipush (120), .if_icmp .eq 76, .goto_w 61] := by decide +kernel
set_option maxRecDepth 100000 in
theorem nb159_61 : mm_blk 159 61 = some [.iload 1, .sipush (12), .if_icmp .ne 82, .aload 0, .invokeinterface 10 52, .sipush (24), .if_icmp .ne 82, .goto_w 76] := by decide +kernel
set_option maxRecDepth 100000 in
theorem nb159_76 : mm_blk 159 76 = some [.aload 0, .sipush (3), .multianewarray 10 48, .return_] := by decide +kernel
set_option maxRecDepth 100000 in
theorem nb159_82 : mm_blk 159 82 = some [.aload 0, .invokeinterface 10 49, .iload 1, .invokestatic 153, .iadd, .istore 3, .iload 1, .lookupswitch 481 #[(0, 168), (1, 186), (2, 481), (3, 481), (4, 481), (5, 481), (6, 481), (7, 204), (8, 218), (9, 258), (10, 293), (11, 306), (12, 331), (13, 402), (14, 468)]] := by decide +kernel
set_option maxRecDepth 100000 in
theorem nb159_168 : mm_blk 159 168 = some [.aload 0, .aload 0, .aload 0, .invokeinterface 10 49, .sipush (1), .iadd, .invokevirtual 160, .i2s, .invokevirtual 161, .goto 486] := by decide +kernel
set_option maxRecDepth 100000 in
theorem nb159_186 : mm_blk 159 186 = some [.aload 0, .aload 0, .invokeinterface 10 54, .aload 0, .invokeinterface 10 50, .iload 2, .iadd, .iaload, .invokevirtual 161, .goto 486] := by decide +kernel
set_option maxRecDepth 100000 in
theorem nb159_204 : mm_blk 159 204 = some [.aload 0, .aload 0, .invokeinterface 10 49, .sipush (1), .iadd, .invokevirtual 160, .istore 3, .goto 486] := by decide +kernel
set_option maxRecDepth 100000 in
theorem nb159_218 : mm_blk 159 218 = some [.aload 0, .dup, .invokeinterface 10 51, .sipush (1), .isub, .multianewarray 10 51, .aload 0, .invokeinterface 10 54, .aload 0, .invokeinterface 10 51, .iaload, .ifCond .ne 253, .aload 0, .aload 0, .invokeinterface 10 49, .sipush (1), .iadd, .invokevirtual 160, .goto 254] := by decide +kernel
set_option maxRecDepth 100000 in
theorem nb159_253 : mm_blk 159 253 = some [.iload 3, .goto_w 254] := by decide +kernel
set_option maxRecDepth 100000 in
theorem nb159_254 : mm_blk 159 254 = some [.istore 3, .goto 486] := by decide +kernel
set_option maxRecDepth 100000 in
theorem nb159_258 : mm_blk 159 258 = some [.aload 0, .invokeinterface 10 54, .aload 0, .invokeinterface 10 51, .sipush (2), .isub, .aload 0, .invokeinterface 10 54, .aload 0, .invokeinterface 10 51, .sipush (1), .isub, .iaload, .iastore, .aload 0, .dup, .invokeinterface 10 51, .sipush (1), .isub, .multianewarray 10 51, .goto 486] := by decide +kernel
set_option maxRecDepth 100000 in
theorem nb159_293 : mm_blk 159 293 = some [.aload 0, .dup, .invokeinterface 10 51, .sipush (1), .isub, .multianewarray 10 51, .goto 486] := by decide +kernel
set_option maxRecDepth 100000 in
theorem nb159_306 : mm_blk 159 306 = some [.aload 0, .invokeinterface 10 54, .aload 0, .invokeinterface 10 50, .iload 2, .iadd, .aload 0, .invokeinterface 10 54, .aload 0, .invokeinterface 10 51, .sipush (1), .isub, .iaload, .iastore, .goto 486] := by decide +kernel
set_option maxRecDepth 100000 in
theorem nb159_331 : mm_blk 159 331 = some [.aload 0, .invokeinterface 10 55, .aload 0, .invokeinterface 10 52, .aload 0, .invokeinterface 10 50, .iastore, .aload 0, .invokeinterface 10 56, .aload 0, .invokeinterface 10 52, .iload 3, .iastore, .aload 0, .dup, .invokeinterface 10 52, .sipush (1), .iadd, .multianewarray 10 52, .aload 0, .aload 0, .invokeinterface 10 51, .aload 0, .invokeinterface 10 47, .aload 0, .invokeinterface 10 49, .sipush (3), .iadd, .baload, .sipush (255), .iand, .isub, .multianewarray 10 50, .aload 0, .aload 0, .invokeinterface 10 49, .sipush (1), .iadd, .invokevirtual 160, .istore 3, .goto 486] := by decide +kernel
set_option maxRecDepth 100000 in
theorem nb159_402 : mm_blk 159 402 = some [.aload 0, .invokeinterface 10 54, .aload 0, .invokeinterface 10 50, .aload 0, .invokeinterface 10 54, .aload 0, .invokeinterface 10 51, .sipush (1), .isub, .iaload, .iastore, .aload 0, .aload 0, .invokeinterface 10 50, .sipush (1), .iadd, .multianewarray 10 51, .aload 0, .dup, .invokeinterface 10 52, .sipush (1), .isub, .multianewarray 10 52, .aload 0, .aload 0, .invokeinterface 10 55, .aload 0, .invokeinterface 10 52, .iaload, .multianewarray 10 50, .aload 0, .invokeinterface 10 56, .aload 0, .invokeinterface 10 52, .iaload, .istore 3, .goto 486] := by decide +kernel
set_option maxRecDepth 100000 in
theorem nb159_468 : mm_blk 159 468 = some [.aload 0, .sipush (2), .multianewarray 10 48, .aload 0, .invokeinterface 10 49, .istore 3, .goto 486] := by decide +kernel
set_option maxRecDepth 100000 in
theorem nb159_481 : mm_blk 159 481 = some [.aload 0, .iload 1, .invokevirtual 162, .goto_w 486] := by decide +kernel
set_option maxRecDepth 100000 in
theorem nb159_486 : mm_blk 159 486 = some [.aload 0, .iload 3, .multianewarray 10 49, .aload 0, .dup, .invokeinterface 10 53, .sipush (1), .iadd, .multianewarray 10 53, .return_] := by decide +kernel
set_option maxRecDepth 100000 in
theorem nl159 : mm_ml 159 = 4 := by decide +kernel
set_option maxRecDepth 100000 in
theorem nn159 : mm_na 159 = 1 := by decide +kernel
set_option maxRecDepth 100000 in
theorem nc159 : mm_ci 159 = 10 := by decide +kernel
-- placeAt (I)I
set_option maxRecDepth 100000 in
theorem nb160_0 : mm_blk 160 0 = some [.aload 0, .invokeinterface 10 47, .iload 1, .baload, .sipush (255), .iand, .sipush (8), .ishl, .aload 0, .invokeinterface 10 47, .iload 1, .sipush (1), .iadd, .baload, .sipush (255), .iand, .ior, .ireturn] := by decide +kernel
set_option maxRecDepth 100000 in
theorem nl160 : mm_ml 160 = 2 := by decide +kernel
set_option maxRecDepth 100000 in
theorem nn160 : mm_na 160 = 2 := by decide +kernel
set_option maxRecDepth 100000 in
theorem nc160 : mm_ci 160 = 10 := by decide +kernel
-- put (I)V
set_option maxRecDepth 100000 in
theorem nb161_0 : mm_blk 161 0 = some [.aload 0, .invokeinterface 10 54, .aload 0, .invokeinterface 10 51, .iload 1, .iastore, .aload 0, .dup, .invokeinterface 10 51, .sipush (1), .iadd, .multianewarray 10 51, .return_] := by decide +kernel
set_option maxRecDepth 100000 in
theorem nl161 : mm_ml 161 = 2 := by decide +kernel
set_option maxRecDepth 100000 in
theorem nn161 : mm_na 161 = 2 := by decide +kernel
set_option maxRecDepth 100000 in
theorem nc161 : mm_ci 161 = 10 := by decide +kernel
-- work (I)V
set_option maxRecDepth 100000 in
theorem nb162_0 : mm_blk 162 0 = some [.aload 0, .invokeinterface 10 54, .aload 0, .invokeinterface 10 51, .sipush (1), .isub, .iaload, .istore 2, .aload 0, .invokeinterface 10 54, .aload 0, .invokeinterface 10 51, .sipush (2), .isub, .iaload, .istore 3, .aload 0, .dup, .invokeinterface 10 51, .sipush (1), .isub, .multianewarray 10 51, .aload 0, .invokeinterface 10 54, .aload 0, .invokeinterface 10 51, .sipush (1), .isub, .iload 1, .sipush (2), .if_icmp .ne 55, .iload 3, .iload 2, .iadd, .goto 100] := by decide +kernel
set_option maxRecDepth 100000 in
theorem nb162_55 : mm_blk 162 55 = some [.iload 1, .sipush (3), .if_icmp .ne 66, .iload 3, .iload 2, .isub, .goto 100] := by decide +kernel
set_option maxRecDepth 100000 in
theorem nb162_66 : mm_blk 162 66 = some [.iload 1, .sipush (4), .if_icmp .ne 77, .iload 3, .iload 2, .imul, .goto 100] := by decide +kernel
set_option maxRecDepth 100000 in
theorem nb162_77 : mm_blk 162 77 = some [.iload 1, .sipush (5), .if_icmp .ne 90, .iload 3, .iload 2, .if_icmp .ge 99, .goto 95] := by decide +kernel
set_option maxRecDepth 100000 in
theorem nb162_90 : mm_blk 162 90 = some [.iload 3, .iload 2, .if_icmp .ne 99, .goto_w 95] := by decide +kernel
set_option maxRecDepth 100000 in
theorem nb162_95 : mm_blk 162 95 = some [.sipush (1), .goto 100] := by decide +kernel
set_option maxRecDepth 100000 in
theorem nb162_99 : mm_blk 162 99 = some [.sipush (0), .goto_w 100] := by decide +kernel
set_option maxRecDepth 100000 in
theorem nb162_100 : mm_blk 162 100 = some [.iastore, .return_] := by decide +kernel
set_option maxRecDepth 100000 in
theorem nl162 : mm_ml 162 = 4 := by decide +kernel
set_option maxRecDepth 100000 in
theorem nn162 : mm_na 162 = 2 := by decide +kernel
set_option maxRecDepth 100000 in
theorem nc162 : mm_ci 162 = 10 := by decide +kernel
-- about (I)I
set_option maxRecDepth 100000 in
theorem nb163_0 : mm_blk 163 0 = some [.aload 0, .sipush (0), .multianewarray 10 0, .iload 1, .lookupswitch 74 #[(0, 44), (1, 49), (2, 54), (3, 59), (4, 64), (5, 69)]] := by decide +kernel
set_option maxRecDepth 100000 in
theorem nb163_44 : mm_blk 163 44 = some [.aload 0, .invokeinterface 10 48, .ireturn] := by decide +kernel
set_option maxRecDepth 100000 in
theorem nb163_49 : mm_blk 163 49 = some [.aload 0, .invokeinterface 10 49, .ireturn] := by decide +kernel
set_option maxRecDepth 100000 in
theorem nb163_54 : mm_blk 163 54 = some [.aload 0, .invokeinterface 10 50, .ireturn] := by decide +kernel
set_option maxRecDepth 100000 in
theorem nb163_59 : mm_blk 163 59 = some [.aload 0, .invokeinterface 10 51, .ireturn] := by decide +kernel
set_option maxRecDepth 100000 in
theorem nb163_64 : mm_blk 163 64 = some [.aload 0, .invokeinterface 10 52, .ireturn] := by decide +kernel
set_option maxRecDepth 100000 in
theorem nb163_69 : mm_blk 163 69 = some [.aload 0, .invokeinterface 10 53, .ireturn] := by decide +kernel
set_option maxRecDepth 100000 in
theorem nb163_74 : mm_blk 163 74 = some [.sipush (-1), .ireturn] := by decide +kernel
set_option maxRecDepth 100000 in
theorem nl163 : mm_ml 163 = 2 := by decide +kernel
set_option maxRecDepth 100000 in
theorem nn163 : mm_na 163 = 2 := by decide +kernel
set_option maxRecDepth 100000 in
theorem nc163 : mm_ci 163 = 10 := by decide +kernel
-- stack (I)I
set_option maxRecDepth 100000 in
theorem nb164_0 : mm_blk 164 0 = some [.aload 0, .sipush (0), .multianewarray 10 0, .iload 1, .ifCond .lt 26, .iload 1, .aload 0, .invokeinterface 10 51, .if_icmp .ge 26, .aload 0, .invokeinterface 10 54, .iload 1, .iaload, .goto 27] := by decide +kernel
set_option maxRecDepth 100000 in
theorem nb164_26 : mm_blk 164 26 = some [.sipush (0), .goto_w 27] := by decide +kernel
set_option maxRecDepth 100000 in
theorem nb164_27 : mm_blk 164 27 = some [.ireturn] := by decide +kernel
set_option maxRecDepth 100000 in
theorem nl164 : mm_ml 164 = 2 := by decide +kernel
set_option maxRecDepth 100000 in
theorem nn164 : mm_na 164 = 2 := by decide +kernel
set_option maxRecDepth 100000 in
theorem nc164 : mm_ci 164 = 10 := by decide +kernel
-- top ()I
set_option maxRecDepth 100000 in
theorem nb165_0 : mm_blk 165 0 = some [.aload 0, .sipush (0), .multianewarray 10 0, .aload 0, .invokeinterface 10 51, .ifCond .le 26, .aload 0, .invokeinterface 10 54, .aload 0, .invokeinterface 10 51, .sipush (1), .isub, .iaload, .goto 27] := by decide +kernel
set_option maxRecDepth 100000 in
theorem nb165_26 : mm_blk 165 26 = some [.sipush (0), .goto_w 27] := by decide +kernel
set_option maxRecDepth 100000 in
theorem nb165_27 : mm_blk 165 27 = some [.ireturn] := by decide +kernel
set_option maxRecDepth 100000 in
theorem nl165 : mm_ml 165 = 1 := by decide +kernel
set_option maxRecDepth 100000 in
theorem nn165 : mm_na 165 = 1 := by decide +kernel
set_option maxRecDepth 100000 in
theorem nc165 : mm_ci 165 = 10 := by decide +kernel
end
section
/-! THE REFERENCE'S LEAVES -/
def n_T (b : Bool) : Int := if b = true then 1 else 0
theorem n_T01 (b : Bool) : n_T b = 0 ∨ n_T b = 1 := by cases b <;> simp [n_T]
theorem n_rngT (b : Bool) : n_rng (n_T b) := by cases b <;> simp [n_T, n_rng]
def c_dig (c : Int) : Bool := decide (48 ≤ c ∧ c ≤ 57)
def c_let (c : Int) : Bool := decide (97 ≤ c ∧ c ≤ 122)
def c_sgn (c : Int) : Bool := decide (c = 43 ∨ c = 45 ∨ c = 42 ∨ c = 60 ∨ c = 61)
section N5
variable {Z : Nat → List Int32} {d : Nat} {s : nS}
theorem ng113 {c : Int} (hd : 6 ≤ d) (hc : n_rng c) : NG Z d 113 [xI c] s (fun r s' => r = some (n_T (c_dig c)) ∧ s' = s) := by
  have h17 : ∀ b : Bool, b = c_dig c → NP Z d 113 17 [some (xI c)] [xI (n_T b)] s (fun r s' => r = some (n_T (c_dig c)) ∧ s' = s) := fun b hb => n_at nb113_17 hd rfl ⟨n_T01 b, by rw [hb], rfl⟩
  have h16 : c_dig c = false → NP Z d 113 16 [some (xI c)] [] s (fun r s' => r = some (n_T (c_dig c)) ∧ s' = s) := fun h => n_at nb113_16 hd rfl (h17 false h.symm)
  refine n_G_of (L := [some (xI c)]) (by rw [nl113]; exact Nat.le_of_ble_eq_true rfl) (by rw [nl113]; rfl) ?_
  refine n_at nb113_0 hd rfl ?_
  refine ⟨hc, ⟨by decide, by decide⟩, fun z => h16 ?_, fun z => ⟨hc, ⟨by decide, by decide⟩, fun z2 => h16 ?_, fun z2 => h17 true ?_⟩⟩
  · simp [c_dig]; omega
  · simp [c_dig]; omega
  · simp [c_dig]; omega
theorem ng114 {c : Int} (hd : 6 ≤ d) (hc : n_rng c) : NG Z d 114 [xI c] s (fun r s' => r = some (n_T (c_let c)) ∧ s' = s) := by
  have h17 : ∀ b : Bool, b = c_let c → NP Z d 114 17 [some (xI c)] [xI (n_T b)] s (fun r s' => r = some (n_T (c_let c)) ∧ s' = s) := fun b hb => n_at nb114_17 hd rfl ⟨n_T01 b, by rw [hb], rfl⟩
  have h16 : c_let c = false → NP Z d 114 16 [some (xI c)] [] s (fun r s' => r = some (n_T (c_let c)) ∧ s' = s) := fun h => n_at nb114_16 hd rfl (h17 false h.symm)
  refine n_G_of (L := [some (xI c)]) (by rw [nl114]; exact Nat.le_of_ble_eq_true rfl) (by rw [nl114]; rfl) ?_
  refine n_at nb114_0 hd rfl ?_
  refine ⟨hc, ⟨by decide, by decide⟩, fun z => h16 ?_, fun z => ⟨hc, ⟨by decide, by decide⟩, fun z2 => h16 ?_, fun z2 => h17 true ?_⟩⟩
  · simp [c_let]; omega
  · simp [c_let]; omega
  · simp [c_let]; omega
theorem ng115 {c : Int} (hd : 6 ≤ d) (hc : n_rng c) : NG Z d 115 [xI c] s (fun r s' => r = some (n_T (c_sgn c)) ∧ s' = s) := by
  have h35 : ∀ b : Bool, b = c_sgn c → NP Z d 115 35 [some (xI c)] [xI (n_T b)] s (fun r s' => r = some (n_T (c_sgn c)) ∧ s' = s) := fun b hb => n_at nb115_35 hd rfl ⟨n_T01 b, by rw [hb], rfl⟩
  have h30 : c_sgn c = true → NP Z d 115 30 [some (xI c)] [] s (fun r s' => r = some (n_T (c_sgn c)) ∧ s' = s) := fun h => n_at nb115_30 hd rfl (h35 true h.symm)
  have h34 : c_sgn c = false → NP Z d 115 34 [some (xI c)] [] s (fun r s' => r = some (n_T (c_sgn c)) ∧ s' = s) := fun h => n_at nb115_34 hd rfl (h35 false h.symm)
  refine n_G_of (L := [some (xI c)]) (by rw [nl115]; exact Nat.le_of_ble_eq_true rfl) (by rw [nl115]; rfl) ?_
  refine n_at nb115_0 hd rfl ?_
  have q : ∀ k : Int, c = k → (k = 43 ∨ k = 45 ∨ k = 42 ∨ k = 60 ∨ k = 61) → c_sgn c = true := fun k z hk => by simp [c_sgn]; omega
  refine ⟨hc, ⟨by decide, by decide⟩, fun z => h30 (q 43 z (by decide)), fun z1 => ?_⟩
  refine ⟨hc, ⟨by decide, by decide⟩, fun z => h30 (q 45 z (by decide)), fun z2 => ?_⟩
  refine ⟨hc, ⟨by decide, by decide⟩, fun z => h30 (q 42 z (by decide)), fun z3 => ?_⟩
  refine ⟨hc, ⟨by decide, by decide⟩, fun z => h30 (q 60 z (by decide)), fun z4 => ?_⟩
  refine ⟨hc, ⟨by decide, by decide⟩, fun z => h34 ?_, fun z => h30 (q 61 z (by decide))⟩
  simp [c_sgn]
  omega
/-- the character at a place: of the text, or of a macro's -/
def n_at1 (s : nS) (m k : Int) : Int := if m < 0 then (if k < s.1 1 then s.2 26 k.toNat else 0) else (if k < s.2 37 m.toNat then s.2 36 (120 * m + k).toNat else 0)
theorem ng112 {m k : Int} (hd : 6 ≤ d) (hm : n_rng m) (hk : 0 ≤ k ∧ k < 100000) (ht : 0 ≤ s.1 1 ∧ s.1 1 ≤ 120) (h16 : 0 ≤ m → m < 16 ∧ 0 ≤ s.2 37 m.toNat ∧ s.2 37 m.toNat ≤ 120) : NG Z d 112 [xR 25, xI m, xI k] s (fun r s' => r = some (n_at1 s m k) ∧ s' = s) := by
  have h22 : ∀ y : Int, y = n_at1 s m k → NP Z d 112 22 [some (xR 25), some (xI m), some (xI k)] [xI y] s (fun r s' => r = some (n_at1 s m k) ∧ s' = s) := fun y hy => n_at nb112_22 hd rfl ⟨by rw [hy], rfl⟩
  have h48 : ∀ y : Int, y = n_at1 s m k → NP Z d 112 48 [some (xR 25), some (xI m), some (xI k)] [xI y] s (fun r s' => r = some (n_at1 s m k) ∧ s' = s) := fun y hy => n_at nb112_48 hd rfl ⟨by rw [hy], rfl⟩
  have h21 : m < 0 → s.1 1 ≤ k → NP Z d 112 21 [some (xR 25), some (xI m), some (xI k)] [] s (fun r s' => r = some (n_at1 s m k) ∧ s' = s) := fun a b => n_at nb112_21 hd rfl (h22 0 (by unfold n_at1; rw [if_pos a, if_neg (by omega)]))
  have h47 : 0 ≤ m → s.2 37 m.toNat ≤ k → NP Z d 112 47 [some (xR 25), some (xI m), some (xI k)] [] s (fun r s' => r = some (n_at1 s m k) ∧ s' = s) := fun a b => n_at nb112_47 hd rfl (h48 0 (by unfold n_at1; rw [if_neg (by omega), if_neg (by omega)]))
  have h23 : 0 ≤ m → NP Z d 112 23 [some (xR 25), some (xI m), some (xI k)] [] s (fun r s' => r = some (n_at1 s m k) ∧ s' = s) := fun a => by
    obtain ⟨b1, b2, b3⟩ := h16 a
    refine n_at nb112_23 hd rfl ?_
    refine ⟨⟨a, by omega⟩, ⟨by omega, by omega⟩, ⟨by omega, by omega⟩, fun z => h47 a z, fun z => ?_⟩
    refine ⟨⟨by omega, by omega⟩, h48 _ ?_⟩
    unfold n_at1
    rw [if_neg (by omega), if_pos (by omega)]
  refine n_G_of (L := [some (xR 25), some (xI m), some (xI k)]) (by rw [nl112]; exact Nat.le_of_ble_eq_true rfl) (by rw [nl112]; rfl) ?_
  refine n_at nb112_0 hd rfl ?_
  refine ⟨hm, fun z => h23 z, fun z => ?_⟩
  refine ⟨⟨by omega, by omega⟩, ⟨by omega, by omega⟩, fun z2 => h21 (by omega) z2, fun z2 => ?_⟩
  have z2 : ¬ s.1 1 ≤ k := z2
  refine ⟨⟨by omega, by omega⟩, h22 _ ?_⟩
  unfold n_at1
  rw [if_pos (by omega), if_pos (by omega)]
/-- a new form -/
theorem ng116 {w v : Int} (hd : 6 ≤ d) (hf : 0 ≤ s.1 17 ∧ s.1 17 < 1300) : NG Z d 116 [xR 25, xI w, xI v] s (fun r s' => r = some (s.1 17) ∧ s' = (n_upd s.1 17 (s.1 17 + 1), n_updA (n_updA s.2 38 (s.1 17).toNat w) 39 (s.1 17).toNat v)) := by
  refine n_G_of (L := [some (xR 25), some (xI w), some (xI v)]) (by rw [nl116]; exact Nat.le_of_ble_eq_true rfl) (by rw [nl116]; rfl) ?_
  refine n_at nb116_0 hd rfl ?_
  refine ⟨hf, hf, ?_⟩
  refine ⟨?_, rfl⟩
  show some (s.1 17 + 1 - 1) = _
  congr 1
  omega
end N5
end
section
/-! THE REFERENCE'S FORMS: lists as chains of cells -/
def n_isch (A : Nat → Nat → Int) : Int → List Int → Prop
  | c, [] => c = -1
  | c, x :: xs => c = x ∧ 0 ≤ x ∧ x < 1300 ∧ n_isch A (A 41 x.toNat) xs
section N6
variable {Z : Nat → List Int32} {d : Nat} {s : nS}
/-- count: the loop -/
theorem n_l121 {f : Int} (hd : 6 ≤ d) (N : Int) (hN : N < 100000) : ∀ (xs : List Int) (c n : Int), n_isch s.2 c xs → 0 ≤ n → n + xs.length = N → NP Z d 121 23 [some (xR 25), some (xI f), some (xI n), some (xI c)] [] s (fun r s' => r = some N ∧ s' = s)
  | [], c, n, hc, h0, hn => by
    have hc : c = -1 := hc
    subst hc
    refine n_at nb121_23 hd rfl ⟨⟨by decide, by decide⟩, fun _ => ?_, fun z => absurd (by decide : (-1 : Int) < 0) z⟩
    refine n_at nb121_40 hd rfl ⟨?_, rfl⟩
    simp at hn
    rw [hn]
  | x :: xs, c, n, hc, h0, hn => by
    obtain ⟨rfl, h1, h2, h3⟩ := hc
    have hn : n + (xs.length + 1 : Nat) = N := hn
    refine n_at nb121_23 hd rfl ⟨⟨by omega, by omega⟩, fun z => ?_, fun _ => ⟨⟨h1, by omega⟩, ?_⟩⟩
    · have z : c < 0 := z
      omega
    · exact n_l121 hd N hN xs _ (n + 1) h3 (by omega) (by omega)
/-- the first cell of what a form holds -/
def n_fst (s : nS) (f : Int) : Int := if s.2 38 f.toNat = 2 then s.2 39 f.toNat else -1
theorem ng121 {f : Int} {xs : List Int} (hd : 6 ≤ d) (hf : 0 ≤ f ∧ f < 1300) (hk : n_rng (s.2 38 f.toNat)) (hx : n_isch s.2 (n_fst s f) xs) (hl : xs.length < 100000) : NG Z d 121 [xR 25, xI f] s (fun r s' => r = some (xs.length : Int) ∧ s' = s) := by
  have h22 : ∀ c : Int, c = n_fst s f → NP Z d 121 22 [some (xR 25), some (xI f), some (xI 0), none] [xI c] s (fun r s' => r = some (xs.length : Int) ∧ s' = s) := fun c hc => by
    refine n_at nb121_22 hd rfl ?_
    rw [hc]
    exact n_l121 hd _ (by omega) xs _ 0 hx (by omega) (by omega)
  refine n_G_of (L := [some (xR 25), some (xI f), none, none]) (by rw [nl121]; exact Nat.le_of_ble_eq_true rfl) (by rw [nl121]; rfl) ?_
  refine n_at nb121_0 hd rfl ?_
  refine ⟨⟨hf.1, hf.2⟩, hk, ⟨by decide, by decide⟩, fun z => ?_, fun z => ⟨⟨hf.1, hf.2⟩, h22 _ ?_⟩⟩
  · refine n_at nb121_21 hd rfl (h22 _ ?_)
    have z : ¬ s.2 38 f.toNat = 2 := z
    unfold n_fst
    rw [if_neg z]
  · have z : s.2 38 f.toNat = 2 := z
    unfold n_fst
    rw [if_pos z]
/-- part: the loop -/
theorem n_l122 {f k : Int} (hd : 6 ≤ d) (hk : 0 ≤ k ∧ k < 100000) (y : Int) : ∀ (xs : List Int) (c j : Int), n_isch s.2 c xs → 0 ≤ j → j ≤ k → xs[(k - j).toNat]? = some y → NP Z d 122 10 [some (xR 25), some (xI f), some (xI k), some (xI c), some (xI j)] [] s (fun r s' => r = some (s.2 40 y.toNat) ∧ s' = s)
  | [], c, j, hc, h0, h1, hy => by simp at hy
  | x :: xs, c, j, hc, h0, h1, hy => by
    obtain ⟨rfl, g1, g2, g3⟩ := hc
    refine n_at nb122_10 hd rfl ⟨⟨by omega, by omega⟩, ⟨by omega, by omega⟩, fun z => ?_, fun z => ?_⟩
    · have z : k ≤ j := z
      have e : (k - j).toNat = 0 := by omega
      rw [e] at hy
      simp only [List.getElem?_cons_zero, Option.some.injEq] at hy
      subst hy
      exact n_at nb122_29 hd rfl ⟨⟨g1, g2⟩, rfl, rfl⟩
    · have z : ¬ k ≤ j := z
      refine ⟨⟨g1, g2⟩, ?_⟩
      have e : (k - j).toNat = (k - (j + 1)).toNat + 1 := by omega
      rw [e, List.getElem?_cons_succ] at hy
      exact n_l122 hd hk y xs _ (j + 1) g3 (by omega) (by omega) hy
theorem ng122 {f k y : Int} {xs : List Int} (hd : 6 ≤ d) (hf : 0 ≤ f ∧ f < 1300) (hk : 0 ≤ k ∧ k < 100000) (hx : n_isch s.2 (s.2 39 f.toNat) xs) (hy : xs[k.toNat]? = some y) : NG Z d 122 [xR 25, xI f, xI k] s (fun r s' => r = some (s.2 40 y.toNat) ∧ s' = s) := by
  refine n_G_of (L := [some (xR 25), some (xI f), some (xI k), none, none]) (by rw [nl122]; exact Nat.le_of_ble_eq_true rfl) (by rw [nl122]; rfl) ?_
  refine n_at nb122_0 hd rfl ⟨⟨hf.1, hf.2⟩, ?_⟩
  exact n_l122 hd hk y xs _ 0 hx (by omega) (by omega) (by rw [show k - 0 = k from by omega]; exact hy)
/-- a form joins the list that is open -/
theorem ng117 {f : Int} (hd : 6 ≤ d) (hc : 0 ≤ s.1 18 ∧ s.1 18 < 1300) (ho : 0 ≤ s.1 25 ∧ s.1 25 < 9) (hl : n_rng (s.2 43 (s.1 25).toNat) ∧ s.2 43 (s.1 25).toNat < 1300) (hv : 0 ≤ s.2 42 (s.1 25).toNat ∧ s.2 42 (s.1 25).toNat < 1300) : NG Z d 117 [xR 25, xI f] s (fun r s' => r = none ∧ s' = (n_upd s.1 18 (s.1 18 + 1), n_updA (if s.2 43 (s.1 25).toNat < 0 then n_updA (n_updA (n_updA s.2 40 (s.1 18).toNat f) 41 (s.1 18).toNat (-1)) 39 (s.2 42 (s.1 25).toNat).toNat (s.1 18) else n_updA (n_updA (n_updA s.2 40 (s.1 18).toNat f) 41 (s.1 18).toNat (-1)) 41 (s.2 43 (s.1 25).toNat).toNat (s.1 18)) 43 (s.1 25).toNat (s.1 18))) := by
  refine n_G_of (L := [some (xR 25), some (xI f)]) (by rw [nl117]; exact Nat.le_of_ble_eq_true rfl) (by rw [nl117]; rfl) ?_
  refine n_at nb117_0 hd rfl ⟨hc, hc, ho, hl.1, fun z => ?_, fun z => ?_⟩
  · have z : 0 ≤ s.2 43 (s.1 25).toNat := z
    rw [if_neg (by omega)]
    refine n_at nb117_53 hd rfl ⟨ho, ⟨z, hl.2⟩, ?_⟩
    exact n_at nb117_71 hd rfl ⟨ho, rfl, rfl, rfl⟩
  · have z : ¬ 0 ≤ s.2 43 (s.1 25).toNat := z
    rw [if_pos (by omega)]
    refine ⟨ho, hv, ?_⟩
    exact n_at nb117_71 hd rfl ⟨ho, rfl, rfl, rfl⟩
end N6
end
section
/-! THE REFERENCE READS ATOMS -/
/-- the texts: how long, which characters -/
def n_TX (s : nS) (m : Int) : Prop := (0 ≤ s.1 1 ∧ s.1 1 ≤ 120) ∧ (-1 ≤ m ∧ m < 16) ∧ (0 ≤ m → 0 ≤ s.2 37 m.toNat ∧ s.2 37 m.toNat ≤ 120) ∧ (∀ i, 0 ≤ s.2 26 i ∧ s.2 26 i < 128) ∧ (∀ i, 0 ≤ s.2 36 i ∧ s.2 36 i < 128)
def n_lenT (s : nS) (m : Int) : Int := if m < 0 then s.1 1 else s.2 37 m.toNat
theorem n_at1_b {s : nS} {m k : Int} (h : n_TX s m) : 0 ≤ n_at1 s m k ∧ n_at1 s m k < 128 := by
  obtain ⟨-, -, -, h1, h2⟩ := h
  unfold n_at1
  split <;> split <;> first | exact h1 _ | exact h2 _ | decide
theorem n_at1_0 {s : nS} {m k : Int} (h : n_lenT s m ≤ k) : n_at1 s m k = 0 := by
  unfold n_lenT at h
  unfold n_at1
  split
  · rename_i hm
    rw [if_pos hm] at h
    rw [if_neg (by omega)]
  · rename_i hm
    rw [if_neg hm] at h
    rw [if_neg (by omega)]
theorem n_len_b {s : nS} {m : Int} (h : n_TX s m) : 0 ≤ n_lenT s m ∧ n_lenT s m ≤ 120 := by
  obtain ⟨h0, h1, h2, -, -⟩ := h
  unfold n_lenT
  split
  · exact h0
  · exact h2 (by omega)
/-- digits, letters: to their end, at most n -/
def n_nd (ch : Int → Int) : Nat → Int → Int
  | 0, p => p
  | n + 1, p => if c_dig (ch p) = true then n_nd ch n (p + 1) else p
def n_nl (ch : Int → Int) : Nat → Int → Int
  | 0, p => p
  | n + 1, p => if c_let (ch p) = true then n_nl ch n (p + 1) else p
theorem n_nd_b {ch : Int → Int} {len : Int} (h0 : ∀ k, len ≤ k → ch k = 0) : ∀ (n : Nat) (p : Int), p ≤ len → p ≤ n_nd ch n p ∧ n_nd ch n p ≤ len
  | 0, p, hp => ⟨Int.le_refl _, hp⟩
  | n + 1, p, hp => by
    unfold n_nd
    split
    · rename_i h
      have : p < len := by
        apply Classical.byContradiction
        intro hc
        rw [h0 p (by omega)] at h
        exact absurd h (by decide)
      have := n_nd_b h0 n (p + 1) (by omega)
      exact ⟨by omega, this.2⟩
    · exact ⟨Int.le_refl _, hp⟩
theorem n_nl_b {ch : Int → Int} {len : Int} (h0 : ∀ k, len ≤ k → ch k = 0) : ∀ (n : Nat) (p : Int), p ≤ len → p ≤ n_nl ch n p ∧ n_nl ch n p ≤ len
  | 0, p, hp => ⟨Int.le_refl _, hp⟩
  | n + 1, p, hp => by
    unfold n_nl
    split
    · rename_i h
      have : p < len := by
        apply Classical.byContradiction
        intro hc
        rw [h0 p (by omega)] at h
        exact absurd h (by decide)
      have := n_nl_b h0 n (p + 1) (by omega)
      exact ⟨by omega, this.2⟩
    · exact ⟨Int.le_refl _, hp⟩
section N7
variable {Z : Nat → List Int32} {d : Nat} {s : nS}
/-- the character at the place p -/
theorem ng112p {m : Int} {S : Nat → Int} (hd : 6 ≤ d) (h : n_TX s m) (hS : S 1 = s.1 1) {k : Int} (hk : 0 ≤ k ∧ k ≤ 200) : NG Z d 112 [xR 25, xI m, xI k] (S, s.2) (fun r s' => r = some (n_at1 s m k) ∧ s' = (S, s.2)) := by
  obtain ⟨h0, h1, h2, h3, h4⟩ := h
  have := ng112 (Z := Z) (d := d) (s := (S, s.2)) (m := m) (k := k) hd ⟨by omega, by omega⟩ ⟨by omega, by omega⟩ (by show 0 ≤ S 1 ∧ S 1 ≤ 120; rw [hS]; exact h0) (fun hm => ⟨by omega, h2 hm⟩)
  have e : n_at1 (S, s.2) m k = n_at1 s m k := by
    unfold n_at1
    show (if m < 0 then (if k < S 1 then _ else _) else _) = _
    rw [hS]
  rw [e] at this
  exact this
/-- number: its digits; a number's value is nobody's concern here -/
theorem n_l118 {m sg : Int} (hd : 6 ≤ d) (h : n_TX s m) (hf : 0 ≤ s.1 17 ∧ s.1 17 < 1300) (Post : nA → nS → Prop) : ∀ (j : Nat), j ≤ 4 → ∀ (S : Nat → Int) (n : Int), S = n_upd s.1 23 (S 23) → 0 ≤ S 23 → S 23 ≤ 130 → (∀ v, Post (some (s.1 17)) (n_upd (n_upd s.1 23 (n_nd (n_at1 s m) j (S 23))) 17 (s.1 17 + 1), n_updA (n_updA s.2 38 (s.1 17).toNat 0) 39 (s.1 17).toNat v)) → NP Z (d + 1) 118 33 [some (xR 25), some (xI m), some (xI sg), some (xI n), some (xI ((4 : Int) - j))] [] (S, s.2) Post
  | 0, _, S, n, hS, h1, h2, hP => by
    refine n_at nb118_33 (by omega) rfl ⟨⟨by decide, by decide⟩, ⟨by decide, by decide⟩, fun _ => ?_, fun z => absurd (show (4 : Int) ≤ (4 : Int) - (0 : Nat) by decide) z⟩
    refine n_at nb118_88 (by omega) rfl ?_
    have e17 : S 17 = s.1 17 := by rw [hS]; rfl
    refine n_iv (vs := [xR 25, xI 0, xI (sg * n)]) (r := []) nn116 (by simp) rfl nc116 (ng116 (s := (S, s.2)) (w := 0) (v := sg * n) (by omega) (by show 0 ≤ S 17 ∧ S 17 < 1300; rw [e17]; exact hf)) (fun r s' hr => ?_)
    obtain ⟨rfl, rfl⟩ := hr
    have := hP (sg * n)
    show Post (some (S 17)) (n_upd S 17 (S 17 + 1), n_updA (n_updA s.2 38 (S 17).toNat 0) 39 (S 17).toNat (sg * n))
    rw [e17]
    have e : n_nd (n_at1 s m) 0 (S 23) = S 23 := rfl
    rw [e, ← hS] at this
    exact this
  | j + 1, hj, S, n, hS, h1, h2, hP => by
    have e1 : S 1 = s.1 1 := by rw [hS]; rfl
    refine n_at nb118_33 (by omega) rfl ⟨⟨by omega, by omega⟩, ⟨by decide, by decide⟩, fun z => ?_, fun _ => ?_⟩
    · have z : (4 : Int) ≤ 4 - ((j + 1 : Nat) : Int) := z
      omega
    refine n_iv (vs := [xR 25, xI m, xI (S 23)]) (r := []) nn112 (by simp) rfl nc112 (ng112p (by omega) h e1 ⟨h1, by omega⟩) (fun r s' hr => ?_)
    obtain ⟨rfl, rfl⟩ := hr
    have hb := n_at1_b (k := S 23) h
    refine n_is (vs := [xI (n_at1 s m (S 23))]) (r := []) nn113 (by simp) (ng113 (by omega) ⟨by omega, by omega⟩) (fun r s' hr => ?_)
    obtain ⟨rfl, rfl⟩ := hr
    refine ⟨n_rngT _, fun z => ?_, fun z => ?_⟩
    · have z : n_T (c_dig (n_at1 s m (S 23))) = 0 := z
      have hc : c_dig (n_at1 s m (S 23)) = false := by
        cases hq : c_dig (n_at1 s m (S 23))
        · rfl
        · rw [hq] at z; exact absurd z (by decide)
      refine n_at nb118_88 (by omega) rfl ?_
      have e17 : S 17 = s.1 17 := by rw [hS]; rfl
      refine n_iv (vs := [xR 25, xI 0, xI (sg * n)]) (r := []) nn116 (by simp) rfl nc116 (ng116 (s := (S, s.2)) (w := 0) (v := sg * n) (by omega) (by show 0 ≤ S 17 ∧ S 17 < 1300; rw [e17]; exact hf)) (fun r s' hr => ?_)
      obtain ⟨rfl, rfl⟩ := hr
      have := hP (sg * n)
      show Post (some (S 17)) (n_upd S 17 (S 17 + 1), n_updA (n_updA s.2 38 (S 17).toNat 0) 39 (S 17).toNat (sg * n))
      rw [e17]
      have e : n_nd (n_at1 s m) (j + 1) (S 23) = S 23 := by unfold n_nd; rw [hc]; rfl
      rw [e, ← hS] at this
      exact this
    · have z : ¬ n_T (c_dig (n_at1 s m (S 23))) = 0 := z
      have hc : c_dig (n_at1 s m (S 23)) = true := by
        cases hq : c_dig (n_at1 s m (S 23))
        · rw [hq] at z; exact absurd rfl z
        · rfl
      refine n_iv (vs := [xR 25, xI m, xI (S 23)]) (r := [xI (10 * n)]) nn112 (by simp) rfl nc112 (ng112p (by omega) h e1 ⟨h1, by omega⟩) (fun r s' hr => ?_)
      obtain ⟨rfl, rfl⟩ := hr
      have e : (4 : Int) - ((j + 1 : Nat) : Int) + 1 = 4 - (j : Nat) := by omega
      show NP Z (d + 1) 118 33 [some (xR 25), some (xI m), some (xI sg), some (xI (10 * n + n_at1 s m (S 23) - 48)), some (xI ((4 : Int) - ((j + 1 : Nat) : Int) + 1))] [] (n_upd S 23 (S 23 + 1), s.2) Post
      rw [e]
      have e23 : n_upd S 23 (S 23 + 1) 23 = S 23 + 1 := rfl
      refine n_l118 hd h hf Post j (by omega) _ _ ?_ (by rw [e23]; omega) ?_ ?_
      · rw [e23, hS]
        funext k
        unfold n_upd
        by_cases hk : k = 23
        · simp [hk]
        · simp [hk]
      · rw [e23]
        have : S 23 < n_lenT s m := by
          apply Classical.byContradiction
          intro hcn
          rw [n_at1_0 (by omega)] at hc
          exact absurd hc (by decide)
        have := n_len_b h
        omega
      · rw [e23]
        have e2 : n_nd (n_at1 s m) (j + 1) (S 23) = n_nd (n_at1 s m) j (S 23 + 1) := by
          show (if c_dig (n_at1 s m (S 23)) = true then _ else _) = _
          rw [if_pos hc]
        rw [← e2]
        exact hP
/-- number -/
theorem ng118 {m : Int} (hd : 6 ≤ d) (h : n_TX s m) (hf : 0 ≤ s.1 17 ∧ s.1 17 < 1300) (hp : 0 ≤ s.1 23 ∧ s.1 23 ≤ 120) : NG Z (d + 1) 118 [xR 25, xI m] s (fun r s' => r = some (s.1 17) ∧ ∃ v, s' = (n_upd (n_upd s.1 23 (n_nd (n_at1 s m) 4 (if n_at1 s m (s.1 23) = 45 then s.1 23 + 1 else s.1 23))) 17 (s.1 17 + 1), n_updA (n_updA s.2 38 (s.1 17).toNat 0) 39 (s.1 17).toNat v)) := by
  have hb := n_at1_b (k := s.1 23) h
  have h28 : ∀ (S : Nat → Int) (sg : Int), S = n_upd s.1 23 (S 23) → S 23 = (if n_at1 s m (s.1 23) = 45 then s.1 23 + 1 else s.1 23) → NP Z (d + 1) 118 28 [some (xR 25), some (xI m), some (xI sg), none, none] [] (S, s.2) (fun r s' => r = some (s.1 17) ∧ ∃ v, s' = (n_upd (n_upd s.1 23 (n_nd (n_at1 s m) 4 (if n_at1 s m (s.1 23) = 45 then s.1 23 + 1 else s.1 23))) 17 (s.1 17 + 1), n_updA (n_updA s.2 38 (s.1 17).toNat 0) 39 (s.1 17).toNat v)) := by
    intro S sg hS h23
    refine n_at nb118_28 (by omega) rfl ?_
    refine n_l118 hd h hf _ 4 (by omega) S 0 hS ?_ ?_ (fun v => ⟨rfl, v, by rw [h23]⟩)
    · rw [h23]; split <;> omega
    · rw [h23]; split <;> omega
  refine n_G_of (L := [some (xR 25), some (xI m), none, none, none]) (by rw [nl118]; exact Nat.le_of_ble_eq_true rfl) (by rw [nl118]; rfl) ?_
  refine n_at nb118_0 (by omega) rfl ?_
  refine n_iv (vs := [xR 25, xI m, xI (s.1 23)]) (r := []) nn112 (by simp) rfl nc112 (ng112p (S := s.1) (by omega) h rfl ⟨hp.1, by omega⟩) (fun r s' hr => ?_)
  obtain ⟨rfl, rfl⟩ := hr
  refine ⟨⟨by omega, by omega⟩, ⟨by decide, by decide⟩, fun z => ?_, fun z => ?_⟩
  · have e : n_upd s.1 23 (s.1 23) = s.1 := by
      funext k
      unfold n_upd
      split
      · rename_i hk; rw [hk]
      · rfl
    exact h28 s.1 1 e.symm (by rw [if_neg z])
  · exact h28 (n_upd s.1 23 (s.1 23 + 1)) (-1) (by funext k; unfold n_upd; by_cases hk : k = 23 <;> simp [hk]) (by rw [if_pos z]; rfl)
end N7
end
section
/-! BITS -/
theorem n_toNat (x : Int) : (BitVec.ofInt 32 x).toNat = (x % 4294967296).toNat := by
  rw [BitVec.toNat_ofInt]
  rfl
theorem n_mod_toInt (z : Int32) (k : Nat) (hk : k = 256) : z.toInt % (k : Nat) = ((z.toBitVec.toNat % k : Nat) : Int) := by
  subst hk
  have h : z.toInt = z.toBitVec.toInt := rfl
  rw [h, BitVec.toInt_eq_toNat_bmod]
  have hlt := z.toBitVec.isLt
  have : (2 ^ 32 : Nat) = 4294967296 := by decide
  rw [Int.bmod_def]
  omega
theorem n_shl8 (x : Int) : (Int32.ofInt x <<< (Int32.ofInt 8 &&& 31)).toBitVec = BitVec.ofInt 32 x <<< 8 := by
  rw [Int32.toBitVec_shiftLeft]
  have : ((Int32.ofInt 8 &&& 31).toBitVec.smod 32) = 8#32 := by decide
  rw [this]
  rfl
/-- a symbol's last character -/
theorem n_or_low {v c : Int} (hc : 0 ≤ c ∧ c < 256) : n_or (n_shl v 8) c % 256 = c := by
  unfold n_or n_shl
  rw [n_back]
  have h := n_mod_toInt ((Int32.ofInt v <<< (Int32.ofInt 8 &&& 31)) ||| Int32.ofInt c) 256 rfl
  have e0 : ((256 : Nat) : Int) = 256 := rfl
  rw [e0] at h
  rw [h]
  rw [Int32.toBitVec_or, n_shl8, BitVec.toNat_or, BitVec.toNat_shiftLeft]
  have e1 : (Int32.ofInt c).toBitVec.toNat = c.toNat := by
    show (BitVec.ofInt 32 c).toNat = _
    rw [n_toNat]
    omega
  rw [e1]
  generalize (BitVec.ofInt 32 v).toNat = a
  have e2 : a <<< 8 % 2 ^ 32 = (a % 2 ^ 24) <<< 8 := by
    rw [Nat.shiftLeft_eq, Nat.shiftLeft_eq]
    omega
  rw [e2, ← Nat.shiftLeft_add_eq_or_of_lt (by omega : c.toNat < 2 ^ 8), Nat.shiftLeft_eq]
  omega
theorem n_rng_toInt (z : Int32) : n_rng z.toInt := ⟨by have := Int32.le_toInt z; omega, by have := Int32.toInt_lt z; omega⟩
theorem n_rng_or (x y : Int) : n_rng (n_or x y) := n_rng_toInt _
theorem n_rng_shl (x y : Int) : n_rng (n_shl x y) := n_rng_toInt _
theorem n_rng_shr (x y : Int) : n_rng (n_shr x y) := n_rng_toInt _
theorem n_rng_b (x : Int) : n_rng (n_b x) := n_rng_toInt _
theorem n_and255 (x : Int) : n_and x 255 = x % 256 := rfl
end
section
/-! THE REFERENCE READS A SYMBOL -/
section N9
variable {Z : Nat → List Int32} {d : Nat} {s : nS}
/-- behind the name: a parameter's argument, or a new form -/
theorem n_l119b {m g v : Int} (hd : 6 ≤ d) (hm : -1 ≤ m ∧ m < 16) (hv : n_rng v) (hp : 0 ≤ m → 0 ≤ s.2 29 m.toNat ∧ s.2 29 m.toNat ≤ 4) (hw : ∀ i, n_rng (s.2 35 i)) (hf : 0 ≤ s.1 17 ∧ s.1 17 < 1300) (Post : nA → nS → Prop)
    (hN : Post (some (s.1 17)) (n_upd s.1 17 (s.1 17 + 1), n_updA (n_updA s.2 38 (s.1 17).toNat 1) 39 (s.1 17).toNat v)) :
    ∀ (ys : List Int) (c k : Int), n_isch s.2 c ys → 0 ≤ k → k + ys.length < 100000 → (0 ≤ m → s.2 29 m.toNat ≤ k + ys.length) → (∀ y ∈ ys, Post (some (s.2 40 y.toNat)) s) → NP Z (d + 1) 119 92 [some (xR 25), some (xI m), some (xI g), some (xI v), some (xI c), some (xI k)] [] s Post := by
  have h145 : ∀ c k : Int, NP Z (d + 1) 119 145 [some (xR 25), some (xI m), some (xI g), some (xI v), some (xI c), some (xI k)] [] s Post := by
    intro c k
    refine n_at nb119_145 (by omega) rfl ?_
    refine n_iv (vs := [xR 25, xI 1, xI v]) (r := []) nn116 (by simp) rfl nc116 (ng116 (by omega) hf) (fun r s' hr => ?_)
    obtain ⟨rfl, rfl⟩ := hr
    exact hN
  intro ys
  induction ys with
  | nil =>
    intro c k hc h0 hl hle _
    refine n_at nb119_92 (by omega) rfl ⟨⟨by omega, by omega⟩, fun _ => h145 _ _, fun z => ?_⟩
    have h1 := hp (by omega)
    have h2 := hle (by omega)
    simp only [List.length_nil] at h2 hl
    refine ⟨⟨by omega, by omega⟩, ⟨by omega, by omega⟩, ⟨by omega, by omega⟩, fun _ => h145 _ _, fun z2 => ?_⟩
    omega
  | cons y ys ih =>
    intro c k hc h0 hl hle hP
    obtain ⟨rfl, g1, g2, g3⟩ := hc
    simp only [List.length_cons] at hl hle
    refine n_at nb119_92 (by omega) rfl ⟨⟨by omega, by omega⟩, fun _ => h145 _ _, fun z => ?_⟩
    have h1 := hp (by omega)
    have h2 := hle (by omega)
    refine ⟨⟨by omega, by omega⟩, ⟨by omega, by omega⟩, ⟨by omega, by omega⟩, fun _ => h145 _ _, fun z2 => ?_⟩
    refine ⟨⟨by omega, by omega⟩, hw _, hv, fun z3 => ?_, fun z3 => ?_⟩
    · refine n_at nb119_130 (by omega) rfl ⟨⟨g1, g2⟩, ?_⟩
      exact ih _ (k + 1) g3 (by omega) (by omega) (fun hm0 => by have := hle hm0; omega) (fun y' hy' => hP y' (List.mem_cons_of_mem _ hy'))
    · exact ⟨⟨g1, g2⟩, hP _ List.mem_cons_self⟩
/-- the letters of a name -/
theorem n_l119a {m g : Int} (hd : 6 ≤ d) (h : n_TX s m) (Post : nA → nS → Prop) : ∀ (j : Nat), j ≤ 3 → ∀ (S : Nat → Int) (v : Int), S = n_upd s.1 23 (S 23) → 0 ≤ S 23 → S 23 ≤ 130 → n_rng v →
    (∀ (v k : Int), n_rng v → NP Z (d + 1) 119 86 [some (xR 25), some (xI m), some (xI g), some (xI v), some (xI k), none] [] (n_upd s.1 23 (if c_let (v % 256) = true then n_nl (n_at1 s m) j (S 23) else S 23), s.2) Post → True) →
    (∀ (v' k : Int), n_rng v' → NP Z (d + 1) 119 86 [some (xR 25), some (xI m), some (xI g), some (xI v'), some (xI k), none] [] (n_upd s.1 23 (if c_let (v % 256) = true then n_nl (n_at1 s m) j (S 23) else S 23), s.2) Post) → NP Z (d + 1) 119 23 [some (xR 25), some (xI m), some (xI g), some (xI v), some (xI ((4 : Int) - j)), none] [] (S, s.2) Post
  | 0, _, S, v, hS, h1, h2, hv, _, hP => by
    refine n_at nb119_23 (by omega) rfl ⟨⟨by decide, by decide⟩, ⟨by decide, by decide⟩, fun _ => ?_, fun z => absurd (show (4 : Int) ≤ (4 : Int) - (0 : Nat) by decide) z⟩
    have := hP v ((4 : Int) - (0 : Nat)) hv
    have e : (if c_let (v % 256) = true then n_nl (n_at1 s m) 0 (S 23) else S 23) = S 23 := by split <;> rfl
    rw [e, ← hS] at this
    exact this
  | j + 1, hj, S, v, hS, h1, h2, hv, _, hP => by
    have e1 : S 1 = s.1 1 := by rw [hS]; rfl
    have hb := n_at1_b (k := S 23) h
    refine n_at nb119_23 (by omega) rfl ⟨⟨by omega, by omega⟩, ⟨by decide, by decide⟩, fun z => ?_, fun _ => ?_⟩
    · omega
    refine n_is (vs := [xI (v % 256)]) (r := []) nn114 (by simp) (ng114 (by omega) ⟨by omega, by omega⟩) (fun r s' hr => ?_)
    obtain ⟨rfl, rfl⟩ := hr
    refine ⟨n_rngT _, fun z => ?_, fun z => ?_⟩
    · have hc : c_let (v % 256) = false := by
        cases hq : c_let (v % 256)
        · rfl
        · rw [hq] at z; exact absurd z (by decide)
      have := hP v ((4 : Int) - ((j + 1 : Nat) : Int)) hv
      rw [hc, if_neg (by decide), ← hS] at this
      exact this
    have hc : c_let (v % 256) = true := by
      cases hq : c_let (v % 256)
      · rw [hq] at z; exact absurd rfl z
      · rfl
    refine n_iv (vs := [xR 25, xI m, xI (S 23)]) (r := []) nn112 (by simp) rfl nc112 (ng112p (by omega) h e1 ⟨h1, by omega⟩) (fun r s' hr => ?_)
    obtain ⟨rfl, rfl⟩ := hr
    refine n_is (vs := [xI (n_at1 s m (S 23))]) (r := []) nn114 (by simp) (ng114 (by omega) ⟨by omega, by omega⟩) (fun r s' hr => ?_)
    obtain ⟨rfl, rfl⟩ := hr
    refine ⟨n_rngT _, fun z2 => ?_, fun z2 => ?_⟩
    · have hc2 : c_let (n_at1 s m (S 23)) = false := by
        cases hq : c_let (n_at1 s m (S 23))
        · rfl
        · rw [hq] at z2; exact absurd z2 (by decide)
      have := hP v ((4 : Int) - ((j + 1 : Nat) : Int)) hv
      have e2 : n_nl (n_at1 s m) (j + 1) (S 23) = S 23 := by
        show (if c_let (n_at1 s m (S 23)) = true then _ else _) = _
        rw [hc2]; rfl
      rw [e2, if_pos hc, ← hS] at this
      exact this
    have hc2 : c_let (n_at1 s m (S 23)) = true := by
      cases hq : c_let (n_at1 s m (S 23))
      · rw [hq] at z2; exact absurd rfl z2
      · rfl
    refine n_iv (vs := [xR 25, xI m, xI (S 23)]) (r := [xI (n_shl v 8)]) nn112 (by simp) rfl nc112 (ng112p (by omega) h e1 ⟨h1, by omega⟩) (fun r s' hr => ?_)
    obtain ⟨rfl, rfl⟩ := hr
    have e : (4 : Int) - ((j + 1 : Nat) : Int) + 1 = 4 - (j : Nat) := by omega
    show NP Z (d + 1) 119 23 [some (xR 25), some (xI m), some (xI g), some (xI (n_or (n_shl v 8) (n_at1 s m (S 23)))), some (xI ((4 : Int) - ((j + 1 : Nat) : Int) + 1)), none] [] (n_upd S 23 (S 23 + 1), s.2) Post
    rw [e]
    have e23 : n_upd S 23 (S 23 + 1) 23 = S 23 + 1 := rfl
    have elow : n_or (n_shl v 8) (n_at1 s m (S 23)) % 256 = n_at1 s m (S 23) := n_or_low ⟨hb.1, by omega⟩
    have hlt : S 23 < n_lenT s m := by
      apply Classical.byContradiction
      intro hcn
      rw [n_at1_0 (by omega)] at hc2
      exact absurd hc2 (by decide)
    have hlb := n_len_b h
    refine n_l119a hd h Post j (by omega) _ _ ?_ (by rw [e23]; omega) (by rw [e23]; omega) (n_rng_or _ _) (fun _ _ _ _ => trivial) ?_
    · rw [e23]
      conv => lhs; rw [hS]
      funext k
      unfold n_upd
      by_cases hk : k = 23 <;> simp [hk]
    · rw [e23, elow, if_pos hc2]
      intro v' k hv'
      have := hP v' k hv'
      have e2 : n_nl (n_at1 s m) (j + 1) (S 23) = n_nl (n_at1 s m) j (S 23 + 1) := by
        show (if c_let (n_at1 s m (S 23)) = true then _ else _) = _
        rw [if_pos hc2]
      rw [if_pos hc, e2] at this
      exact this
/-- where a symbol ends -/
def n_symEnd (ch : Int → Int) (p : Int) : Int := if c_let (ch p) = true then n_nl ch 3 (p + 1) else p + 1
theorem ng119 {m g : Int} {ys : List Int} (hd : 6 ≤ d) (h : n_TX s m) (hf : 0 ≤ s.1 17 ∧ s.1 17 < 1300) (hpp : 0 ≤ s.1 23 ∧ s.1 23 ≤ 120) (hp : 0 ≤ m → 0 ≤ s.2 29 m.toNat ∧ s.2 29 m.toNat ≤ 4 ∧ s.2 29 m.toNat ≤ ys.length) (hw : ∀ i, n_rng (s.2 35 i)) (hg : n_isch s.2 g ys) (hl : ys.length < 10000) : NG Z (d + 1) 119 [xR 25, xI m, xI g] s (fun r s' => (r = some (s.1 17) ∧ ∃ v, n_rng v ∧ s' = (n_upd (n_upd s.1 23 (n_symEnd (n_at1 s m) (s.1 23))) 17 (s.1 17 + 1), n_updA (n_updA s.2 38 (s.1 17).toNat 1) 39 (s.1 17).toNat v)) ∨ (∃ y ∈ ys, r = some (s.2 40 y.toNat) ∧ s' = (n_upd s.1 23 (n_symEnd (n_at1 s m) (s.1 23)), s.2))) := by
  have hb := n_at1_b (k := s.1 23) h
  have hm := h.2.1
  refine n_G_of (L := [some (xR 25), some (xI m), some (xI g), none, none, none]) (by rw [nl119]; exact Nat.le_of_ble_eq_true rfl) (by rw [nl119]; rfl) ?_
  refine n_at nb119_0 (by omega) rfl ?_
  refine n_iv (vs := [xR 25, xI m, xI (s.1 23)]) (r := []) nn112 (by simp) rfl nc112 (ng112p (S := s.1) (by omega) h rfl ⟨hpp.1, by omega⟩) (fun r s' hr => ?_)
  obtain ⟨rfl, rfl⟩ := hr
  have e256 : n_at1 s m (s.1 23) % 256 = n_at1 s m (s.1 23) := by omega
  refine n_l119a hd h _ 3 (by omega) (n_upd s.1 23 (s.1 23 + 1)) _ (by funext k; unfold n_upd; by_cases hk : k = 23 <;> simp [hk]) (by show 0 ≤ s.1 23 + 1; omega) (by show s.1 23 + 1 ≤ 130; omega) ⟨by omega, by omega⟩ (fun _ _ _ _ => trivial) ?_
  intro v k hv
  rw [e256]
  have eS : (if c_let (n_at1 s m (s.1 23)) = true then n_nl (n_at1 s m) 3 (n_upd s.1 23 (s.1 23 + 1) 23) else n_upd s.1 23 (s.1 23 + 1) 23) = n_symEnd (n_at1 s m) (s.1 23) := rfl
  rw [eS]
  refine n_at nb119_86 (by omega) rfl ?_
  exact n_l119b (s := (n_upd s.1 23 (n_symEnd (n_at1 s m) (s.1 23)), s.2)) hd hm hv (fun h0 => ⟨(hp h0).1, (hp h0).2.1⟩) hw hf _ (Or.inl ⟨rfl, v, hv, rfl⟩) ys g 0 hg (by omega) (by omega) (fun h0 => by have := (hp h0).2.2; show s.2 29 m.toNat ≤ _; omega) (fun y hy => Or.inr ⟨y, hy, rfl, rfl⟩)
end N9
end
section
/-! THE REFERENCE'S FORMS AS TREES: H a form's height, O the list that a cell belongs to -/
theorem n_ua_eq {A : Nat → Nat → Int} {a i j : Nat} {x : Int} : n_updA A a i x a j = if j = i then x else A a j := by
  unfold n_updA
  by_cases h : j = i <;> simp [h]
theorem n_ua_ne {A : Nat → Nat → Int} {a b i j : Nat} {x : Int} (h : b ≠ a) : n_updA A a i x b j = A b j := by
  unfold n_updA
  simp [h]
theorem n_u_ne {S : Nat → Int} {k j : Nat} {x : Int} (h : j ≠ k) : n_upd S k x j = S j := by
  unfold n_upd
  simp [h]
theorem n_u_eq {S : Nat → Int} {k : Nat} {x : Int} : n_upd S k x k = x := by
  unfold n_upd
  simp
def n_FIf (s : nS) (H O : Nat → Int) (i : Nat) : Prop := (s.2 38 i = 0 ∨ s.2 38 i = 1 ∨ s.2 38 i = 2) ∧ 0 ≤ H i ∧ (s.2 38 i ≠ 0 → n_rng (s.2 39 i)) ∧ (s.2 38 i = 2 → s.2 39 i = -1 ∨ (0 ≤ s.2 39 i ∧ s.2 39 i < s.1 18 ∧ O (s.2 39 i).toNat = i))
def n_FIc (s : nS) (H O : Nat → Int) (j : Nat) : Prop := (0 ≤ s.2 40 j ∧ s.2 40 j < s.1 17) ∧ (0 ≤ O j ∧ O j < s.1 17) ∧ H (s.2 40 j).toNat < H (O j).toNat ∧ (s.2 41 j = -1 ∨ ((j : Int) < s.2 41 j ∧ s.2 41 j < s.1 18 ∧ O (s.2 41 j).toNat = O j))
def n_FI (s : nS) (H O : Nat → Int) : Prop := (0 ≤ s.1 17 ∧ s.1 17 ≤ 1300) ∧ (0 ≤ s.1 18 ∧ s.1 18 ≤ 1300) ∧ (∀ i : Nat, (i : Int) < s.1 17 → n_FIf s H O i) ∧ (∀ j : Nat, (j : Int) < s.1 18 → n_FIc s H O j)
/-- a new form -/
def n_mk (s : nS) (w v : Int) : nS := (n_upd s.1 17 (s.1 17 + 1), n_updA (n_updA s.2 38 (s.1 17).toNat w) 39 (s.1 17).toNat v)
theorem n_FI_mk {s : nS} {H O : Nat → Int} {w v hh : Int} (h : n_FI s H O) (hf : s.1 17 < 1300) (hw : w = 0 ∨ w = 1 ∨ w = 2) (hv : w ≠ 0 → n_rng v) (h2 : w = 2 → v = -1) (hh0 : 0 ≤ hh) : n_FI (n_mk s w v) (n_upd H (s.1 17).toNat hh) O := by
  obtain ⟨a1, a2, a3, a4⟩ := h
  have e17 : (n_mk s w v).1 17 = s.1 17 + 1 := rfl
  have e18 : (n_mk s w v).1 18 = s.1 18 := rfl
  have k38 : ∀ i, (n_mk s w v).2 38 i = if i = (s.1 17).toNat then w else s.2 38 i := fun i => by
    dsimp only [n_mk]
    rw [n_ua_ne (by decide), n_ua_eq]
  have k39 : ∀ i, (n_mk s w v).2 39 i = if i = (s.1 17).toNat then v else s.2 39 i := fun i => by
    dsimp only [n_mk]
    rw [n_ua_eq]
    split
    · rfl
    · rw [n_ua_ne (by decide)]
  have k40 : ∀ i, (n_mk s w v).2 40 i = s.2 40 i := fun i => by
    dsimp only [n_mk]
    rw [n_ua_ne (by decide), n_ua_ne (by decide)]
  have k41 : ∀ i, (n_mk s w v).2 41 i = s.2 41 i := fun i => by
    dsimp only [n_mk]
    rw [n_ua_ne (by decide), n_ua_ne (by decide)]
  refine ⟨⟨by omega, by omega⟩, ⟨by omega, by omega⟩, fun i hi => ?_, fun j hj => ?_⟩
  · unfold n_FIf
    rw [k38, k39, e18]
    by_cases hif : i = (s.1 17).toNat
    · subst hif
      rw [n_u_eq]
      simp only [if_true]
      exact ⟨hw, hh0, hv, fun h => Or.inl (h2 h)⟩
    · rw [n_u_ne hif]
      simp only [hif, if_false]
      exact a3 i (by omega)
  · unfold n_FIc
    rw [k40, k41, e17, e18]
    have b := a4 j (by omega)
    obtain ⟨b1, b2, b3, b4⟩ := b
    rw [n_u_ne (by omega), n_u_ne (by omega)]
    exact ⟨⟨by omega, by omega⟩, ⟨by omega, by omega⟩, b3, b4⟩
/-- a form joins a list -/
def n_jn (s : nS) (f : Int) : nS := (n_upd s.1 18 (s.1 18 + 1), n_updA (if s.2 43 (s.1 25).toNat < 0 then n_updA (n_updA (n_updA s.2 40 (s.1 18).toNat f) 41 (s.1 18).toNat (-1)) 39 (s.2 42 (s.1 25).toNat).toNat (s.1 18) else n_updA (n_updA (n_updA s.2 40 (s.1 18).toNat f) 41 (s.1 18).toNat (-1)) 41 (s.2 43 (s.1 25).toNat).toNat (s.1 18)) 43 (s.1 25).toNat (s.1 18))
theorem n_jn38 {s : nS} {f : Int} {i : Nat} : (n_jn s f).2 38 i = s.2 38 i := by
  dsimp only [n_jn]
  rw [n_ua_ne (by decide)]
  split <;> rw [n_ua_ne (by decide), n_ua_ne (by decide), n_ua_ne (by decide)]
theorem n_jn40 {s : nS} {f : Int} {i : Nat} : (n_jn s f).2 40 i = if i = (s.1 18).toNat then f else s.2 40 i := by
  dsimp only [n_jn]
  rw [n_ua_ne (by decide)]
  split <;> rw [n_ua_ne (by decide), n_ua_ne (by decide), n_ua_eq]
theorem n_jn39 {s : nS} {f : Int} {i : Nat} : (n_jn s f).2 39 i = if s.2 43 (s.1 25).toNat < 0 ∧ i = (s.2 42 (s.1 25).toNat).toNat then s.1 18 else s.2 39 i := by
  dsimp only [n_jn]
  rw [n_ua_ne (by decide)]
  by_cases h : s.2 43 (s.1 25).toNat < 0
  · rw [if_pos h, n_ua_eq, n_ua_ne (by decide), n_ua_ne (by decide)]
    simp [h]
  · rw [if_neg h, n_ua_ne (by decide), n_ua_ne (by decide), n_ua_ne (by decide)]
    simp [h]
theorem n_jn41 {s : nS} {f : Int} {i : Nat} : (n_jn s f).2 41 i = if ¬ s.2 43 (s.1 25).toNat < 0 ∧ i = (s.2 43 (s.1 25).toNat).toNat then s.1 18 else if i = (s.1 18).toNat then -1 else s.2 41 i := by
  dsimp only [n_jn]
  rw [n_ua_ne (by decide)]
  by_cases h : s.2 43 (s.1 25).toNat < 0
  · rw [if_pos h, n_ua_ne (by decide), n_ua_eq, n_ua_ne (by decide)]
    simp [h]
  · rw [if_neg h, n_ua_eq, n_ua_eq, n_ua_ne (by decide)]
    simp [h]
theorem n_jn42 {s : nS} {f : Int} {i : Nat} : (n_jn s f).2 42 i = s.2 42 i := by
  dsimp only [n_jn]
  rw [n_ua_ne (by decide)]
  split <;> rw [n_ua_ne (by decide), n_ua_ne (by decide), n_ua_ne (by decide)]
theorem n_jn43 {s : nS} {f : Int} {i : Nat} : (n_jn s f).2 43 i = if i = (s.1 25).toNat then s.1 18 else s.2 43 i := by
  dsimp only [n_jn]
  rw [n_ua_eq]
  congr 1
  split <;> rw [n_ua_ne (by decide), n_ua_ne (by decide), n_ua_ne (by decide)]
theorem n_jnA {s : nS} {f : Int} {a i : Nat} (h : a ≠ 39 ∧ a ≠ 40 ∧ a ≠ 41 ∧ a ≠ 43) : (n_jn s f).2 a i = s.2 a i := by
  dsimp only [n_jn]
  rw [n_ua_ne h.2.2.2]
  split
  · rw [n_ua_ne h.1, n_ua_ne h.2.2.1, n_ua_ne h.2.1]
  · rw [n_ua_ne h.2.2.1, n_ua_ne h.2.2.1, n_ua_ne h.2.1]
theorem n_FI_jn {s : nS} {H O : Nat → Int} {f : Int} (h : n_FI s H O) (hc : s.1 18 < 1300) (hf : 0 ≤ f ∧ f < s.1 17) (hl : 0 ≤ s.2 42 (s.1 25).toNat ∧ s.2 42 (s.1 25).toNat < s.1 17) (hH : H f.toNat < H (s.2 42 (s.1 25).toNat).toNat) (h43 : s.2 43 (s.1 25).toNat = -1 ∨ (0 ≤ s.2 43 (s.1 25).toNat ∧ s.2 43 (s.1 25).toNat < s.1 18 ∧ O (s.2 43 (s.1 25).toNat).toNat = s.2 42 (s.1 25).toNat)) : n_FI (n_jn s f) H (n_upd O (s.1 18).toNat (s.2 42 (s.1 25).toNat)) := by
  obtain ⟨a1, a2, a3, a4⟩ := h
  have e17 : (n_jn s f).1 17 = s.1 17 := rfl
  have e18 : (n_jn s f).1 18 = s.1 18 + 1 := rfl
  refine ⟨⟨by omega, by omega⟩, ⟨by omega, by omega⟩, fun i hi => ?_, fun j hj => ?_⟩
  · have b := a3 i (by omega)
    unfold n_FIf at b ⊢
    obtain ⟨b1, b2, b3, b4⟩ := b
    rw [n_jn38, n_jn39, e18]
    by_cases hq : s.2 43 (s.1 25).toNat < 0 ∧ i = (s.2 42 (s.1 25).toNat).toNat
    · rw [if_pos hq]
      refine ⟨b1, b2, fun _ => ⟨by omega, by omega⟩, fun _ => Or.inr ⟨by omega, by omega, ?_⟩⟩
      rw [n_u_eq]
      omega
    · rw [if_neg hq]
      refine ⟨b1, b2, b3, fun hk => ?_⟩
      rcases b4 hk with b5 | ⟨b5, b6, b7⟩
      · exact Or.inl b5
      · refine Or.inr ⟨b5, by omega, ?_⟩
        rw [n_u_ne (by omega)]
        exact b7
  · unfold n_FIc
    rw [n_jn40, n_jn41, e17, e18]
    by_cases hq : j = (s.1 18).toNat
    · subst hq
      rw [n_u_eq]
      simp only [if_true]
      rw [if_neg (by intro hx; rcases h43 with h5 | ⟨h5, h6, h7⟩ <;> omega)]
      exact ⟨hf, hl, hH, Or.inl rfl⟩
    · have b := a4 j (by omega)
      obtain ⟨b1, b2, b3, b4⟩ := b
      rw [if_neg hq, n_u_ne hq, if_neg hq]
      refine ⟨b1, b2, b3, ?_⟩
      by_cases hz : ¬ s.2 43 (s.1 25).toNat < 0 ∧ j = (s.2 43 (s.1 25).toNat).toNat
      · rw [if_pos hz]
        rcases h43 with h5 | ⟨h5, h6, h7⟩
        · omega
        · refine Or.inr ⟨by omega, by omega, ?_⟩
          rw [n_u_eq, hz.2, h7]
      · rw [if_neg hz]
        rcases b4 with b5 | ⟨b5, b6, b7⟩
        · exact Or.inl b5
        · refine Or.inr ⟨b5, by omega, ?_⟩
          rw [n_u_ne (by omega)]
          exact b7
/-- the cells of a list: a chain that ends -/
theorem n_chain {s : nS} {H O : Nat → Int} (h : n_FI s H O) : ∀ (n : Nat) (c : Int), c = -1 ∨ (0 ≤ c ∧ c < s.1 18) → s.1 18 - c ≤ n ∨ c = -1 → ∃ xs : List Int, n_isch s.2 c xs ∧ xs.length ≤ n ∧ ∀ x ∈ xs, 0 ≤ x ∧ x < s.1 18 ∧ O x.toNat = O c.toNat
  | n, c, Or.inl hc, _ => ⟨[], hc, by simp, fun x hx => by cases hx⟩
  | 0, c, Or.inr hc, hn => by omega
  | n + 1, c, Or.inr hc, hn => by
    obtain ⟨a1, a2, a3, a4⟩ := h
    obtain ⟨b1, b2, b3, b4⟩ := a4 c.toNat (by omega)
    have hh : n_FI s H O := ⟨a1, a2, a3, a4⟩
    obtain ⟨xs, c1, c2, c3⟩ := n_chain hh n (s.2 41 c.toNat) (by rcases b4 with b5 | ⟨b5, b6, b7⟩; exact Or.inl b5; exact Or.inr ⟨by omega, b6⟩) (by rcases b4 with b5 | ⟨b5, b6, b7⟩; exact Or.inr b5; exact Or.inl (by omega))
    refine ⟨c :: xs, ⟨rfl, hc.1, by omega, c1⟩, by simp; exact c2, fun x hx => ?_⟩
    rcases List.mem_cons.mp hx with rfl | hx
    · exact ⟨hc.1, hc.2, rfl⟩
    · obtain ⟨d1, d2, d3⟩ := c3 x hx
      refine ⟨d1, d2, ?_⟩
      rcases b4 with b5 | ⟨b5, b6, b7⟩
      · rw [b5] at c1
        obtain _ | ⟨y, ys⟩ := xs
        · cases hx
        · obtain ⟨e1, e2, -, -⟩ := c1
          omega
      · rw [d3, b7]
end
section
/-! WHAT HOLDS WHILE THE REFERENCE READS: b the state at its beginning, B how high its arguments are -/
def n_LV (b s : nS) (H O : Nat → Int) (B : Int) (l : Nat) : Prop := (b.1 17 ≤ s.2 42 l ∧ s.2 42 l < s.1 17) ∧ H (s.2 42 l).toNat = B + 9 - l ∧ (s.2 43 l = -1 ∨ (b.1 18 ≤ s.2 43 l ∧ s.2 43 l < s.1 18 ∧ O (s.2 43 l).toNat = s.2 42 l))
def n_fr (b s : nS) : Prop := (∀ k, k ≠ 17 ∧ k ≠ 18 ∧ k ≠ 23 ∧ k ≠ 24 ∧ k ≠ 25 → s.1 k = b.1 k) ∧ (∀ a i, ¬ (38 ≤ a ∧ a ≤ 43) → s.2 a i = b.2 a i)
def n_old (b : nS) (Hb Ob : Nat → Int) (s : nS) (H O : Nat → Int) : Prop := b.1 17 ≤ s.1 17 ∧ b.1 18 ≤ s.1 18 ∧ (∀ i : Nat, (i : Int) < b.1 17 → s.2 38 i = b.2 38 i ∧ s.2 39 i = b.2 39 i ∧ H i = Hb i) ∧ (∀ j : Nat, (j : Int) < b.1 18 → s.2 40 j = b.2 40 j ∧ s.2 41 j = b.2 41 j ∧ O j = Ob j)
def n_RW (b : nS) (Hb Ob : Nat → Int) (B : Int) (s : nS) (H O : Nat → Int) : Prop := n_fr b s ∧ n_FI s H O ∧ n_old b Hb Ob s H O ∧ (∀ l : Nat, 1 ≤ l → (l : Int) ≤ s.1 25 → n_LV b s H O B l)
section N11
variable {b s : nS} {Hb Ob H O : Nat → Int} {B : Int}
theorem n_RW_P {x : Int} (h : n_RW b Hb Ob B s H O) : n_RW b Hb Ob B (n_upd s.1 23 x, s.2) H O := by
  obtain ⟨⟨h1, h1'⟩, h2, h3, h4⟩ := h
  exact ⟨⟨fun k hk => by show n_upd s.1 23 x k = _; rw [n_u_ne hk.2.2.1]; exact h1 k hk, h1'⟩, h2, h3, h4⟩
theorem n_RW_W {x : Int} (h : n_RW b Hb Ob B s H O) : n_RW b Hb Ob B (n_upd s.1 24 x, s.2) H O := by
  obtain ⟨⟨h1, h1'⟩, h2, h3, h4⟩ := h
  exact ⟨⟨fun k hk => by show n_upd s.1 24 x k = _; rw [n_u_ne hk.2.2.2.1]; exact h1 k hk, h1'⟩, h2, h3, h4⟩
theorem n_RW_close {x : Int} (h : n_RW b Hb Ob B s H O) (hx : x ≤ s.1 25) : n_RW b Hb Ob B (n_upd s.1 25 x, s.2) H O := by
  obtain ⟨⟨h1, h1'⟩, h2, h3, h4⟩ := h
  exact ⟨⟨fun k hk => by show n_upd s.1 25 x k = _; rw [n_u_ne hk.2.2.2.2]; exact h1 k hk, h1'⟩, h2, h3, fun l hl1 hl2 => h4 l hl1 (by have : (l : Int) ≤ x := hl2; omega)⟩
theorem n_RW_mk {w v hh : Int} (h : n_RW b Hb Ob B s H O) (hb : 0 ≤ b.1 17) (hf : s.1 17 < 1300) (hw : w = 0 ∨ w = 1 ∨ w = 2) (hv : w ≠ 0 → n_rng v) (h2 : w = 2 → v = -1) (hh0 : 0 ≤ hh) : n_RW b Hb Ob B (n_mk s w v) (n_upd H (s.1 17).toNat hh) O := by
  obtain ⟨⟨h1, h1'⟩, h2', h3, h4⟩ := h
  obtain ⟨o1, o2, o3, o4⟩ := h3
  refine ⟨⟨fun k hk => ?_, fun a i ha => ?_⟩, n_FI_mk h2' hf hw hv h2 hh0, ⟨?_, o2, fun i hi => ?_, fun j hj => ?_⟩, fun l hl1 hl2 => ?_⟩
  · show n_upd s.1 17 _ k = _
    rw [n_u_ne hk.1]
    exact h1 k hk
  · dsimp only [n_mk]
    rw [n_ua_ne (by omega), n_ua_ne (by omega)]
    exact h1' a i ha
  · show b.1 17 ≤ s.1 17 + 1
    omega
  · dsimp only [n_mk]
    rw [n_ua_ne (by decide), n_ua_eq, if_neg (by omega), n_ua_eq, if_neg (by omega), n_ua_ne (by decide), n_u_ne (by omega)]
    exact o3 i hi
  · dsimp only [n_mk]
    rw [n_ua_ne (by decide), n_ua_ne (by decide), n_ua_ne (by decide), n_ua_ne (by decide)]
    exact o4 j hj
  · obtain ⟨l1, l2, l3⟩ := h4 l hl1 hl2
    unfold n_LV
    dsimp only [n_mk]
    rw [n_ua_ne (by decide), n_ua_ne (by decide), n_ua_ne (by decide), n_ua_ne (by decide), n_u_eq (S := s.1), n_u_ne (S := s.1) (show 18 ≠ 17 by decide), n_u_ne (S := H) (by omega)]
    exact ⟨⟨by omega, by omega⟩, l2, l3⟩
theorem n_RW_jn {f : Int} (h : n_RW b Hb Ob B s H O) (hb : 0 ≤ b.1 17 ∧ 0 ≤ b.1 18) (ho : 1 ≤ s.1 25) (hc : s.1 18 < 1300) (hf : 0 ≤ f ∧ f < s.1 17) (hH : H f.toNat < B + 9 - s.1 25) : n_RW b Hb Ob B (n_jn s f) H (n_upd O (s.1 18).toNat (s.2 42 (s.1 25).toNat)) := by
  obtain ⟨⟨h1, h1'⟩, h2', h3, h4⟩ := h
  obtain ⟨o1, o2, o3, o4⟩ := h3
  obtain ⟨⟨l1, l1'⟩, l2, l3⟩ := h4 (s.1 25).toNat (by omega) (by omega)
  refine ⟨⟨fun k hk => ?_, fun a i ha => ?_⟩, n_FI_jn h2' hc hf ⟨by omega, l1'⟩ (by omega) (by rcases l3 with l3 | l3; exact Or.inl l3; exact Or.inr ⟨by omega, l3.2.1, l3.2.2⟩), ⟨o1, ?_, fun i hi => ?_, fun j hj => ?_⟩, fun l hl1 hl2 => ?_⟩
  · show n_upd s.1 18 _ k = _
    rw [n_u_ne hk.2.1]
    exact h1 k hk
  · rw [n_jnA (by omega)]
    exact h1' a i ha
  · show b.1 18 ≤ s.1 18 + 1
    omega
  · rw [n_jn38, n_jn39, if_neg (by omega)]
    exact o3 i hi
  · rw [n_jn40, n_jn41, if_neg (by omega), if_neg (by rcases l3 with l3 | l3 <;> omega), if_neg (by omega), n_u_ne (by omega)]
    exact o4 j hj
  · have hl2 : (l : Int) ≤ s.1 25 := hl2
    obtain ⟨m1, m2, m3⟩ := h4 l hl1 hl2
    unfold n_LV
    rw [n_jn42, n_jn43]
    have e17 : (n_jn s f).1 17 = s.1 17 := rfl
    have e18 : (n_jn s f).1 18 = s.1 18 + 1 := rfl
    rw [e17, e18]
    refine ⟨m1, m2, ?_⟩
    by_cases hq : l = (s.1 25).toNat
    · subst hq
      rw [if_pos rfl, n_u_eq]
      exact Or.inr ⟨by omega, by omega, rfl⟩
    · rw [if_neg hq]
      rcases m3 with m3 | ⟨m3, m4, m5⟩
      · exact Or.inl m3
      · exact Or.inr ⟨m3, by omega, by rw [n_u_ne (by omega)]; exact m5⟩
/-- a list is opened: f its form -/
def n_op (s : nS) (f : Int) : nS := (n_upd (n_upd s.1 23 (s.1 23 + 1)) 25 (s.1 25 + 1), n_updA (n_updA s.2 42 (s.1 25 + 1).toNat f) 43 (s.1 25 + 1).toNat (-1))
theorem n_RW_op {f : Int} (h : n_RW b Hb Ob B s H O) (hb : 0 ≤ b.1 17) (ho : 0 ≤ s.1 25) (hf : b.1 17 ≤ f ∧ f < s.1 17) (hH : H f.toNat = B + 8 - s.1 25) : n_RW b Hb Ob B (n_op s f) H O := by
  obtain ⟨⟨h1, h1'⟩, h2', h3, h4⟩ := h
  have kA : ∀ a i, a ≠ 42 ∧ a ≠ 43 → (n_op s f).2 a i = s.2 a i := fun a i ha => by
    dsimp only [n_op]
    rw [n_ua_ne ha.2, n_ua_ne ha.1]
  have e17 : (n_op s f).1 17 = s.1 17 := rfl
  have e18 : (n_op s f).1 18 = s.1 18 := rfl
  have e25 : (n_op s f).1 25 = s.1 25 + 1 := rfl
  refine ⟨⟨fun k hk => ?_, fun a i ha => ?_⟩, ?_, ?_, fun l hl1 hl2 => ?_⟩
  · show n_upd (n_upd s.1 23 _) 25 _ k = _
    rw [n_u_ne hk.2.2.2.2, n_u_ne hk.2.2.1]
    exact h1 k hk
  · rw [kA a i (by omega)]
    exact h1' a i ha
  · unfold n_FI n_FIf n_FIc
    simp only [kA 38 _ (by decide), kA 39 _ (by decide), kA 40 _ (by decide), kA 41 _ (by decide), e17, e18]
    exact h2'
  · unfold n_old
    simp only [kA 38 _ (by decide), kA 39 _ (by decide), kA 40 _ (by decide), kA 41 _ (by decide), e17, e18]
    exact h3
  · rw [e25] at hl2
    unfold n_LV
    dsimp only [n_op]
    rw [n_ua_ne (show 42 ≠ 43 by decide), n_ua_eq, n_ua_eq, n_ua_ne (show 43 ≠ 42 by decide)]
    rw [n_u_ne (show 17 ≠ 25 by decide), n_u_ne (show 17 ≠ 23 by decide), n_u_ne (show 18 ≠ 25 by decide), n_u_ne (show 18 ≠ 23 by decide)]
    by_cases hq : l = (s.1 25 + 1).toNat
    · rw [if_pos hq, if_pos hq]
      exact ⟨hf, by rw [hH]; omega, Or.inl rfl⟩
    · rw [if_neg hq, if_neg hq]
      exact h4 l hl1 (by omega)
end N11
end
section
/-! THE REFERENCE READS -/
def c_beg (c : Int) : Bool := c_dig c || c_let c || c_sgn c
def n_isNum (ch : Int → Int) (p : Int) : Bool := c_dig (ch p) || (decide (ch p = 45) && c_dig (ch (p + 1)))
def n_atomEnd (ch : Int → Int) (p : Int) : Int := if n_isNum ch p = true then n_nd ch 4 (if ch p = 45 then p + 1 else p) else n_symEnd ch p
/-- what reading comes to: -1 or the wrong place -/
def n_rp (ch : Int → Int) (mac : Bool) : Nat → Int → Int → Bool → Bool → Int
  | 0, _, _, _, _ => -2
  | n + 1, p, o, ap, wh => if wh = true ∧ mac = true then -1 else if ch p = 32 then n_rp ch mac n (p + 1) o true wh else if ch p = 0 ∧ wh = true then -1 else if ch p = 41 ∧ 0 < o then n_rp ch mac n (p + 1) (o - 1) true (decide (o - 1 = 0)) else if wh = true ∨ (¬ ch p = 40 ∧ ¬ (c_beg (ch p) = true ∧ ap = true)) ∨ (ch p = 40 ∧ o = 8) then p else if ch p = 40 then n_rp ch mac n (p + 1) (o + 1) true wh else n_rp ch mac n (n_atomEnd ch p) o false (if 0 < o then wh else true)
theorem n_atomEnd_b {ch : Int → Int} {len p : Int} (h0 : ∀ k, len ≤ k → ch k = 0) (hp : ¬ ch p = 0) : p + 1 ≤ n_atomEnd ch p ∧ n_atomEnd ch p ≤ len := by
  have hlt : p < len := by
    apply Classical.byContradiction
    intro hc
    exact hp (h0 p (by omega))
  unfold n_atomEnd
  split
  · rename_i hn
    split
    · rename_i h45
      exact n_nd_b h0 4 (p + 1) (by omega)
    · rename_i h45
      have hd : c_dig (ch p) = true := by
        unfold n_isNum at hn
        simpa [h45] using hn
      have e : n_nd ch 4 p = n_nd ch 3 (p + 1) := by
        show (if c_dig (ch p) = true then _ else _) = _
        rw [if_pos hd]
      rw [e]
      exact n_nd_b h0 3 (p + 1) (by omega)
  · unfold n_symEnd
    split
    · exact n_nl_b h0 3 (p + 1) (by omega)
    · exact ⟨by omega, by omega⟩
theorem n_fr_at {b s : nS} {m k : Int} (h : n_fr b s) : n_at1 s m k = n_at1 b m k := by
  unfold n_at1
  rw [h.1 1 (by decide), h.2 26 _ (by decide), h.2 36 _ (by decide), h.2 37 _ (by decide)]
theorem n_fr_TX {b s : nS} {m : Int} (h : n_fr b s) (ht : n_TX b m) : n_TX s m := by
  obtain ⟨t1, t2, t3, t4, t5⟩ := ht
  refine ⟨by rw [h.1 1 (by decide)]; exact t1, t2, fun h0 => by rw [h.2 37 _ (by decide)]; exact t3 h0, fun i => by rw [h.2 26 _ (by decide)]; exact t4 i, fun i => by rw [h.2 36 _ (by decide)]; exact t5 i⟩
theorem n_isch_old {b s : nS} {Hb Ob H O : Nat → Int} (h : n_old b Hb Ob s H O) : ∀ (ys : List Int) (g : Int), n_isch b.2 g ys → (∀ y ∈ ys, 0 ≤ y ∧ y < b.1 18) → n_isch s.2 g ys
  | [], g, hg, _ => hg
  | y :: ys, g, hg, hy => by
    obtain ⟨g1, g2, g3, g4⟩ := hg
    have hy0 := hy y List.mem_cons_self
    refine ⟨g1, g2, g3, ?_⟩
    rw [(h.2.2.2 y.toNat (by omega)).2.1]
    exact n_isch_old h ys _ g4 (fun z hz => hy z (List.mem_cons_of_mem _ hz))
def n_RN (b s : nS) (m B : Int) (H : Nat → Int) (wh ap : Int) : Prop := (0 ≤ s.1 23 ∧ s.1 23 ≤ n_lenT b m) ∧ (0 ≤ s.1 25 ∧ s.1 25 ≤ 8) ∧ 4 * (s.1 17 - b.1 17) ≤ 3 * s.1 23 + 2 * s.1 25 + (1 - ap) ∧ 4 * (s.1 18 - b.1 18) ≤ 3 * s.1 23 + 2 * s.1 25 + (1 - ap) ∧ (wh = -1 ∨ (0 ≤ wh ∧ wh < s.1 17 ∧ H wh.toNat ≤ B + 8 ∧ s.1 25 = 0))
/-- the same, hidden from arithmetic -/
def n_rpE (ch : Int → Int) (mac : Bool) (n : Nat) (p o : Int) (ap wh : Bool) (W : Int) : Prop := n_rp ch mac n p o ap wh = W
/-- what reading is given -/
def n_CX (b : nS) (Hb Ob : Nat → Int) (m B g : Int) (ys : List Int) : Prop := n_TX b m ∧ 0 ≤ B ∧ (0 ≤ b.1 17 ∧ b.1 17 ≤ 1200) ∧ (0 ≤ b.1 18 ∧ b.1 18 ≤ 1200) ∧ (0 ≤ m → 0 ≤ b.2 29 m.toNat ∧ b.2 29 m.toNat ≤ 4 ∧ b.2 29 m.toNat ≤ ys.length) ∧ (∀ i, n_rng (b.2 35 i)) ∧ n_isch b.2 g ys ∧ ys.length < 10000 ∧ (∀ y ∈ ys, (0 ≤ y ∧ y < b.1 18) ∧ (0 ≤ b.2 40 y.toNat ∧ b.2 40 y.toNat < b.1 17) ∧ Hb (b.2 40 y.toNat).toNat ≤ B)
/-- what its end must give -/
def n_PX (b : nS) (Hb Ob : Nat → Int) (B : Int) (Post : nA → nS → Prop) (W : Int) : Prop := (W = -1 → ∀ s H O wh, n_RW b Hb Ob B s H O → 0 ≤ wh → wh < s.1 17 → H wh.toNat ≤ B + 8 → s.1 17 - b.1 17 ≤ 95 → s.1 18 - b.1 18 ≤ 95 → s.1 24 = -1 → Post (some wh) s) ∧ (0 ≤ W → ∀ s wh, n_fr b s → s.1 24 = W → Post (some wh) s)
def n_L10 (m fr g wh : Int) (ap : Bool) (o6 o7 o8 o9 : Option nV) : nL := [some (xR 25), some (xI m), some (xI fr), some (xI g), some (xI wh), some (xI (n_T ap)), o6, o7, o8, o9]
/-- the loop goes on from a later place -/
def n_BK (Z : Nat → List Int32) (d : Nat) (b : nS) (Hb Ob : Nat → Int) (m B g fr : Int) (Post : nA → nS → Prop) (W : Int) (n : Nat) : Prop := ∀ (s : nS) (H O : Nat → Int) (wh : Int) (ap : Bool) (o6 o7 o8 o9 : Option nV), n_RW b Hb Ob B s H O → n_RN b s m B H wh (n_T ap) → s.1 24 = -1 → n_lenT b m - s.1 23 < n → n_rpE (n_at1 b m) (decide (0 ≤ m)) n (s.1 23) (s.1 25) ap (decide (0 ≤ wh)) W → NP Z (d + 2) 111 21 (n_L10 m fr g wh ap o6 o7 o8 o9) [] s Post
section N12
variable {Z : Nat → List Int32} {d n : Nat} {b s : nS} {Hb Ob H O : Nat → Int} {m B g fr wh W c : Int} {ap : Bool} {ys : List Int} {Post : nA → nS → Prop}
theorem n_bk (hd : 6 ≤ d) (hK : n_BK Z d b Hb Ob m B g fr Post W n) (p6 p7 p8 p9 : Option nV) {s1 : nS} {H1 O1 : Nat → Int} {wh1 : Int} {ap1 : Bool} (h1 : n_RW b Hb Ob B s1 H1 O1) (h2 : n_RN b s1 m B H1 wh1 (n_T ap1)) (h3 : s1.1 24 = -1) (h4 : n_lenT b m - s1.1 23 < n) (h5 : n_rpE (n_at1 b m) (decide (0 ≤ m)) n (s1.1 23) (s1.1 25) ap1 (decide (0 ≤ wh1)) W) : NP Z (d + 2) 111 381 (n_L10 m fr g wh1 ap1 p6 p7 p8 p9) [] s1 Post := n_at nb111_381 (by omega) rfl (hK s1 H1 O1 wh1 ap1 p6 p7 p8 p9 h1 h2 h3 h4 h5)
/-- an atom is read: it is x -/
theorem n_l356 {s1 : nS} {H1 : Nat → Int} {x y8 : Int} {p6 p7 p9 : Option nV} (hd : 6 ≤ d) (hK : n_BK Z d b Hb Ob m B g fr Post W n) (hb : (0 ≤ b.1 17 ∧ b.1 17 ≤ 1200) ∧ (0 ≤ b.1 18 ∧ b.1 18 ≤ 1200)) (hB : 0 ≤ B) (hlen : n_lenT b m ≤ 120) (r1 : n_RW b Hb Ob B s1 H1 O) (a0 : 0 ≤ s1.1 23 ∧ s1.1 23 ≤ n_lenT b m) (a1 : n_lenT b m - s1.1 23 < n) (a2 : 0 ≤ s1.1 25 ∧ s1.1 25 ≤ 8) (a3 : s1.1 24 = -1) (a4 : 4 * (s1.1 17 - b.1 17) ≤ 3 * s1.1 23 + 2 * s1.1 25 + 1) (a5 : 4 * (s1.1 18 + 1 - b.1 18) ≤ 3 * s1.1 23 + 2 * s1.1 25 + 1) (a6 : 0 ≤ x ∧ x < s1.1 17) (a7 : H1 x.toNat ≤ B) (hwn : wh = -1) (hrp : n_rpE (n_at1 b m) (decide (0 ≤ m)) n (s1.1 23) (s1.1 25) false (if 0 < s1.1 25 then false else true) W) : NP Z (d + 2) 111 356 (n_L10 m fr g wh ap p6 p7 (some (xI y8)) p9) [xI x] s1 Post := by
  have hFI1 := r1.2.1
  have hapf : n_T false = 0 := rfl
  have h378 : ∀ (s2 : nS) (H2 O2 : Nat → Int) (wh2 : Int), n_RW b Hb Ob B s2 H2 O2 → n_RN b s2 m B H2 wh2 0 → s2.1 24 = -1 → s2.1 23 = s1.1 23 → s2.1 25 = s1.1 25 → decide (0 ≤ wh2) = (if 0 < s1.1 25 then false else true) → NP Z (d + 2) 111 378 (n_L10 m fr g wh2 ap p6 p7 (some (xI y8)) (some (xI x))) [] s2 Post := by
    intro s2 H2 O2 wh2 q1 q2 q3 q4 q5 q6
    refine n_at nb111_378 (by omega) rfl ?_
    exact n_bk (ap1 := false) hd hK p6 p7 (some (xI y8)) (some (xI x)) q1 (by rw [hapf]; exact q2) q3 (by rw [q4]; exact a1) (by rw [q4, q5, q6]; exact hrp)
  refine n_at nb111_356 (by omega) rfl ?_
  refine ⟨⟨by omega, by omega⟩, fun z => ?_, fun z => ?_⟩
  · refine n_at nb111_374 (by omega) rfl ?_
    refine h378 s1 H1 O x r1 ⟨a0, a2, by omega, by omega, Or.inr ⟨a6.1, a6.2, by omega, by omega⟩⟩ a3 rfl rfl ?_
    rw [if_neg (by omega)]
    exact decide_eq_true a6.1
  · have hLV := r1.2.2.2 (s1.1 25).toNat (by omega) (by omega)
    obtain ⟨⟨v1, v2⟩, v3, v4⟩ := hLV
    have hj := ng117 (Z := Z) (d := d + 1) (s := s1) (f := x) (by omega) ⟨hFI1.2.1.1, by omega⟩ ⟨by omega, by omega⟩ ⟨by rcases v4 with v4 | v4; rw [v4]; exact ⟨by decide, by decide⟩; exact ⟨by omega, by omega⟩, by rcases v4 with v4 | v4 <;> omega⟩ ⟨by omega, by omega⟩
    refine n_iv (vs := [xR 25, xI x]) (r := []) nn117 (by simp) rfl nc117 hj (fun r s' hr => ?_)
    rw [hr.1, hr.2]
    have hRW := n_RW_jn (f := x) r1 ⟨hb.1.1, hb.2.1⟩ (by omega) (by omega) a6 (by omega)
    refine h378 (n_jn s1 x) H1 _ wh hRW ⟨a0, a2, ?_, ?_, Or.inl hwn⟩ a3 rfl rfl ?_
    · show 4 * (s1.1 17 - b.1 17) ≤ 3 * s1.1 23 + 2 * s1.1 25 + (1 - 0); omega
    · show 4 * (s1.1 18 + 1 - b.1 18) ≤ 3 * s1.1 23 + 2 * s1.1 25 + (1 - 0); omega
    · rw [if_pos (by omega), hwn]
      rfl
/-- what holds at a character -/
def n_SX (b : nS) (Hb Ob : Nat → Int) (m B : Int) (s : nS) (H O : Nat → Int) (wh : Int) (ap : Bool) : Prop := n_RW b Hb Ob B s H O ∧ n_RN b s m B H wh (n_T ap) ∧ s.1 24 = -1
/-- an atom -/
theorem n_l335 {o9 : Option nV} {p6 p7 : Int} {o8 : Option nV} (hd : 6 ≤ d) (hC : n_CX b Hb Ob m B g ys) (hK : n_BK Z d b Hb Ob m B g fr Post W n) (hS : n_SX b Hb Ob m B s H O wh true) (hn : n_lenT b m - s.1 23 ≤ n) (hwn : wh = -1) (hc : ¬ n_at1 b m (s.1 23) = 0) (hrp : n_rpE (n_at1 b m) (decide (0 ≤ m)) n (n_atomEnd (n_at1 b m) (s.1 23)) (s.1 25) false (if 0 < s.1 25 then false else true) W) : NP Z (d + 2) 111 335 (n_L10 m fr g wh true (some (xI p6)) (some (xI p7)) o8 o9) [xI (n_T (n_isNum (n_at1 b m) (s.1 23)))] s Post := by
  obtain ⟨hT, hB, h17, h18, hp, hw, hg, hl, hy⟩ := hC
  obtain ⟨hR, ⟨N1, N2, N3, N4, N5⟩, h24⟩ := hS
  have hlen := n_len_b hT
  have hfr := hR.1
  have hTs := n_fr_TX hfr hT
  have hFI := hR.2.1
  have h0 : ∀ k, n_lenT b m ≤ k → n_at1 b m k = 0 := fun k hk => n_at1_0 hk
  have hfun : n_at1 s m = n_at1 b m := funext fun k => n_fr_at hfr
  have hRWP := fun x => n_RW_P (x := x) hR
  have hae := n_atomEnd_b h0 hc
  have hT1 : n_T true = 1 := rfl
  rw [hT1] at N3 N4
  have hold := hR.2.2.1
  have f17 : 0 ≤ s.1 17 ∧ s.1 17 < 1299 := ⟨hFI.1.1, by omega⟩
  refine n_at nb111_335 (by omega) rfl ?_
  refine ⟨n_rngT _, fun z => ?_, fun z => ?_⟩
  · have hnn : n_isNum (n_at1 b m) (s.1 23) = false := by
      cases hq : n_isNum (n_at1 b m) (s.1 23)
      · rfl
      · rw [hq] at z; exact absurd z (by decide)
    have hae2 : n_atomEnd (n_at1 b m) (s.1 23) = n_symEnd (n_at1 b m) (s.1 23) := by
      unfold n_atomEnd
      rw [hnn, if_neg (by decide)]
    rw [hae2] at hae hrp
    refine n_at nb111_350 (by omega) rfl ?_
    have hs := ng119 (Z := Z) (d := d) (s := s) (m := m) (g := g) (ys := ys) hd hTs ⟨hFI.1.1, by omega⟩ ⟨by omega, by omega⟩ (fun h => by rw [hfr.2 29 _ (by decide)]; exact hp h) (fun i => by rw [hfr.2 35 _ (by decide)]; exact hw i) (n_isch_old hold ys g hg (fun y hyy => (hy y hyy).1)) hl
    rw [hfun] at hs
    refine n_iv (d := d + 1) (vs := [xR 25, xI m, xI g]) (r := []) nn119 (by simp) rfl nc119 hs (fun r s' hr => ?_)
    rcases hr with ⟨e1, v, hv, e2⟩ | ⟨y, hyy, e1, e2⟩
    · rw [e1, e2]
      have hmk := n_RW_mk (w := 1) (v := v) (hh := 0) (hRWP (n_symEnd (n_at1 b m) (s.1 23))) h17.1 (by show s.1 17 < 1300; omega) (by decide) (fun _ => hv) (fun h => absurd h (by decide)) (by decide)
      refine n_l356 (x := s.1 17) hd hK ⟨h17, h18⟩ hB hlen.2 hmk ?_ ?_ ?_ h24 ?_ ?_ ?_ ?_ hwn hrp
      · show 0 ≤ n_symEnd (n_at1 b m) (s.1 23) ∧ n_symEnd (n_at1 b m) (s.1 23) ≤ _; omega
      · show _ - n_symEnd (n_at1 b m) (s.1 23) < _; omega
      · exact N2
      · show 4 * (s.1 17 + 1 - b.1 17) ≤ 3 * n_symEnd (n_at1 b m) (s.1 23) + 2 * s.1 25 + 1; omega
      · show 4 * (s.1 18 + 1 - b.1 18) ≤ 3 * n_symEnd (n_at1 b m) (s.1 23) + 2 * s.1 25 + 1; omega
      · show 0 ≤ s.1 17 ∧ s.1 17 < s.1 17 + 1; omega
      · show n_upd H (s.1 17).toNat 0 (s.1 17).toNat ≤ B
        rw [n_u_eq]
        exact hB
    · rw [e1, e2]
      obtain ⟨q1, q2, q3⟩ := hy y hyy
      have e40 := (hold.2.2.2 y.toNat (by omega)).1
      rw [e40]
      refine n_l356 (x := b.2 40 y.toNat) (H1 := H) hd hK ⟨h17, h18⟩ hB hlen.2 (hRWP (n_symEnd (n_at1 b m) (s.1 23))) ?_ ?_ ?_ h24 ?_ ?_ ?_ ?_ hwn hrp
      · show 0 ≤ n_symEnd (n_at1 b m) (s.1 23) ∧ n_symEnd (n_at1 b m) (s.1 23) ≤ _; omega
      · show _ - n_symEnd (n_at1 b m) (s.1 23) < _; omega
      · exact N2
      · show 4 * (s.1 17 - b.1 17) ≤ 3 * n_symEnd (n_at1 b m) (s.1 23) + 2 * s.1 25 + 1; omega
      · show 4 * (s.1 18 + 1 - b.1 18) ≤ 3 * n_symEnd (n_at1 b m) (s.1 23) + 2 * s.1 25 + 1; omega
      · show 0 ≤ b.2 40 y.toNat ∧ b.2 40 y.toNat < s.1 17
        have := hold.1
        omega
      · rw [(hold.2.2.1 (b.2 40 y.toNat).toNat (by omega)).2.2]
        exact q3
  · have hnn : n_isNum (n_at1 b m) (s.1 23) = true := by
      cases hq : n_isNum (n_at1 b m) (s.1 23)
      · rw [hq] at z; exact absurd rfl z
      · rfl
    have hs := ng118 (Z := Z) (d := d) (s := s) (m := m) hd hTs ⟨hFI.1.1, by omega⟩ ⟨by omega, by omega⟩
    rw [hfun] at hs
    have hae2 : n_atomEnd (n_at1 b m) (s.1 23) = n_nd (n_at1 b m) 4 (if n_at1 b m (s.1 23) = 45 then s.1 23 + 1 else s.1 23) := by
      unfold n_atomEnd
      rw [if_pos hnn]
    rw [← hae2] at hs
    generalize n_atomEnd (n_at1 b m) (s.1 23) = E at hae hrp hs
    refine n_iv (d := d + 1) (vs := [xR 25, xI m]) (r := []) nn118 (by simp) rfl nc118 hs (fun r s' hr => ?_)
    obtain ⟨e1, v, e2⟩ := hr
    rw [e1, e2]
    have hmk := n_RW_mk (w := 0) (v := v) (hh := 0) (hRWP E) h17.1 (by show s.1 17 < 1300; omega) (by decide) (fun h => absurd rfl h) (fun h => absurd h (by decide)) (by decide)
    refine n_l356 (x := s.1 17) hd hK ⟨h17, h18⟩ hB hlen.2 hmk ?_ ?_ ?_ h24 ?_ ?_ ?_ ?_ hwn hrp
    · show 0 ≤ E ∧ E ≤ _; omega
    · show _ - E < _; omega
    · exact N2
    · show 4 * (s.1 17 + 1 - b.1 17) ≤ 3 * E + 2 * s.1 25 + 1; omega
    · show 4 * (s.1 18 + 1 - b.1 18) ≤ 3 * E + 2 * s.1 25 + 1; omega
    · show 0 ≤ s.1 17 ∧ s.1 17 < s.1 17 + 1; omega
    · show n_upd H (s.1 17).toNat 0 (s.1 17).toNat ≤ B
      rw [n_u_eq]
      exact hB
end N12
end
section
/-! THE REFERENCE READS: lists, and the loop -/
section N13
variable {Z : Nat → List Int32} {d n : Nat} {b s : nS} {Hb Ob H O : Nat → Int} {m B g fr wh W c : Int} {ap : Bool} {ys : List Int} {Post : nA → nS → Prop} {o8 o9 : Option nV}
theorem n_T0 {q : Bool} (h : n_T q = 0) : q = false := by
  cases q
  · rfl
  · exact absurd h (by decide)
theorem n_T1 {q : Bool} (h : ¬ n_T q = 0) : q = true := by
  cases q
  · exact absurd rfl h
  · rfl
theorem n_l298 {p7 : Int} (hd : 6 ≤ d) (hC : n_CX b Hb Ob m B g ys) (hK : n_BK Z d b Hb Ob m B g fr Post W n) (hS : n_SX b Hb Ob m B s H O wh true) (hn : n_lenT b m - s.1 23 ≤ n) (hwn : wh = -1) (hcc : n_at1 b m (s.1 23) = c) (hc : ¬ c = 0) (hrp : n_rpE (n_at1 b m) (decide (0 ≤ m)) n (n_atomEnd (n_at1 b m) (s.1 23)) (s.1 25) false (if 0 < s.1 25 then false else true) W) : NP Z (d + 2) 111 298 (n_L10 m fr g wh true (some (xI c)) (some (xI p7)) o8 o9) [] s Post := by
  have h5 := n_l335 (p6 := c) (p7 := p7) (o8 := o8) (o9 := o9) hd hC hK hS hn hwn (by rw [hcc]; exact hc) hrp
  have h330 : n_isNum (n_at1 b m) (s.1 23) = true → NP Z (d + 2) 111 330 (n_L10 m fr g wh true (some (xI c)) (some (xI p7)) o8 o9) [] s Post := fun h => n_at nb111_330 (by omega) rfl (by rw [h] at h5; exact h5)
  have h334 : n_isNum (n_at1 b m) (s.1 23) = false → NP Z (d + 2) 111 334 (n_L10 m fr g wh true (some (xI c)) (some (xI p7)) o8 o9) [] s Post := fun h => n_at nb111_334 (by omega) rfl (by rw [h] at h5; exact h5)
  have hT := hC.1
  have hfr := hS.1.1
  have hTs := n_fr_TX hfr hT
  have hlen := n_len_b hT
  have N1 := hS.2.1.1
  have hcb := n_at1_b (k := s.1 23) hT
  have hcb1 := n_at1_b (k := s.1 23 + 1) hT
  rw [hcc] at hcb
  have hcr : n_rng c := ⟨by omega, by omega⟩
  refine n_at nb111_298 (by omega) rfl ?_
  refine n_is (vs := [xI c]) (r := []) nn113 (by simp) (ng113 (by omega) hcr) (fun r s' hr => ?_)
  rw [hr.1, hr.2]
  refine ⟨n_rngT _, fun z => h330 (by simp [n_isNum, hcc, n_T1 z]), fun z => ?_⟩
  have z1 := n_T0 z
  refine ⟨hcr, ⟨by decide, by decide⟩, fun z => h334 (by simp [n_isNum, hcc, z1, z]), fun z45 => ?_⟩
  refine n_iv (vs := [xR 25, xI m, xI (s.1 23 + 1)]) (r := []) nn112 (by simp) rfl nc112 (ng112p (S := s.1) (by omega) hTs rfl ⟨by omega, by omega⟩) (fun r s' hr => ?_)
  rw [hr.1, hr.2, n_fr_at hfr]
  refine n_is (vs := [xI (n_at1 b m (s.1 23 + 1))]) (r := []) nn113 (by simp) (ng113 (by omega) ⟨by omega, by omega⟩) (fun r s' hr => ?_)
  rw [hr.1, hr.2]
  refine ⟨n_rngT _, fun z => h334 (by simp [n_isNum, hcc, z1, n_T0 z]), fun z => h330 (by simp [n_isNum, hcc, n_T1 z, z45])⟩
/-- a list is opened -/
theorem n_l251 {s2 : nS} {H2 O2 : Nat → Int} {f p6 p7 : Int} (hd : 6 ≤ d) (h17 : 0 ≤ b.1 17) (hK : n_BK Z d b Hb Ob m B g fr Post W n) (r1 : n_RW b Hb Ob B s2 H2 O2) (a0 : 0 ≤ s2.1 23 ∧ s2.1 23 < n_lenT b m) (a1 : n_lenT b m - s2.1 23 ≤ n) (a2 : 0 ≤ s2.1 25 ∧ s2.1 25 < 8) (a3 : s2.1 24 = -1) (a4 : 4 * (s2.1 17 - b.1 17) ≤ 3 * s2.1 23 + 2 * s2.1 25 + 5) (a5 : 4 * (s2.1 18 - b.1 18) ≤ 3 * s2.1 23 + 2 * s2.1 25 + 5) (a6 : b.1 17 ≤ f ∧ f < s2.1 17) (a7 : H2 f.toNat = B + 8 - s2.1 25) (hwn : wh = -1) (hrp : n_rpE (n_at1 b m) (decide (0 ≤ m)) n (s2.1 23 + 1) (s2.1 25 + 1) true (decide (0 ≤ wh)) W) : NP Z (d + 2) 111 251 (n_L10 m fr g wh ap (some (xI p6)) (some (xI p7)) (some (xI f)) o9) [] s2 Post := by
  refine n_at nb111_251 (by omega) rfl ?_
  refine ⟨⟨by show 0 ≤ s2.1 25 + 1; omega, by show s2.1 25 + 1 < 9; omega⟩, ⟨by show 0 ≤ s2.1 25 + 1; omega, by show s2.1 25 + 1 < 9; omega⟩, ?_⟩
  refine n_bk (s1 := n_op s2 f) (H1 := H2) (O1 := O2) (wh1 := wh) (ap1 := true) hd hK _ _ _ _ (n_RW_op r1 h17 a2.1 a6 a7) ⟨⟨?_, ?_⟩, ⟨?_, ?_⟩, ?_, ?_, Or.inl hwn⟩ a3 ?_ hrp
  · show 0 ≤ s2.1 23 + 1; omega
  · show s2.1 23 + 1 ≤ _; omega
  · show 0 ≤ s2.1 25 + 1; omega
  · show s2.1 25 + 1 ≤ 8; omega
  · show 4 * (s2.1 17 - b.1 17) ≤ 3 * (s2.1 23 + 1) + 2 * (s2.1 25 + 1) + (1 - 1); omega
  · show 4 * (s2.1 18 - b.1 18) ≤ 3 * (s2.1 23 + 1) + 2 * (s2.1 25 + 1) + (1 - 1); omega
  · show _ - (s2.1 23 + 1) < _; omega
theorem n_l223 {p7 : Int} (hd : 6 ≤ d) (hC : n_CX b Hb Ob m B g ys) (hK : n_BK Z d b Hb Ob m B g fr Post W n) (hS : n_SX b Hb Ob m B s H O wh ap) (hn : n_lenT b m - s.1 23 ≤ n) (hwn : wh = -1) (hcc : n_at1 b m (s.1 23) = c) (hc : ¬ c = 0) (y2 : c = 40 ∨ ap = true) (y3 : ¬ (c = 40 ∧ s.1 25 = 8))
    (hr1 : c = 40 → n_rpE (n_at1 b m) (decide (0 ≤ m)) n (s.1 23 + 1) (s.1 25 + 1) true (decide (0 ≤ wh)) W)
    (hr2 : ¬ c = 40 → n_rpE (n_at1 b m) (decide (0 ≤ m)) n (n_atomEnd (n_at1 b m) (s.1 23)) (s.1 25) false (if 0 < s.1 25 then false else true) W) : NP Z (d + 2) 111 223 (n_L10 m fr g wh ap (some (xI c)) (some (xI p7)) o8 o9) [] s Post := by
  obtain ⟨hT, hB, h17, h18, -⟩ := id hC
  obtain ⟨hR, ⟨N1, N2, N3, N4, N5⟩, h24⟩ := id hS
  have hlen := n_len_b hT
  have hFI := hR.2.1
  have hap := n_T01 ap
  have hcb := n_at1_b (k := s.1 23) hT
  rw [hcc] at hcb
  have hcl : s.1 23 < n_lenT b m := by
    apply Classical.byContradiction
    intro hcn
    have := n_at1_0 (s := b) (m := m) (k := s.1 23) (by omega)
    omega
  have f17 : 0 ≤ s.1 17 ∧ s.1 17 < 1299 := ⟨hFI.1.1, by omega⟩
  have f18 : 0 ≤ s.1 18 ∧ s.1 18 < 1299 := ⟨hFI.2.1.1, by omega⟩
  have hold := hR.2.2.1
  have hold1 := hold.1
  refine n_at nb111_223 (by omega) rfl ?_
  refine ⟨⟨by omega, by omega⟩, ⟨by decide, by decide⟩, fun z => ?_, fun z => ?_⟩
  · have y6 := y2.resolve_left z
    subst y6
    exact n_l298 hd hC hK hS hn hwn hcc hc (hr2 z)
  · have y7 : ¬ s.1 25 = 8 := fun h => y3 ⟨z, h⟩
    refine n_iv (vs := [xR 25, xI 2, xI (-1)]) (r := []) nn116 (by simp) rfl nc116 (ng116 (s := s) (w := 2) (v := -1) (by omega) ⟨f17.1, by omega⟩) (fun r s' hr => ?_)
    rw [hr.1, hr.2]
    have hmk := n_RW_mk (w := 2) (v := -1) (hh := B + 8 - s.1 25) hR h17.1 (by omega) (by decide) (fun _ => ⟨by decide, by decide⟩) (fun _ => rfl) (by omega)
    refine ⟨⟨by show _ ≤ s.1 25; omega, by show s.1 25 < _; omega⟩, fun z2 => ?_, fun z2 => ?_⟩
    · refine n_l251 (s2 := n_mk s 2 (-1)) (f := s.1 17) hd h17.1 hK hmk ⟨N1.1, hcl⟩ hn ⟨N2.1, ?_⟩ h24 ?_ ?_ ⟨hold1, ?_⟩ n_u_eq hwn (hr1 z)
      · show s.1 25 < 8; omega
      · show 4 * (s.1 17 + 1 - b.1 17) ≤ 3 * s.1 23 + 2 * s.1 25 + 5; omega
      · show 4 * (s.1 18 - b.1 18) ≤ 3 * s.1 23 + 2 * s.1 25 + 5; omega
      · show s.1 17 < s.1 17 + 1; omega
    · have z2 : ¬ s.1 25 ≤ 0 := z2
      have hLV := hmk.2.2.2 (s.1 25).toNat (by omega) (by show ((s.1 25).toNat : Int) ≤ s.1 25; omega)
      obtain ⟨⟨v1, v2⟩, v3, v4⟩ := hLV
      have e17 : (n_mk s 2 (-1)).1 17 = s.1 17 + 1 := rfl
      have e18 : (n_mk s 2 (-1)).1 18 = s.1 18 := rfl
      have e25 : (n_mk s 2 (-1)).1 25 = s.1 25 := rfl
      have hj := ng117 (Z := Z) (d := d + 1) (s := n_mk s 2 (-1)) (f := s.1 17) (by omega) ⟨f18.1, by rw [e18]; omega⟩ ⟨by rw [e25]; omega, by rw [e25]; omega⟩ (by rw [e25]; exact ⟨by rcases v4 with v4 | v4; rw [v4]; exact ⟨by decide, by decide⟩; exact ⟨by omega, by omega⟩, by rcases v4 with v4 | v4 <;> omega⟩) (by rw [e25]; exact ⟨by omega, by omega⟩)
      refine n_iv (vs := [xR 25, xI (s.1 17)]) (r := []) nn117 (by simp) rfl nc117 hj (fun r s' hr => ?_)
      rw [hr.1, hr.2]
      have hRW := n_RW_jn (f := s.1 17) hmk ⟨h17.1, h18.1⟩ (by rw [e25]; omega) (by rw [e18]; omega) ⟨f17.1, by rw [e17]; omega⟩ (by rw [n_u_eq, e25]; omega)
      refine n_l251 (s2 := n_jn (n_mk s 2 (-1)) (s.1 17)) (f := s.1 17) hd h17.1 hK hRW ⟨N1.1, hcl⟩ hn ⟨N2.1, ?_⟩ h24 ?_ ?_ ⟨hold1, ?_⟩ n_u_eq hwn (hr1 z)
      · show s.1 25 < 8; omega
      · show 4 * (s.1 17 + 1 - b.1 17) ≤ 3 * s.1 23 + 2 * s.1 25 + 5; omega
      · show 4 * (s.1 18 + 1 - b.1 18) ≤ 3 * s.1 23 + 2 * s.1 25 + 5; omega
      · show s.1 17 < s.1 17 + 1; omega
/-- a wrong character -/
theorem n_l212 (hd : 6 ≤ d) (hP : n_PX b Hb Ob B Post W) (hR : n_RW b Hb Ob B s H O) (hp : 0 ≤ s.1 23 ∧ s.1 23 ≤ 200) (hW : W = s.1 23) (p6 p7 p8 p9 : Option nV) : NP Z (d + 2) 111 212 (n_L10 m fr g wh ap p6 p7 p8 p9) [] s Post := by
  refine n_at nb111_212 (by omega) rfl ?_
  refine n_at nb111_381 (by omega) rfl ?_
  refine n_at nb111_21 (by omega) rfl ?_
  refine ⟨⟨by show _ ≤ s.1 23; omega, by show s.1 23 < _; omega⟩, fun _ => ?_, fun z => ?_⟩
  · refine n_at nb111_384 (by omega) rfl ?_
    exact hP.2 (by omega) _ _ (n_RW_W hR).1 (by show s.1 23 = W; omega)
  · exact absurd (show 0 ≤ s.1 23 from hp.1) z
end N13
end
section
/-! THE REFERENCE READS: its loop, and its contract -/
section N14
variable {ch : Int → Int} {mac : Bool} {n : Nat} {p o W : Int} {ap wh : Bool}
theorem n_rpE_1 (h : n_rpE ch mac (n + 1) p o ap wh W) (h1 : wh = true ∧ mac = true) : W = -1 := by
  unfold n_rpE n_rp at h
  rw [if_pos h1] at h
  exact h.symm
theorem n_rpE_2 (h : n_rpE ch mac (n + 1) p o ap wh W) (h1 : ¬ (wh = true ∧ mac = true)) (h2 : ch p = 32) : n_rpE ch mac n (p + 1) o true wh W := by
  unfold n_rpE n_rp at h
  rw [if_neg h1, if_pos h2] at h
  exact h
theorem n_rpE_3 (h : n_rpE ch mac (n + 1) p o ap wh W) (h1 : ¬ (wh = true ∧ mac = true)) (h2 : ¬ ch p = 32) (h3 : ch p = 0 ∧ wh = true) : W = -1 := by
  unfold n_rpE n_rp at h
  rw [if_neg h1, if_neg h2, if_pos h3] at h
  exact h.symm
theorem n_rpE_4 (h : n_rpE ch mac (n + 1) p o ap wh W) (h1 : ¬ (wh = true ∧ mac = true)) (h2 : ¬ ch p = 32) (h3 : ¬ (ch p = 0 ∧ wh = true)) (h4 : ch p = 41 ∧ 0 < o) : n_rpE ch mac n (p + 1) (o - 1) true (decide (o - 1 = 0)) W := by
  unfold n_rpE n_rp at h
  rw [if_neg h1, if_neg h2, if_neg h3, if_pos h4] at h
  exact h
theorem n_rpE_5 (h : n_rpE ch mac (n + 1) p o ap wh W) (h1 : ¬ (wh = true ∧ mac = true)) (h2 : ¬ ch p = 32) (h3 : ¬ (ch p = 0 ∧ wh = true)) (h4 : ¬ (ch p = 41 ∧ 0 < o)) (h5 : wh = true ∨ (¬ ch p = 40 ∧ ¬ (c_beg (ch p) = true ∧ ap = true)) ∨ (ch p = 40 ∧ o = 8)) : W = p := by
  unfold n_rpE n_rp at h
  rw [if_neg h1, if_neg h2, if_neg h3, if_neg h4, if_pos h5] at h
  exact h.symm
theorem n_rpE_6 (h : n_rpE ch mac (n + 1) p o ap wh W) (h1 : ¬ (wh = true ∧ mac = true)) (h2 : ¬ ch p = 32) (h3 : ¬ (ch p = 0 ∧ wh = true)) (h4 : ¬ (ch p = 41 ∧ 0 < o)) (h5 : ¬ (wh = true ∨ (¬ ch p = 40 ∧ ¬ (c_beg (ch p) = true ∧ ap = true)) ∨ (ch p = 40 ∧ o = 8))) (h6 : ch p = 40) : n_rpE ch mac n (p + 1) (o + 1) true wh W := by
  unfold n_rpE n_rp at h
  rw [if_neg h1, if_neg h2, if_neg h3, if_neg h4, if_neg h5, if_pos h6] at h
  exact h
theorem n_rpE_7 (h : n_rpE ch mac (n + 1) p o ap wh W) (h1 : ¬ (wh = true ∧ mac = true)) (h2 : ¬ ch p = 32) (h3 : ¬ (ch p = 0 ∧ wh = true)) (h4 : ¬ (ch p = 41 ∧ 0 < o)) (h5 : ¬ (wh = true ∨ (¬ ch p = 40 ∧ ¬ (c_beg (ch p) = true ∧ ap = true)) ∨ (ch p = 40 ∧ o = 8))) (h6 : ¬ ch p = 40) : n_rpE ch mac n (n_atomEnd ch p) o false (if 0 < o then wh else true) W := by
  unfold n_rpE n_rp at h
  rw [if_neg h1, if_neg h2, if_neg h3, if_neg h4, if_neg h5, if_neg h6] at h
  exact h
end N14
section N15
variable {Z : Nat → List Int32} {d n : Nat} {b s : nS} {Hb Ob H O : Nat → Int} {m B g fr wh W c : Int} {ap : Bool} {ys : List Int} {Post : nA → nS → Prop} {o7 o8 o9 : Option nV}
theorem n_whd : (decide (0 ≤ wh)) = true ↔ 0 ≤ wh := decide_eq_true_iff
theorem n_l174 (hd : 6 ≤ d) (hC : n_CX b Hb Ob m B g ys) (hP : n_PX b Hb Ob B Post W) (hK : n_BK Z d b Hb Ob m B g fr Post W n) (hS : n_SX b Hb Ob m B s H O wh ap) (hn : n_lenT b m - s.1 23 ≤ n) (hcc : n_at1 b m (s.1 23) = c) (hE : n_rpE (n_at1 b m) (decide (0 ≤ m)) (n + 1) (s.1 23) (s.1 25) ap (decide (0 ≤ wh)) W) (y0 : ¬ (0 ≤ wh ∧ 0 ≤ m)) (y1 : ¬ c = 32) (y2 : ¬ (c = 0 ∧ 0 ≤ wh)) (y3 : ¬ (c = 41 ∧ 0 < s.1 25)) : NP Z (d + 2) 111 174 (n_L10 m fr g wh ap (some (xI c)) (some (xI (n_T (c_beg c)))) o8 o9) [] s Post := by
  subst hcc
  have hT := hC.1
  obtain ⟨hR, ⟨N1, N2, N3, N4, N5⟩, h24⟩ := id hS
  have hlen := n_len_b hT
  have hcb := n_at1_b (k := s.1 23) hT
  have hFI := hR.2.1
  have k0 : ¬ ((decide (0 ≤ wh)) = true ∧ (decide (0 ≤ m)) = true) := fun h => y0 ⟨of_decide_eq_true h.1, of_decide_eq_true h.2⟩
  have k2 : ¬ (n_at1 b m (s.1 23) = 0 ∧ (decide (0 ≤ wh)) = true) := fun h => y2 ⟨h.1, of_decide_eq_true h.2⟩
  have hwr : n_rng wh := by
    have := hFI.1
    rcases N5 with N5 | N5
    · exact ⟨by omega, by omega⟩
    · exact ⟨by omega, by omega⟩
  have hcr : n_rng (n_at1 b m (s.1 23)) := ⟨by omega, by omega⟩
  have hbad : ((decide (0 ≤ wh)) = true ∨ (¬ n_at1 b m (s.1 23) = 40 ∧ ¬ (c_beg (n_at1 b m (s.1 23)) = true ∧ ap = true)) ∨ (n_at1 b m (s.1 23) = 40 ∧ s.1 25 = 8)) → NP Z (d + 2) 111 212 (n_L10 m fr g wh ap (some (xI (n_at1 b m (s.1 23)))) (some (xI (n_T (c_beg (n_at1 b m (s.1 23)))))) o8 o9) [] s Post := fun h => n_l212 hd hP hR ⟨N1.1, by omega⟩ (n_rpE_5 hE k0 y1 k2 y3 h) _ _ _ _
  have h223 : ¬ 0 ≤ wh → (n_at1 b m (s.1 23) = 40 ∨ (c_beg (n_at1 b m (s.1 23)) = true ∧ ap = true)) → ¬ (n_at1 b m (s.1 23) = 40 ∧ s.1 25 = 8) → NP Z (d + 2) 111 223 (n_L10 m fr g wh ap (some (xI (n_at1 b m (s.1 23)))) (some (xI (n_T (c_beg (n_at1 b m (s.1 23)))))) o8 o9) [] s Post := by
    intro q1 q2 q3
    have q1' : ¬ (decide (0 ≤ wh)) = true := fun h => q1 (of_decide_eq_true h)
    have hwn : wh = -1 := by rcases N5 with N5 | N5 <;> omega
    have k5 : ¬ ((decide (0 ≤ wh)) = true ∨ (¬ n_at1 b m (s.1 23) = 40 ∧ ¬ (c_beg (n_at1 b m (s.1 23)) = true ∧ ap = true)) ∨ (n_at1 b m (s.1 23) = 40 ∧ s.1 25 = 8)) := by
      intro h
      rcases h with h | h | h
      · exact q1' h
      · exact q2.elim h.1 h.2
      · exact q3 h
    refine n_l223 hd hC hK hS hn hwn rfl ?_ (q2.imp id (fun h => h.2)) q3 (fun h => n_rpE_6 hE k0 y1 k2 y3 k5 h) (fun h => ?_)
    · intro h
      rcases q2 with q2 | q2
      · omega
      · rw [h] at q2
        exact absurd q2.1 (by decide)
    · have := n_rpE_7 hE k0 y1 k2 y3 k5 h
      rw [decide_eq_false q1] at this
      exact this
  have h196 : ¬ 0 ≤ wh → (n_at1 b m (s.1 23) = 40 ∨ (c_beg (n_at1 b m (s.1 23)) = true ∧ ap = true)) → NP Z (d + 2) 111 196 (n_L10 m fr g wh ap (some (xI (n_at1 b m (s.1 23)))) (some (xI (n_T (c_beg (n_at1 b m (s.1 23)))))) o8 o9) [] s Post := by
    intro q1 q2
    refine n_at nb111_196 (by omega) rfl ?_
    refine ⟨hcr, ⟨by decide, by decide⟩, fun z => h223 q1 q2 (fun h => z h.1), fun z => ?_⟩
    exact ⟨⟨by omega, by omega⟩, ⟨by decide, by decide⟩, fun z2 => h223 q1 q2 (fun h => z2 h.2), fun z2 => hbad (Or.inr (Or.inr ⟨z, z2⟩))⟩
  refine n_at nb111_174 (by omega) rfl ?_
  refine ⟨hwr, fun z => hbad (Or.inl (decide_eq_true z)), fun z => ?_⟩
  refine ⟨hcr, ⟨by decide, by decide⟩, fun z2 => h196 z (Or.inl z2), fun z2 => ?_⟩
  refine ⟨n_rngT _, fun z3 => hbad (Or.inr (Or.inl ⟨z2, fun h => by rw [n_T0 z3] at h; exact absurd h.1 (by decide)⟩)), fun z3 => ?_⟩
  exact ⟨n_rngT _, fun z4 => hbad (Or.inr (Or.inl ⟨z2, fun h => by rw [n_T0 z4] at h; exact absurd h.2 (by decide)⟩)), fun z4 => h196 z (Or.inr ⟨n_T1 z3, n_T1 z4⟩)⟩
theorem n_l115 (hd : 6 ≤ d) (hC : n_CX b Hb Ob m B g ys) (hP : n_PX b Hb Ob B Post W) (hK : n_BK Z d b Hb Ob m B g fr Post W n) (hS : n_SX b Hb Ob m B s H O wh ap) (hn : n_lenT b m - s.1 23 ≤ n) (hcc : n_at1 b m (s.1 23) = c) (hE : n_rpE (n_at1 b m) (decide (0 ≤ m)) (n + 1) (s.1 23) (s.1 25) ap (decide (0 ≤ wh)) W) (y0 : ¬ (0 ≤ wh ∧ 0 ≤ m)) (y1 : ¬ c = 32) (y2 : ¬ (c = 0 ∧ 0 ≤ wh)) : NP Z (d + 2) 111 115 (n_L10 m fr g wh ap (some (xI c)) (some (xI (n_T (c_beg c)))) o8 o9) [] s Post := by
  have h174 := fun y3 => n_l174 (o8 := o8) (o9 := o9) hd hC hP hK hS hn hcc hE y0 y1 y2 y3
  have hT := hC.1
  have h17 := hC.2.2.1
  obtain ⟨hR, ⟨N1, N2, N3, N4, N5⟩, h24⟩ := id hS
  have hlen := n_len_b hT
  have hap := n_T01 ap
  have hcb := n_at1_b (k := s.1 23) hT
  rw [hcc] at hcb
  refine n_at nb111_115 (by omega) rfl ?_
  refine ⟨⟨by omega, by omega⟩, ⟨by decide, by decide⟩, fun z => h174 (fun h => z h.1), fun z => ?_⟩
  refine ⟨⟨by omega, by omega⟩, fun z2 => h174 (fun h => by omega), fun z2 => ?_⟩
  have hrp := n_rpE_4 hE (fun h => y0 ⟨of_decide_eq_true h.1, of_decide_eq_true h.2⟩) (by rw [hcc]; exact y1) (by rw [hcc]; exact fun h => y2 ⟨h.1, of_decide_eq_true h.2⟩) ⟨by rw [hcc]; exact z, by omega⟩
  have hcl : s.1 23 < n_lenT b m := by
    apply Classical.byContradiction
    intro hcn
    have := n_at1_0 (s := b) (m := m) (k := s.1 23) (by omega)
    omega
  have hcs : n_RW b Hb Ob B (n_upd (n_upd s.1 23 (s.1 23 + 1)) 25 (s.1 25 - 1), s.2) H O := n_RW_close (n_RW_P hR) (by show s.1 25 - 1 ≤ s.1 25; omega)
  have h169 : ∀ wh1 : Int, (wh1 = -1 ∨ (0 ≤ wh1 ∧ wh1 < s.1 17 ∧ H wh1.toNat ≤ B + 8 ∧ s.1 25 - 1 = 0)) → decide (0 ≤ wh1) = decide (s.1 25 - 1 = 0) → NP Z (d + 2) 111 169 (n_L10 m fr g wh true (some (xI c)) (some (xI (n_T (c_beg c)))) o8 o9) [xI wh1] (n_upd (n_upd s.1 23 (s.1 23 + 1)) 25 (s.1 25 - 1), s.2) Post := by
    intro wh1 q1 q2
    refine n_at nb111_169 (by omega) rfl ?_
    refine n_bk (s1 := (n_upd (n_upd s.1 23 (s.1 23 + 1)) 25 (s.1 25 - 1), s.2)) (H1 := H) (O1 := O) (wh1 := wh1) (ap1 := true) hd hK _ _ _ _ hcs ⟨⟨?_, ?_⟩, ⟨?_, ?_⟩, ?_, ?_, q1⟩ h24 ?_ ?_
    · show 0 ≤ s.1 23 + 1; omega
    · show s.1 23 + 1 ≤ _; omega
    · show 0 ≤ s.1 25 - 1; omega
    · show s.1 25 - 1 ≤ 8; omega
    · show 4 * (s.1 17 - b.1 17) ≤ 3 * (s.1 23 + 1) + 2 * (s.1 25 - 1) + (1 - 1); omega
    · show 4 * (s.1 18 - b.1 18) ≤ 3 * (s.1 23 + 1) + 2 * (s.1 25 - 1) + (1 - 1); omega
    · show _ - (s.1 23 + 1) < _; omega
    · rw [q2]
      exact hrp
  refine ⟨⟨by show _ ≤ s.1 25 - 1; omega, by show s.1 25 - 1 < _; omega⟩, fun z3 => ?_, fun z3 => ?_⟩
  · have z3 : ¬ s.1 25 - 1 = 0 := z3
    refine n_at nb111_168 (by omega) rfl (h169 (-1) (Or.inl rfl) ?_)
    rw [decide_eq_false z3]
    rfl
  · have z3 : s.1 25 - 1 = 0 := z3
    have hLV := hR.2.2.2 1 (by omega) (by omega)
    obtain ⟨⟨v1, v2⟩, v3, v4⟩ := hLV
    refine ⟨⟨by decide, by decide⟩, h169 (s.2 42 1) (Or.inr ⟨by omega, v2, by omega, z3⟩) ?_⟩
    rw [decide_eq_true z3]
    exact decide_eq_true (by omega)
theorem n_l77 (hd : 6 ≤ d) (hC : n_CX b Hb Ob m B g ys) (hP : n_PX b Hb Ob B Post W) (hK : n_BK Z d b Hb Ob m B g fr Post W n) (hS : n_SX b Hb Ob m B s H O wh ap) (hn : n_lenT b m - s.1 23 ≤ n) (hcc : n_at1 b m (s.1 23) = c) (hE : n_rpE (n_at1 b m) (decide (0 ≤ m)) (n + 1) (s.1 23) (s.1 25) ap (decide (0 ≤ wh)) W) (y0 : ¬ (0 ≤ wh ∧ 0 ≤ m)) : NP Z (d + 2) 111 77 (n_L10 m fr g wh ap (some (xI c)) o7 o8 o9) [xI (n_T (c_beg c))] s Post := by
  have hT := hC.1
  have k0 : ¬ ((decide (0 ≤ wh)) = true ∧ (decide (0 ≤ m)) = true) := fun h => y0 ⟨of_decide_eq_true h.1, of_decide_eq_true h.2⟩
  obtain ⟨hR, ⟨N1, N2, N3, N4, N5⟩, h24⟩ := id hS
  have hlen := n_len_b hT
  have hap := n_T01 ap
  have hcb := n_at1_b (k := s.1 23) hT
  rw [hcc] at hcb
  have hcr : n_rng c := ⟨by omega, by omega⟩
  have hFI := hR.2.1
  have hwr : n_rng wh := by
    have := hFI.1
    rcases N5 with N5 | N5
    · exact ⟨by omega, by omega⟩
    · exact ⟨by omega, by omega⟩
  have h102 : ¬ c = 32 → NP Z (d + 2) 111 102 (n_L10 m fr g wh ap (some (xI c)) (some (xI (n_T (c_beg c)))) o8 o9) [] s Post := by
    intro y1
    refine n_at nb111_102 (by omega) rfl ?_
    refine ⟨hcr, fun z => n_l115 hd hC hP hK hS hn hcc hE y0 y1 (fun h => z h.1), fun z => ?_⟩
    refine ⟨hwr, fun z2 => n_l115 hd hC hP hK hS hn hcc hE y0 y1 (fun h => by omega), fun z2 => ?_⟩
    have hW := n_rpE_3 hE k0 (by rw [hcc]; exact y1) ⟨by rw [hcc]; exact z, decide_eq_true (by omega)⟩
    rcases N5 with N5 | N5
    · omega
    · have := hC.2.2.1
      have := hC.2.2.2.1
      exact hP.1 hW s H O wh hR N5.1 N5.2.1 N5.2.2.1 (by omega) (by omega) h24
  refine n_at nb111_77 (by omega) rfl ?_
  refine ⟨hcr, ⟨by decide, by decide⟩, fun z => h102 z, fun z => ?_⟩
  have hrp := n_rpE_2 hE k0 (by rw [hcc]; exact z)
  have hcl : s.1 23 < n_lenT b m := by
    apply Classical.byContradiction
    intro hcn
    have := n_at1_0 (s := b) (m := m) (k := s.1 23) (by omega)
    omega
  refine n_bk (s1 := (n_upd s.1 23 (s.1 23 + 1), s.2)) (H1 := H) (O1 := O) (wh1 := wh) (ap1 := true) hd hK _ _ _ _ (n_RW_P hR) ⟨⟨?_, ?_⟩, N2, ?_, ?_, N5⟩ h24 ?_ hrp
  · show 0 ≤ s.1 23 + 1; omega
  · show s.1 23 + 1 ≤ _; omega
  · show 4 * (s.1 17 - b.1 17) ≤ 3 * (s.1 23 + 1) + 2 * s.1 25 + (1 - 1); omega
  · show 4 * (s.1 18 - b.1 18) ≤ 3 * (s.1 23 + 1) + 2 * s.1 25 + (1 - 1); omega
  · show _ - (s.1 23 + 1) < _; omega
end N15
end
section
section N16
variable {Z : Nat → List Int32} {d n : Nat} {b s : nS} {Hb Ob H O : Nat → Int} {m B g fr wh W c : Int} {ap : Bool} {ys : List Int} {Post : nA → nS → Prop} {o6 o7 o8 o9 : Option nV}
theorem n_l37 (hd : 6 ≤ d) (hC : n_CX b Hb Ob m B g ys) (hP : n_PX b Hb Ob B Post W) (hK : n_BK Z d b Hb Ob m B g fr Post W n) (hS : n_SX b Hb Ob m B s H O wh ap) (hn : n_lenT b m - s.1 23 ≤ n) (hE : n_rpE (n_at1 b m) (decide (0 ≤ m)) (n + 1) (s.1 23) (s.1 25) ap (decide (0 ≤ wh)) W) (y0 : ¬ (0 ≤ wh ∧ 0 ≤ m)) : NP Z (d + 2) 111 37 (n_L10 m fr g wh ap o6 o7 o8 o9) [] s Post := by
  have hT := hC.1
  have hfr := hS.1.1
  have hTs := n_fr_TX hfr hT
  have N1 := hS.2.1.1
  have hlen := n_len_b hT
  have hcb := n_at1_b (k := s.1 23) hT
  have h77 := n_l77 (o7 := o7) (o8 := o8) (o9 := o9) hd hC hP hK hS hn rfl hE y0
  have hcr : n_rng (n_at1 b m (s.1 23)) := ⟨by omega, by omega⟩
  have h72 : c_beg (n_at1 b m (s.1 23)) = true → NP Z (d + 2) 111 72 (n_L10 m fr g wh ap (some (xI (n_at1 b m (s.1 23)))) o7 o8 o9) [] s Post := fun h => n_at nb111_72 (by omega) rfl (by rw [h] at h77; exact h77)
  have h76 : c_beg (n_at1 b m (s.1 23)) = false → NP Z (d + 2) 111 76 (n_L10 m fr g wh ap (some (xI (n_at1 b m (s.1 23)))) o7 o8 o9) [] s Post := fun h => n_at nb111_76 (by omega) rfl (by rw [h] at h77; exact h77)
  refine n_at nb111_37 (by omega) rfl ?_
  refine n_iv (vs := [xR 25, xI m, xI (s.1 23)]) (r := []) nn112 (by simp) rfl nc112 (ng112p (S := s.1) (by omega) hTs rfl ⟨by omega, by omega⟩) (fun r s' hr => ?_)
  rw [hr.1, hr.2, n_fr_at hfr]
  refine n_is (vs := [xI (n_at1 b m (s.1 23))]) (r := []) nn113 (by simp) (ng113 (by omega) hcr) (fun r s' hr => ?_)
  rw [hr.1, hr.2]
  refine ⟨n_rngT _, fun z => h72 (by simp [c_beg, n_T1 z]), fun z1 => ?_⟩
  refine n_is (vs := [xI (n_at1 b m (s.1 23))]) (r := []) nn114 (by simp) (ng114 (by omega) hcr) (fun r s' hr => ?_)
  rw [hr.1, hr.2]
  refine ⟨n_rngT _, fun z => h72 (by simp [c_beg, n_T1 z]), fun z2 => ?_⟩
  refine n_is (vs := [xI (n_at1 b m (s.1 23))]) (r := []) nn115 (by simp) (ng115 (by omega) hcr) (fun r s' hr => ?_)
  rw [hr.1, hr.2]
  exact ⟨n_rngT _, fun z => h76 (by simp [c_beg, n_T0 z1, n_T0 z2, n_T0 z]), fun z => h72 (by simp [c_beg, n_T1 z])⟩
theorem n_l21 (hd : 6 ≤ d) (hC : n_CX b Hb Ob m B g ys) (hP : n_PX b Hb Ob B Post W) : ∀ n : Nat, n_BK Z d b Hb Ob m B g fr Post W n := by
  intro n
  induction n with
  | zero =>
    intro s H O wh ap o6 o7 o8 o9 hR hN h24 hm hE
    have := hN.1
    omega
  | succ n ih =>
    intro s H O wh ap o6 o7 o8 o9 hR hN h24 hm hE
    have hS : n_SX b Hb Ob m B s H O wh ap := ⟨hR, hN, h24⟩
    have h37 := fun y0 => n_l37 (o6 := o6) (o7 := o7) (o8 := o8) (o9 := o9) hd hC hP ih hS (by omega) hE y0
    have hFI := hR.2.1
    have hmm := hC.1.2.1
    have hlen := n_len_b hC.1
    have hap := n_T01 ap
    obtain ⟨N1, N2, N3, N4, N5⟩ := hN
    have hwr : n_rng wh := by
      have := hFI.1
      rcases N5 with N5 | N5
      · exact ⟨by omega, by omega⟩
      · exact ⟨by omega, by omega⟩
    refine n_at nb111_21 (by omega) rfl ?_
    refine ⟨⟨by omega, by omega⟩, fun z => ?_, fun _ => ?_⟩
    · omega
    refine ⟨hwr, fun z => h37 (by omega), fun z => ?_⟩
    refine ⟨⟨by omega, by omega⟩, fun z2 => ?_, fun z2 => h37 (by omega)⟩
    refine n_at nb111_384 (by omega) rfl ?_
    have hW := n_rpE_1 hE ⟨decide_eq_true (by omega), decide_eq_true (by omega)⟩
    rcases N5 with N5 | N5
    · omega
    · exact hP.1 hW s H O wh hR N5.1 N5.2.1 N5.2.2.1 (by omega) (by omega) h24
/-- what reading comes to, from a text's beginning -/
def n_read (b : nS) (m : Int) : Int := n_rp (n_at1 b m) (decide (0 ≤ m)) 200 0 0 true false
/-- read, from the text's beginning -/
theorem ng111 (hd : 6 ≤ d) (hC : n_CX b Hb Ob m B g ys) (hF : n_FI b Hb Ob) (hP : n_PX b Hb Ob B Post (n_read b m)) : NG Z (d + 2) 111 [xR 25, xI m, xI 0, xI g] b Post := by
  have hlen := n_len_b hC.1
  refine n_G_of (L := [some (xR 25), some (xI m), some (xI 0), some (xI g), none, none, none, none, none, none]) (by rw [nl111]; exact Nat.le_of_ble_eq_true rfl) (by rw [nl111]; rfl) ?_
  refine n_at nb111_0 (by omega) rfl ?_
  have hfr0 : n_RW b Hb Ob B b Hb Ob → n_RW b Hb Ob B (n_upd (n_upd (n_upd b.1 23 0) 24 (-1)) 25 0, b.2) Hb Ob := by
    intro h
    obtain ⟨h1, h2, h3, h4⟩ := h
    refine ⟨⟨fun k hk => ?_, h1.2⟩, h2, h3, fun l l1 l2 => ?_⟩
    · show n_upd (n_upd (n_upd b.1 23 0) 24 (-1)) 25 0 k = _
      rw [n_u_ne hk.2.2.2.2, n_u_ne hk.2.2.2.1, n_u_ne hk.2.2.1]
    · have l2 : (l : Int) ≤ 0 := l2
      omega
  have hR : n_RW b Hb Ob B (n_upd (n_upd (n_upd b.1 23 0) 24 (-1)) 25 0, b.2) Hb Ob := by
    refine ⟨⟨fun k hk => ?_, fun _ _ _ => rfl⟩, hF, ⟨Int.le_refl _, Int.le_refl _, fun _ _ => ⟨rfl, rfl, rfl⟩, fun _ _ => ⟨rfl, rfl, rfl⟩⟩, fun l l1 l2 => ?_⟩
    · show n_upd (n_upd (n_upd b.1 23 0) 24 (-1)) 25 0 k = _
      rw [n_u_ne hk.2.2.2.2, n_u_ne hk.2.2.2.1, n_u_ne hk.2.2.1]
    · have l2 : (l : Int) ≤ 0 := l2
      omega
  refine n_l21 (fr := 0) hd hC hP 200 (n_upd (n_upd (n_upd b.1 23 0) 24 (-1)) 25 0, b.2) Hb Ob (-1) true none none none none hR ⟨⟨?_, ?_⟩, ⟨?_, ?_⟩, ?_, ?_, Or.inl rfl⟩ rfl ?_ rfl
  · show (0 : Int) ≤ 0; omega
  · show (0 : Int) ≤ _; omega
  · show (0 : Int) ≤ 0; omega
  · show (0 : Int) ≤ 8; omega
  · show 4 * (b.1 17 - b.1 17) ≤ 3 * 0 + 2 * 0 + (1 - 1); omega
  · show 4 * (b.1 18 - b.1 18) ≤ 3 * 0 + 2 * 0 + (1 - 1); omega
  · show n_lenT b m - 0 < ((200 : Nat) : Int); omega
end N16
end
section
/-! SMALL METHODS OF THE REFERENCE'S COMPILER -/
def n_word (a b c : Int) : Int := n_or (n_or (n_shl a 16) (n_shl b 8)) c
/-- the last place below n at which P holds, or -1 -/
def n_lat (P : Nat → Bool) : Nat → Int
  | 0 => -1
  | k + 1 => if P k = true then (k : Int) else n_lat P k
theorem n_lat_b (P : Nat → Bool) : ∀ n : Nat, -1 ≤ n_lat P n ∧ n_lat P n < n
  | 0 => ⟨Int.le_refl _, by show (-1 : Int) < 0; decide⟩
  | k + 1 => by
    unfold n_lat
    have := n_lat_b P k
    split
    · exact ⟨by omega, by omega⟩
    · exact ⟨by omega, by omega⟩
theorem n_lat_p (P : Nat → Bool) : ∀ n : Nat, 0 ≤ n_lat P n → P (n_lat P n).toNat = true
  | 0, h => absurd (show (0 : Int) ≤ -1 from h) (by decide)
  | k + 1, h => by
    unfold n_lat at h ⊢
    split
    · rename_i hp
      exact hp
    · rename_i hp
      rw [if_neg hp] at h
      exact n_lat_p P k h
def n_by (x : Int) : Int := n_b (n_i2b x)
def n_em (s : nS) (x : Int) : nS := if s.1 30 < 260 then (n_upd (n_upd s.1 30 (s.1 30 + 1)) 28 (n_T (decide (¬ s.1 28 = 0 ∨ 200 < s.1 30 + 1))), n_updA s.2 47 (s.1 30).toNat (n_by x)) else (n_upd s.1 28 (n_T (decide (¬ s.1 28 = 0 ∨ 200 < s.1 30))), s.2)
section N17
variable {Z : Nat → List Int32} {d : Nat} {s : nS}
theorem ng123 {a b c : Int} (hd : 6 ≤ d) : NG Z d 123 [xI a, xI b, xI c] s (fun r s' => r = some (n_word a b c) ∧ s' = s) := by
  refine n_G_of (L := [some (xI a), some (xI b), some (xI c)]) (by rw [nl123]; exact Nat.le_of_ble_eq_true rfl) (by rw [nl123]; rfl) ?_
  exact n_at nb123_0 hd rfl ⟨rfl, rfl⟩
theorem n_rng_word (a b c : Int) : n_rng (n_word a b c) := n_rng_or _ _
theorem ng125 {v : Int} (hd : 6 ≤ d) (hv : n_rng v) : NG Z (d + 1) 125 [xI v] s (fun r s' => (∃ q : Bool, r = some (n_T q)) ∧ s' = s) := by
  have h94 : ∀ q : Bool, NP Z (d + 1) 125 94 [some (xI v)] [xI (n_T q)] s (fun r s' => (∃ q : Bool, r = some (n_T q)) ∧ s' = s) := fun q => n_at nb125_94 (by omega) rfl ⟨n_T01 q, ⟨q, rfl⟩, rfl⟩
  have h89 : NP Z (d + 1) 125 89 [some (xI v)] [] s (fun r s' => (∃ q : Bool, r = some (n_T q)) ∧ s' = s) := n_at nb125_89 (by omega) rfl (h94 true)
  have h93 : NP Z (d + 1) 125 93 [some (xI v)] [] s (fun r s' => (∃ q : Bool, r = some (n_T q)) ∧ s' = s) := n_at nb125_93 (by omega) rfl (h94 false)
  refine n_G_of (L := [some (xI v)]) (by rw [nl125]; exact Nat.le_of_ble_eq_true rfl) (by rw [nl125]; rfl) ?_
  refine n_at nb125_0 (by omega) rfl ?_
  refine n_is (vs := [xI 100, xI 101, xI 102]) (r := [xI v]) nn123 (by simp) (ng123 (by omega)) (fun r s' hr => ?_)
  rw [hr.1, hr.2]
  refine ⟨hv, n_rng_word _ _ _, fun _ => h89, fun _ => ?_⟩
  refine n_is (vs := [xI 109, xI 97, xI 99]) (r := [xI v]) nn123 (by simp) (ng123 (by omega)) (fun r s' hr => ?_)
  rw [hr.1, hr.2]
  refine ⟨hv, n_rng_word _ _ _, fun _ => h89, fun _ => ?_⟩
  refine n_is (vs := [xI 0, xI 105, xI 102]) (r := [xI v]) nn123 (by simp) (ng123 (by omega)) (fun r s' hr => ?_)
  rw [hr.1, hr.2]
  refine ⟨hv, n_rng_word _ _ _, fun _ => h89, fun _ => ?_⟩
  refine n_is (vs := [xI 108, xI 101, xI 116]) (r := [xI v]) nn123 (by simp) (ng123 (by omega)) (fun r s' hr => ?_)
  rw [hr.1, hr.2]
  refine ⟨hv, n_rng_word _ _ _, fun _ => h89, fun _ => ?_⟩
  refine n_is (vs := [xI 0, xI 100, xI 111]) (r := [xI v]) nn123 (by simp) (ng123 (by omega)) (fun r s' hr => ?_)
  rw [hr.1, hr.2]
  refine ⟨hv, n_rng_word _ _ _, fun _ => h89, fun _ => ?_⟩
  refine n_is (vs := [xI 115, xI 101, xI 116]) (r := [xI v]) nn123 (by simp) (ng123 (by omega)) (fun r s' hr => ?_)
  rw [hr.1, hr.2]
  refine ⟨hv, n_rng_word _ _ _, fun _ => h89, fun _ => ?_⟩
  refine n_is (vs := [xI 114, xI 117, xI 110]) (r := [xI v]) nn123 (by simp) (ng123 (by omega)) (fun r s' hr => ?_)
  rw [hr.1, hr.2]
  exact ⟨hv, n_rng_word _ _ _, fun _ => h93, fun _ => h89⟩
/-- is a form a symbol of letters -/
theorem ng124 {f : Int} (hd : 6 ≤ d) (hf : 0 ≤ f ∧ f < 1300) (hk : n_rng (s.2 38 f.toNat)) (hv : s.2 38 f.toNat = 1 → n_rng (s.2 39 f.toNat)) : NG Z (d + 1) 124 [xR 25, xI f] s (fun r s' => (∃ q : Bool, r = some (n_T q) ∧ (q = true → s.2 38 f.toNat = 1)) ∧ s' = s) := by
  have h31 : ∀ q : Bool, (q = true → s.2 38 f.toNat = 1) → NP Z (d + 1) 124 31 [some (xR 25), some (xI f)] [xI (n_T q)] s (fun r s' => (∃ q : Bool, r = some (n_T q) ∧ (q = true → s.2 38 f.toNat = 1)) ∧ s' = s) := fun q hq => n_at nb124_31 (by omega) rfl ⟨n_T01 q, ⟨q, rfl, hq⟩, rfl⟩
  have h30 : NP Z (d + 1) 124 30 [some (xR 25), some (xI f)] [] s (fun r s' => (∃ q : Bool, r = some (n_T q) ∧ (q = true → s.2 38 f.toNat = 1)) ∧ s' = s) := n_at nb124_30 (by omega) rfl (h31 false (fun h => absurd h (by decide)))
  refine n_G_of (L := [some (xR 25), some (xI f)]) (by rw [nl124]; exact Nat.le_of_ble_eq_true rfl) (by rw [nl124]; rfl) ?_
  refine n_at nb124_0 (by omega) rfl ?_
  refine ⟨hf, hk, ⟨by decide, by decide⟩, fun _ => h30, fun z => ⟨hf, ?_⟩⟩
  refine n_is (vs := [xI (s.2 39 f.toNat % 256)]) (r := []) nn114 (by simp) (ng114 (by omega) ⟨by omega, by omega⟩) (fun r s' hr => ?_)
  rw [hr.1, hr.2]
  exact ⟨n_rngT _, fun _ => h30, fun _ => h31 true (fun _ => z)⟩
/-- what a list begins with -/
theorem ng120 {f : Int} {xs : List Int} (hd : 6 ≤ d) (hf : 0 ≤ f ∧ f < 1300) (hk : n_rng (s.2 38 f.toNat)) (hx : n_isch s.2 (n_fst s f) xs) (hl : xs.length < 100000) (hh : ∀ x ∈ xs, (0 ≤ s.2 40 x.toNat ∧ s.2 40 x.toNat < 1300) ∧ n_rng (s.2 38 (s.2 40 x.toNat).toNat) ∧ (s.2 38 (s.2 40 x.toNat).toNat = 1 → n_rng (s.2 39 (s.2 40 x.toNat).toNat))) : NG Z (d + 1) 120 [xR 25, xI f] s (fun r s' => (∃ v, r = some v ∧ n_rng v ∧ (v = 0 ∨ xs ≠ [])) ∧ s' = s) := by
  have h40 : ∀ (v n : Int), n_rng v → (v = 0 ∨ xs ≠ []) → NP Z (d + 1) 120 40 [some (xR 25), some (xI f), some (xI n)] [xI v] s (fun r s' => (∃ v, r = some v ∧ n_rng v ∧ (v = 0 ∨ xs ≠ [])) ∧ s' = s) := fun v n hv h => n_at nb120_40 (by omega) rfl ⟨⟨v, rfl, hv, h⟩, rfl⟩
  have h39 : ∀ n : Int, NP Z (d + 1) 120 39 [some (xR 25), some (xI f), some (xI n)] [] s (fun r s' => (∃ v, r = some v ∧ n_rng v ∧ (v = 0 ∨ xs ≠ [])) ∧ s' = s) := fun n => n_at nb120_39 (by omega) rfl (h40 0 n ⟨by decide, by decide⟩ (Or.inl rfl))
  refine n_G_of (L := [some (xR 25), some (xI f), none]) (by rw [nl120]; exact Nat.le_of_ble_eq_true rfl) (by rw [nl120]; rfl) ?_
  refine n_at nb120_0 (by omega) rfl ?_
  refine n_iv (vs := [xR 25, xI f]) (r := []) nn121 (by simp) rfl nc121 (ng121 (by omega) hf hk hx hl) (fun r s' hr => ?_)
  rw [hr.1, hr.2]
  refine ⟨⟨by omega, by omega⟩, fun _ => h39 _, fun z => ?_⟩
  obtain _ | ⟨x, xs'⟩ := xs
  · exact absurd (by decide : ((([] : List Int).length : Nat) : Int) ≤ 0) z
  have hne : (x :: xs') ≠ [] := by simp
  obtain ⟨b1, b2, b3⟩ := hh x List.mem_cons_self
  have h2 : s.2 38 f.toNat = 2 := by
    apply Classical.byContradiction
    intro hn
    have h1 := hx.1
    have h2 := hx.2.1
    unfold n_fst at h1
    rw [if_neg hn] at h1
    omega
  have hx2 : n_isch s.2 (s.2 39 f.toNat) (x :: xs') := by
    have := hx
    unfold n_fst at this
    rw [if_pos h2] at this
    exact this
  refine n_iv (vs := [xR 25, xI f, xI 0]) (r := [xR 38]) nn122 (by simp) rfl nc122 (ng122 (by omega) hf ⟨by decide, by decide⟩ hx2 (by rfl)) (fun r s' hr => ?_)
  rw [hr.1, hr.2]
  refine ⟨b1, b2, ⟨by decide, by decide⟩, fun _ => h39 _, fun z2 => ?_⟩
  refine n_iv (vs := [xR 25, xI f, xI 0]) (r := [xR 39]) nn122 (by simp) rfl nc122 (ng122 (by omega) hf ⟨by decide, by decide⟩ hx2 (by rfl)) (fun r s' hr => ?_)
  rw [hr.1, hr.2]
  exact ⟨b1, h40 _ _ (b3 z2) (Or.inr hne)⟩
/-- a macro of that name -/
theorem n_l132 {v : Int} (hd : 6 ≤ d) (hv : n_rng v) (hs : ∀ i, n_rng (s.2 27 i) ∧ n_rng (s.2 28 i)) : ∀ k : Nat, k ≤ 16 → NP Z d 132 7 [some (xR 25), some (xI v), some (xI ((k : Int) - 1))] [] s (fun r s' => r = some (if v = 0 then -1 else n_lat (fun i => decide (s.2 27 i = 2 ∧ s.2 28 i = v)) k) ∧ s' = s) := by
  have h46 : ∀ (k y w : Int), y = w → NP Z d 132 46 [some (xR 25), some (xI v), some (xI k)] [xI y] s (fun r s' => r = some w ∧ s' = s) := fun k y w h => n_at nb132_46 hd rfl ⟨by rw [h], rfl⟩
  have h37 : ∀ k : Int, NP Z d 132 37 [some (xR 25), some (xI v), some (xI k)] [] s (fun r s' => r = some (if v = 0 then -1 else k) ∧ s' = s) := fun k => by
    refine n_at nb132_37 hd rfl ⟨hv, fun z => ?_, fun z => h46 _ _ _ (by rw [if_pos z])⟩
    exact n_at nb132_45 hd rfl (h46 _ _ _ (by rw [if_neg z]))
  intro k
  induction k with
  | zero =>
    intro _
    exact n_at nb132_7 hd rfl ⟨⟨by decide, by decide⟩, fun _ => h37 _, fun z => absurd (by decide : ((0 : Nat) : Int) - 1 < 0) z⟩
  | succ k ih =>
    intro hk
    have e : ((k + 1 : Nat) : Int) - 1 = (k : Int) := by omega
    rw [e]
    have h31 : decide (s.2 27 k = 2 ∧ s.2 28 k = v) = false → NP Z d 132 31 [some (xR 25), some (xI v), some (xI (k : Int))] [] s (fun r s' => r = some (if v = 0 then -1 else n_lat (fun i => decide (s.2 27 i = 2 ∧ s.2 28 i = v)) (k + 1)) ∧ s' = s) := fun h => by
      have e2 : n_lat (fun i => decide (s.2 27 i = 2 ∧ s.2 28 i = v)) (k + 1) = n_lat (fun i => decide (s.2 27 i = 2 ∧ s.2 28 i = v)) k := by
        show (if decide (s.2 27 k = 2 ∧ s.2 28 k = v) = true then _ else _) = _
        rw [h]
        rfl
      rw [e2]
      exact n_at nb132_31 hd rfl (ih (by omega))
    refine n_at nb132_7 hd rfl ⟨⟨by omega, by omega⟩, fun z => ?_, fun _ => ⟨⟨by omega, by omega⟩, (hs _).1, ⟨by decide, by decide⟩, fun z => h31 ?_, fun z => ⟨⟨by omega, by omega⟩, (hs _).2, hv, fun z2 => ?_, fun z2 => h31 ?_⟩⟩⟩
    · omega
    · exact decide_eq_false (fun h => z h.1)
    · have e2 : n_lat (fun i => decide (s.2 27 i = 2 ∧ s.2 28 i = v)) (k + 1) = (k : Int) := by
        show (if decide (s.2 27 k = 2 ∧ s.2 28 k = v) = true then _ else _) = _
        rw [if_pos (decide_eq_true ⟨z, z2⟩)]
      rw [e2]
      exact h37 _
    · exact decide_eq_false (fun h => z2 h.2)
theorem ng132 {v : Int} (hd : 6 ≤ d) (hv : n_rng v) (hs : ∀ i, n_rng (s.2 27 i) ∧ n_rng (s.2 28 i)) (hu : 0 ≤ s.1 2 ∧ s.1 2 ≤ 16) : NG Z d 132 [xR 25, xI v] s (fun r s' => r = some (if v = 0 then -1 else n_lat (fun i => decide (s.2 27 i = 2 ∧ s.2 28 i = v)) (s.1 2).toNat) ∧ s' = s) := by
  refine n_G_of (L := [some (xR 25), some (xI v), none]) (by rw [nl132]; exact Nat.le_of_ble_eq_true rfl) (by rw [nl132]; rfl) ?_
  refine n_at nb132_0 hd rfl ?_
  have := n_l132 (Z := Z) hd hv hs (s.1 2).toNat (by omega)
  rw [show (((s.1 2).toNat : Nat) : Int) - 1 = s.1 2 - 1 from by omega] at this
  exact this
end N17
end
section
/-! MORE SMALL METHODS -/
section N18
variable {Z : Nat → List Int32} {d : Nat} {s : nS}
/-- the latest unit of a sort and a name -/
theorem n_l148 {w v : Int} (hd : 6 ≤ d) (hw : n_rng w) (hv : n_rng v) (hs : ∀ i, n_rng (s.2 27 i) ∧ n_rng (s.2 28 i)) : ∀ k : Nat, k ≤ 16 → NP Z d 148 7 [some (xR 25), some (xI w), some (xI v), some (xI ((k : Int) - 1))] [] s (fun r s' => r = some (n_lat (fun i => decide (s.2 27 i = w ∧ s.2 28 i = v)) k) ∧ s' = s) := by
  have h37 : ∀ k w' : Int, k = w' → NP Z d 148 37 [some (xR 25), some (xI w), some (xI v), some (xI k)] [] s (fun r s' => r = some w' ∧ s' = s) := fun k w' h => n_at nb148_37 hd rfl ⟨by rw [h], rfl⟩
  intro k
  induction k with
  | zero =>
    intro _
    exact n_at nb148_7 hd rfl ⟨⟨by decide, by decide⟩, fun _ => h37 _ _ rfl, fun z => absurd (by decide : ((0 : Nat) : Int) - 1 < 0) z⟩
  | succ k ih =>
    intro hk
    have e : ((k + 1 : Nat) : Int) - 1 = (k : Int) := by omega
    rw [e]
    have h31 : decide (s.2 27 k = w ∧ s.2 28 k = v) = false → NP Z d 148 31 [some (xR 25), some (xI w), some (xI v), some (xI (k : Int))] [] s (fun r s' => r = some (n_lat (fun i => decide (s.2 27 i = w ∧ s.2 28 i = v)) (k + 1)) ∧ s' = s) := fun h => by
      have e2 : n_lat (fun i => decide (s.2 27 i = w ∧ s.2 28 i = v)) (k + 1) = n_lat (fun i => decide (s.2 27 i = w ∧ s.2 28 i = v)) k := by
        show (if decide (s.2 27 k = w ∧ s.2 28 k = v) = true then _ else _) = _
        rw [h]
        rfl
      rw [e2]
      exact n_at nb148_31 hd rfl (ih (by omega))
    refine n_at nb148_7 hd rfl ⟨⟨by omega, by omega⟩, fun z => ?_, fun _ => ⟨⟨by omega, by omega⟩, (hs _).1, hw, fun z => h31 ?_, fun z => ⟨⟨by omega, by omega⟩, (hs _).2, hv, fun z2 => h37 _ _ ?_, fun z2 => h31 ?_⟩⟩⟩
    · omega
    · exact decide_eq_false (fun h => z h.1)
    · show (k : Int) = (if decide (s.2 27 k = w ∧ s.2 28 k = v) = true then _ else _)
      rw [if_pos (decide_eq_true ⟨z, z2⟩)]
    · exact decide_eq_false (fun h => z2 h.2)
def n_latest (s : nS) (w v : Int) : Int := n_lat (fun i => decide (s.2 27 i = w ∧ s.2 28 i = v)) (s.1 2).toNat
theorem ng148 {w v : Int} (hd : 6 ≤ d) (hw : n_rng w) (hv : n_rng v) (hs : ∀ i, n_rng (s.2 27 i) ∧ n_rng (s.2 28 i)) (hu : 0 ≤ s.1 2 ∧ s.1 2 ≤ 16) : NG Z d 148 [xR 25, xI w, xI v] s (fun r s' => r = some (n_latest s w v) ∧ s' = s) := by
  refine n_G_of (L := [some (xR 25), some (xI w), some (xI v), none]) (by rw [nl148]; exact Nat.le_of_ble_eq_true rfl) (by rw [nl148]; rfl) ?_
  refine n_at nb148_0 hd rfl ?_
  have := n_l148 (Z := Z) hd hw hv hs (s.1 2).toNat (by omega)
  rw [show (((s.1 2).toNat : Nat) : Int) - 1 = s.1 2 - 1 from by omega] at this
  exact this
/-- where a unit stands in the image's order -/
theorem n_l150 {u : Int} (hd : 6 ≤ d) (hu : n_rng u) (hs : ∀ i, n_rng (s.2 52 i)) : ∀ k : Nat, k ≤ 16 → NP Z d 150 7 [some (xR 25), some (xI u), some (xI ((k : Int) - 1))] [] s (fun r s' => r = some (n_lat (fun i => decide (s.2 52 i = u)) k) ∧ s' = s) := by
  have h27 : ∀ k w' : Int, k = w' → NP Z d 150 27 [some (xR 25), some (xI u), some (xI k)] [] s (fun r s' => r = some w' ∧ s' = s) := fun k w' h => n_at nb150_27 hd rfl ⟨by rw [h], rfl⟩
  intro k
  induction k with
  | zero =>
    intro _
    exact n_at nb150_7 hd rfl ⟨⟨by decide, by decide⟩, fun _ => h27 _ _ rfl, fun z => absurd (by decide : ((0 : Nat) : Int) - 1 < 0) z⟩
  | succ k ih =>
    intro hk
    have e : ((k + 1 : Nat) : Int) - 1 = (k : Int) := by omega
    rw [e]
    refine n_at nb150_7 hd rfl ⟨⟨by omega, by omega⟩, fun z => ?_, fun _ => ⟨⟨by omega, by omega⟩, hs _, hu, fun z => h27 _ _ ?_, fun z => ?_⟩⟩
    · omega
    · show (k : Int) = (if decide (s.2 52 k = u) = true then _ else _)
      have z : s.2 52 k = u := z
      rw [if_pos (decide_eq_true z)]
    · have z : ¬ s.2 52 k = u := z
      have e2 : n_lat (fun i => decide (s.2 52 i = u)) (k + 1) = n_lat (fun i => decide (s.2 52 i = u)) k := by
        show (if decide (s.2 52 k = u) = true then _ else _) = _
        rw [if_neg (fun h => z (of_decide_eq_true h))]
      rw [e2]
      exact ih (by omega)
def n_stands (s : nS) (u : Int) : Int := n_lat (fun i => decide (s.2 52 i = u)) (s.1 43).toNat
theorem ng150 {u : Int} (hd : 6 ≤ d) (hu : n_rng u) (hs : ∀ i, n_rng (s.2 52 i)) (hl : 0 ≤ s.1 43 ∧ s.1 43 ≤ 16) : NG Z d 150 [xR 25, xI u] s (fun r s' => r = some (n_stands s u) ∧ s' = s) := by
  refine n_G_of (L := [some (xR 25), some (xI u), none]) (by rw [nl150]; exact Nat.le_of_ble_eq_true rfl) (by rw [nl150]; rfl) ?_
  refine n_at nb150_0 hd rfl ?_
  have := n_l150 (Z := Z) hd hu hs (s.1 43).toNat (by omega)
  rw [show (((s.1 43).toNat : Nat) : Int) - 1 = s.1 43 - 1 from by omega] at this
  exact this
def n_sign (v : Int) : Int := if v = 43 then 2 else if v = 45 then 3 else if v = 42 then 4 else if v = 60 then 5 else if v = 61 then 6 else 0
theorem ng134 {v : Int} (hd : 6 ≤ d) (hv : n_rng v) : NG Z d 134 [xI v] s (fun r s' => r = some (n_sign v) ∧ s' = s) := by
  have h52 : ∀ y : Int, y = n_sign v → NP Z d 134 52 [some (xI v)] [xI y] s (fun r s' => r = some (n_sign v) ∧ s' = s) := fun y h => n_at nb134_52 hd rfl ⟨by rw [h], rfl⟩
  refine n_G_of (L := [some (xI v)]) (by rw [nl134]; exact Nat.le_of_ble_eq_true rfl) (by rw [nl134]; rfl) ?_
  refine n_at nb134_0 hd rfl ⟨hv, ⟨by decide, by decide⟩, fun z => ?_, fun z => h52 2 (by rw [z]; rfl)⟩
  refine n_at nb134_10 hd rfl ⟨hv, ⟨by decide, by decide⟩, fun z2 => ?_, fun z => h52 3 (by rw [z]; rfl)⟩
  refine n_at nb134_20 hd rfl ⟨hv, ⟨by decide, by decide⟩, fun z3 => ?_, fun z => h52 4 (by rw [z]; rfl)⟩
  refine n_at nb134_30 hd rfl ⟨hv, ⟨by decide, by decide⟩, fun z4 => ?_, fun z => h52 5 (by rw [z]; rfl)⟩
  refine n_at nb134_40 hd rfl ⟨hv, ⟨by decide, by decide⟩, fun z5 => ?_, fun z => h52 6 (by rw [z]; rfl)⟩
  refine n_at nb134_51 hd rfl (h52 0 ?_)
  unfold n_sign
  rw [if_neg z, if_neg z2, if_neg z3, if_neg z4, if_neg z5]
def n_wide (op : Int) : Int := if op = 0 ∨ op = 7 ∨ op = 8 then 3 else if op = 1 ∨ op = 11 ∨ op = 13 then 2 else if op = 12 then 4 else 1
theorem ng153 {v : Int} (hd : 6 ≤ d) (hv : n_rng v) : NG Z d 153 [xI v] s (fun r s' => r = some (n_wide v) ∧ s' = s) := by
  have h52 : ∀ y : Int, y = n_wide v → NP Z d 153 52 [some (xI v)] [xI y] s (fun r s' => r = some (n_wide v) ∧ s' = s) := fun y h => n_at nb153_52 hd rfl ⟨by rw [h], rfl⟩
  have h16 : (v = 0 ∨ v = 7 ∨ v = 8) → NP Z d 153 16 [some (xI v)] [] s (fun r s' => r = some (n_wide v) ∧ s' = s) := fun h => n_at nb153_16 hd rfl (h52 3 (by unfold n_wide; rw [if_pos h]))
  have h37 : ¬ (v = 0 ∨ v = 7 ∨ v = 8) → (v = 1 ∨ v = 11 ∨ v = 13) → NP Z d 153 37 [some (xI v)] [] s (fun r s' => r = some (n_wide v) ∧ s' = s) := fun h1 h => n_at nb153_37 hd rfl (h52 2 (by unfold n_wide; rw [if_neg h1, if_pos h]))
  refine n_G_of (L := [some (xI v)]) (by rw [nl153]; exact Nat.le_of_ble_eq_true rfl) (by rw [nl153]; rfl) ?_
  refine n_at nb153_0 hd rfl ⟨hv, fun z => h16 (Or.inl z), fun z1 => ⟨hv, ⟨by decide, by decide⟩, fun z => h16 (Or.inr (Or.inl z)), fun z2 => ⟨hv, ⟨by decide, by decide⟩, fun z3 => ?_, fun z => h16 (Or.inr (Or.inr z))⟩⟩⟩
  have hn : ¬ (v = 0 ∨ v = 7 ∨ v = 8) := by omega
  refine n_at nb153_20 hd rfl ⟨hv, ⟨by decide, by decide⟩, fun z => h37 hn (Or.inl z), fun z4 => ⟨hv, ⟨by decide, by decide⟩, fun z => h37 hn (Or.inr (Or.inl z)), fun z5 => ⟨hv, ⟨by decide, by decide⟩, fun z6 => ?_, fun z => h37 hn (Or.inr (Or.inr z))⟩⟩⟩
  have hn2 : ¬ (v = 1 ∨ v = 11 ∨ v = 13) := by omega
  refine n_at nb153_41 hd rfl ⟨hv, ⟨by decide, by decide⟩, fun z => ?_, fun z => h52 4 ?_⟩
  · refine n_at nb153_51 hd rfl (h52 1 ?_)
    unfold n_wide
    rw [if_neg hn, if_neg hn2, if_neg z]
  · unfold n_wide
    rw [if_neg hn, if_neg hn2, if_pos z]
theorem ng127 {v sl : Int} (hd : 6 ≤ d) (hn : 0 ≤ s.1 32 ∧ s.1 32 < 120) : NG Z d 127 [xR 25, xI v, xI sl] s (fun r s' => r = none ∧ s' = (n_upd s.1 32 (s.1 32 + 1), n_updA (n_updA s.2 48 (s.1 32).toNat v) 49 (s.1 32).toNat sl)) := by
  refine n_G_of (L := [some (xR 25), some (xI v), some (xI sl)]) (by rw [nl127]; exact Nat.le_of_ble_eq_true rfl) (by rw [nl127]; rfl) ?_
  exact n_at nb127_0 hd rfl ⟨hn, hn, rfl, rfl, rfl⟩
theorem ng129 {t x y : Int} (hd : 6 ≤ d) (hn : 0 ≤ s.1 29 ∧ s.1 29 < 300) : NG Z d 129 [xR 25, xI t, xI x, xI y] s (fun r s' => r = none ∧ s' = (n_upd s.1 29 (s.1 29 + 1), n_updA (n_updA (n_updA s.2 44 (s.1 29).toNat t) 45 (s.1 29).toNat x) 46 (s.1 29).toNat y)) := by
  refine n_G_of (L := [some (xR 25), some (xI t), some (xI x), some (xI y)]) (by rw [nl129]; exact Nat.le_of_ble_eq_true rfl) (by rw [nl129]; rfl) ?_
  exact n_at nb129_0 hd rfl ⟨hn, hn, hn, rfl, rfl, rfl⟩
theorem ng136 {x : Int} (hd : 6 ≤ d) (hn : 0 ≤ s.1 30 ∧ s.1 30 ≤ 260) (hb : s.1 28 = 0 ∨ s.1 28 = 1) : NG Z d 136 [xR 25, xI x] s (fun r s' => r = none ∧ s' = n_em s x) := by
  have h54 : ∀ (t : nS) (q : Bool), (n_upd t.1 28 (n_T q), t.2) = n_em s x → NP Z d 136 54 [some (xR 25), some (xI x)] [xI (n_T q), xR 25] t (fun r s' => r = none ∧ s' = n_em s x) := fun t q h => n_at nb136_54 hd rfl ⟨n_T01 q, rfl, rfl, h⟩
  have h31 : ∀ t : nS, (t.1 28 = 0 ∨ t.1 28 = 1) → (0 ≤ t.1 30 ∧ t.1 30 ≤ 1000) → (n_upd t.1 28 (n_T (decide (¬ t.1 28 = 0 ∨ 200 < t.1 30))), t.2) = n_em s x → NP Z d 136 31 [some (xR 25), some (xI x)] [] t (fun r s' => r = none ∧ s' = n_em s x) := by
    intro t h1 h2 h3
    have h49 : (¬ t.1 28 = 0 ∨ 200 < t.1 30) → NP Z d 136 49 [some (xR 25), some (xI x)] [xR 25] t (fun r s' => r = none ∧ s' = n_em s x) := fun h => n_at nb136_49 hd rfl (h54 t true (by rw [decide_eq_true h] at h3; exact h3))
    have h53 : ¬ (¬ t.1 28 = 0 ∨ 200 < t.1 30) → NP Z d 136 53 [some (xR 25), some (xI x)] [xR 25] t (fun r s' => r = none ∧ s' = n_em s x) := fun h => n_at nb136_53 hd rfl (h54 t false (by rw [decide_eq_false h] at h3; exact h3))
    refine n_at nb136_31 hd rfl ⟨⟨by omega, by omega⟩, fun z => h49 (Or.inl z), fun z => ⟨⟨by omega, by omega⟩, ⟨by decide, by decide⟩, fun z2 => h53 (by omega), fun z2 => h49 (by omega)⟩⟩
  refine n_G_of (L := [some (xR 25), some (xI x)]) (by rw [nl136]; exact Nat.le_of_ble_eq_true rfl) (by rw [nl136]; rfl) ?_
  refine n_at nb136_0 hd rfl ⟨⟨by omega, by omega⟩, ⟨by decide, by decide⟩, fun z => ?_, fun z => ⟨⟨by omega, by omega⟩, ?_⟩⟩
  · refine h31 s hb ⟨by omega, by omega⟩ ?_
    unfold n_em
    rw [if_neg (by omega)]
  · refine h31 _ hb ⟨by show 0 ≤ s.1 30 + 1; omega, by show s.1 30 + 1 ≤ _; omega⟩ ?_
    unfold n_em
    rw [if_pos (by omega)]
    rfl
end N18
end
section
/-! AND MORE -/
theorem n_em_b {s : nS} {x : Int} (hn : 0 ≤ s.1 30 ∧ s.1 30 ≤ 260) : (0 ≤ (n_em s x).1 30 ∧ (n_em s x).1 30 ≤ 260) ∧ ((n_em s x).1 28 = 0 ∨ (n_em s x).1 28 = 1) := by
  unfold n_em
  split
  · refine ⟨⟨?_, ?_⟩, n_T01 _⟩
    · show 0 ≤ s.1 30 + 1; omega
    · show s.1 30 + 1 ≤ 260; omega
  · exact ⟨hn, n_T01 _⟩
section N19
variable {Z : Nat → List Int32} {d : Nat} {s : nS}
theorem ng137 {x : Int} (hd : 6 ≤ d) (hn : 0 ≤ s.1 30 ∧ s.1 30 ≤ 260) (hb : s.1 28 = 0 ∨ s.1 28 = 1) : NG Z (d + 1) 137 [xR 25, xI x] s (fun r s' => r = none ∧ s' = n_em (n_em s (n_shr x 8)) x) := by
  refine n_G_of (L := [some (xR 25), some (xI x)]) (by rw [nl137]; exact Nat.le_of_ble_eq_true rfl) (by rw [nl137]; rfl) ?_
  refine n_at nb137_0 (by omega) rfl ?_
  refine n_iv (vs := [xR 25, xI (n_shr x 8)]) (r := []) nn136 (by simp) rfl nc136 (ng136 hd hn hb) (fun r s' hr => ?_)
  rw [hr.1, hr.2]
  have h := n_em_b (x := n_shr x 8) hn
  refine n_iv (vs := [xR 25, xI x]) (r := []) nn136 (by simp) rfl nc136 (ng136 hd h.1 h.2) (fun r s' hr => ?_)
  rw [hr.1, hr.2]
  exact ⟨rfl, rfl, rfl⟩
def n_aim (s : nS) (k : Int) : nS := (s.1, n_updA (n_updA s.2 47 k.toNat (n_by (n_shr (s.1 30) 8))) 47 (k + 1).toNat (n_by (s.1 30)))
theorem ng139 {k : Int} (hd : 6 ≤ d) (hk : 0 ≤ k ∧ k < 259) : NG Z d 139 [xR 25, xI k] s (fun r s' => r = none ∧ s' = n_aim s k) := by
  refine n_G_of (L := [some (xR 25), some (xI k)]) (by rw [nl139]; exact Nat.le_of_ble_eq_true rfl) (by rw [nl139]; rfl) ?_
  exact n_at nb139_0 hd rfl ⟨⟨by omega, by omega⟩, ⟨by omega, by omega⟩, rfl, rfl, rfl⟩
/-- the slot of a symbol -/
def n_slotK (s : nS) (f : Int) : Int := n_lat (fun i => decide (s.2 38 f.toNat = 1 ∧ s.2 48 i = s.2 39 f.toNat)) (s.1 32).toNat
def n_slotS (s : nS) (f : Int) : nS := (n_upd s.1 28 (n_T (decide (¬ s.1 28 = 0 ∨ n_slotK s f < 0))), s.2)
theorem n_l138 {f : Int} (hd : 6 ≤ d) (hf : 0 ≤ f ∧ f < 1300) (hk : n_rng (s.2 38 f.toNat)) (hv : s.2 38 f.toNat = 1 → n_rng (s.2 39 f.toNat)) (hs : ∀ i : Nat, (i : Int) < s.1 32 → n_rng (s.2 48 i)) (Post : nA → nS → Prop) (w : Int) (h42 : NP Z d 138 42 [some (xR 25), some (xI f), some (xI w)] [] s Post) : ∀ k : Nat, (k ≤ 120 ∧ (k : Int) ≤ s.1 32) → n_lat (fun i => decide (s.2 38 f.toNat = 1 ∧ s.2 48 i = s.2 39 f.toNat)) k = w → NP Z d 138 7 [some (xR 25), some (xI f), some (xI ((k : Int) - 1))] [] s Post := by
  intro k
  induction k with
  | zero =>
    intro _ hw
    have hw : -1 = w := hw
    subst hw
    exact n_at nb138_7 hd rfl ⟨⟨by decide, by decide⟩, fun _ => h42, fun z => absurd (by decide : ((0 : Nat) : Int) - 1 < 0) z⟩
  | succ k ih =>
    intro hk2 hw
    have e : ((k + 1 : Nat) : Int) - 1 = (k : Int) := by omega
    rw [e]
    have hw : (if decide (s.2 38 f.toNat = 1 ∧ s.2 48 k = s.2 39 f.toNat) = true then (k : Int) else n_lat (fun i => decide (s.2 38 f.toNat = 1 ∧ s.2 48 i = s.2 39 f.toNat)) k) = w := hw
    have h36 : ¬ (s.2 38 f.toNat = 1 ∧ s.2 48 k = s.2 39 f.toNat) → NP Z d 138 36 [some (xR 25), some (xI f), some (xI (k : Int))] [] s Post := fun h => by
      rw [if_neg (fun z => h (of_decide_eq_true z))] at hw
      exact n_at nb138_36 hd rfl (ih (by omega) hw)
    refine n_at nb138_7 hd rfl ⟨⟨by omega, by omega⟩, fun z => ?_, fun _ => ⟨hf, hk, ⟨by decide, by decide⟩, fun z => h36 (fun h => z h.1), fun z => ⟨⟨by omega, by omega⟩, hf, hs k (by omega), hv z, fun z2 => ?_, fun z2 => h36 (fun h => z2 h.2)⟩⟩⟩
    · omega
    · rw [if_pos (decide_eq_true ⟨z, z2⟩)] at hw
      rw [hw]
      exact h42
theorem ng138 {f : Int} (hd : 6 ≤ d) (hf : 0 ≤ f ∧ f < 1300) (hk : n_rng (s.2 38 f.toNat)) (hv : s.2 38 f.toNat = 1 → n_rng (s.2 39 f.toNat)) (hs : ∀ i : Nat, (i : Int) < s.1 32 → n_rng (s.2 48 i)) (hn : 0 ≤ s.1 32 ∧ s.1 32 ≤ 120) (hb : s.1 28 = 0 ∨ s.1 28 = 1) : NG Z d 138 [xR 25, xI f] s (fun r s' => r = some (if n_slotK s f < 0 then 0 else s.2 49 (n_slotK s f).toNat) ∧ s' = n_slotS s f) := by
  have hkb := n_lat_b (fun i => decide (s.2 38 f.toNat = 1 ∧ s.2 48 i = s.2 39 f.toNat)) (s.1 32).toNat
  have ek : n_lat (fun i => decide (s.2 38 f.toNat = 1 ∧ s.2 48 i = s.2 39 f.toNat)) (s.1 32).toNat = n_slotK s f := rfl
  rw [ek] at hkb
  have h59 : ∀ q : Bool, q = decide (¬ s.1 28 = 0 ∨ n_slotK s f < 0) → NP Z d 138 59 [some (xR 25), some (xI f), some (xI (n_slotK s f))] [xI (n_T q), xR 25] s (fun r s' => r = some (if n_slotK s f < 0 then 0 else s.2 49 (n_slotK s f).toNat) ∧ s' = n_slotS s f) := by
    intro q hq
    have h76 : ∀ y : Int, y = (if n_slotK s f < 0 then 0 else s.2 49 (n_slotK s f).toNat) → NP Z d 138 76 [some (xR 25), some (xI f), some (xI (n_slotK s f))] [xI y] (n_slotS s f) (fun r s' => r = some (if n_slotK s f < 0 then 0 else s.2 49 (n_slotK s f).toNat) ∧ s' = n_slotS s f) := fun y hy => n_at nb138_76 hd rfl ⟨by rw [hy], rfl⟩
    refine n_at nb138_59 hd rfl ⟨n_T01 q, ?_⟩
    rw [hq]
    refine ⟨⟨by omega, by omega⟩, fun z => ?_, fun z => h76 0 (by rw [if_pos (by omega)])⟩
    refine n_at nb138_70 hd rfl ⟨⟨z, by omega⟩, h76 _ ?_⟩
    rw [if_neg (by omega)]
  have h42 : NP Z d 138 42 [some (xR 25), some (xI f), some (xI (n_slotK s f))] [] s (fun r s' => r = some (if n_slotK s f < 0 then 0 else s.2 49 (n_slotK s f).toNat) ∧ s' = n_slotS s f) := by
    have h54 : (¬ s.1 28 = 0 ∨ n_slotK s f < 0) → NP Z d 138 54 [some (xR 25), some (xI f), some (xI (n_slotK s f))] [xR 25] s (fun r s' => r = some (if n_slotK s f < 0 then 0 else s.2 49 (n_slotK s f).toNat) ∧ s' = n_slotS s f) := fun h => n_at nb138_54 hd rfl (h59 true (decide_eq_true h).symm)
    refine n_at nb138_42 hd rfl ⟨⟨by omega, by omega⟩, fun z => h54 (Or.inl z), fun z => ⟨⟨by omega, by omega⟩, fun z2 => ?_, fun z2 => h54 (by omega)⟩⟩
    exact n_at nb138_58 hd rfl (h59 false (decide_eq_false (by omega)).symm)
  refine n_G_of (L := [some (xR 25), some (xI f), none]) (by rw [nl138]; exact Nat.le_of_ble_eq_true rfl) (by rw [nl138]; rfl) ?_
  refine n_at nb138_0 hd rfl ?_
  have := n_l138 (Z := Z) hd hf hk hv hs _ (n_slotK s f) h42 (s.1 32).toNat ⟨by omega, by omega⟩ rfl
  rw [show (((s.1 32).toNat : Nat) : Int) - 1 = s.1 32 - 1 from by omega] at this
  exact this
/-! what is asked of the reference -/
theorem ng142 (hd : 6 ≤ d) : NG Z d 142 [xR 25] s (fun r s' => r = some (s.1 3) ∧ s' = (n_upd s.1 0 0, s.2)) := by
  refine n_G_of (L := [some (xR 25)]) (by rw [nl142]; exact Nat.le_of_ble_eq_true rfl) (by rw [nl142]; rfl) ?_
  exact n_at nb142_0 hd rfl ⟨rfl, rfl⟩
theorem ng146 (hd : 6 ≤ d) : NG Z d 146 [xR 25] s (fun r s' => r = none ∧ s' = (n_upd (n_upd s.1 0 0) 2 0, s.2)) := by
  refine n_G_of (L := [some (xR 25)]) (by rw [nl146]; exact Nat.le_of_ble_eq_true rfl) (by rw [nl146]; rfl) ?_
  exact n_at nb146_0 hd rfl ⟨rfl, rfl, rfl⟩
theorem ng155 (hd : 6 ≤ d) : NG Z d 155 [xR 25] s (fun r s' => r = some (s.1 4) ∧ s' = (n_upd s.1 0 0, s.2)) := by
  refine n_G_of (L := [some (xR 25)]) (by rw [nl155]; exact Nat.le_of_ble_eq_true rfl) (by rw [nl155]; rfl) ?_
  exact n_at nb155_0 hd rfl ⟨rfl, rfl⟩
theorem ng156 {k : Int} (hd : 6 ≤ d) (hk : n_rng k) (hi : 0 ≤ s.1 46 ∧ s.1 46 ≤ 600) : NG Z d 156 [xR 25, xI k] s (fun _ s' => s' = (n_upd s.1 0 0, s.2)) := by
  have h43 : ∀ y : Int, NP Z d 156 43 [some (xR 25), some (xI k)] [xI y] (n_upd s.1 0 0, s.2) (fun _ s' => s' = (n_upd s.1 0 0, s.2)) := fun y => n_at nb156_43 hd rfl rfl
  have h42 : NP Z d 156 42 [some (xR 25), some (xI k)] [] (n_upd s.1 0 0, s.2) (fun _ s' => s' = (n_upd s.1 0 0, s.2)) := n_at nb156_42 hd rfl (h43 _)
  refine n_G_of (L := [some (xR 25), some (xI k)]) (by rw [nl156]; exact Nat.le_of_ble_eq_true rfl) (by rw [nl156]; rfl) ?_
  refine n_at nb156_0 hd rfl ⟨hk, ⟨by decide, by decide⟩, fun z => ?_, fun z => h43 _⟩
  refine n_at nb156_17 hd rfl ⟨hk, fun _ => h42, fun z2 => ⟨hk, ⟨by show _ ≤ s.1 46; omega, by show s.1 46 < _; omega⟩, fun _ => h42, fun z3 => ?_⟩⟩
  have z3 : ¬ s.1 46 ≤ k := z3
  exact ⟨⟨by omega, by omega⟩, h43 _⟩
def n_beg (s : nS) : nS := (n_upd (n_upd (n_upd (n_upd (n_upd (n_upd s.1 48 1) 49 0) 50 0) 51 0) 52 0) 53 0, s.2)
theorem ng154 (hd : 6 ≤ d) : NG Z d 154 [xR 25] s (fun r s' => r = none ∧ s' = n_beg s) := by
  refine n_G_of (L := [some (xR 25)]) (by rw [nl154]; exact Nat.le_of_ble_eq_true rfl) (by rw [nl154]; rfl) ?_
  exact n_at nb154_0 hd rfl ⟨rfl, rfl, rfl⟩
theorem ng157 (hd : 6 ≤ d) (hi : 0 ≤ s.1 46 ∧ s.1 46 ≤ 600) : NG Z (d + 1) 157 [xR 25] s (fun _ s' => (s.1 46 = 0 ∧ s' = (n_upd s.1 0 0, s.2)) ∨ (¬ s.1 46 = 0 ∧ s' = n_beg (n_upd s.1 0 0, s.2))) := by
  refine n_G_of (L := [some (xR 25)]) (by rw [nl157]; exact Nat.le_of_ble_eq_true rfl) (by rw [nl157]; rfl) ?_
  refine n_at nb157_0 (by omega) rfl ⟨⟨by show _ ≤ s.1 46; omega, by show s.1 46 < _; omega⟩, fun z => ?_, fun z => ⟨Or.inl rfl, Or.inl ⟨z, rfl⟩⟩⟩
  refine n_at nb157_14 (by omega) rfl ?_
  refine n_iv (vs := [xR 25]) (r := []) nn154 (by simp) rfl nc154 (ng154 hd) (fun r s' hr => ?_)
  rw [hr.1, hr.2]
  exact ⟨Or.inr rfl, Or.inr ⟨z, rfl⟩⟩
theorem ng163 {k : Int} (hd : 6 ≤ d) (hk : n_rng k) : NG Z d 163 [xR 25, xI k] s (fun _ s' => s' = (n_upd s.1 0 0, s.2)) := by
  refine n_G_of (L := [some (xR 25), some (xI k)]) (by rw [nl163]; exact Nat.le_of_ble_eq_true rfl) (by rw [nl163]; rfl) ?_
  refine n_at nb163_0 hd rfl ⟨hk, ⟨by decide, by decide⟩, fun _ => n_at nb163_44 hd rfl rfl, fun _ => ⟨⟨by decide, by decide⟩, fun _ => n_at nb163_49 hd rfl rfl, fun _ => ⟨⟨by decide, by decide⟩, fun _ => n_at nb163_54 hd rfl rfl, fun _ => ⟨⟨by decide, by decide⟩, fun _ => n_at nb163_59 hd rfl rfl, fun _ => ⟨⟨by decide, by decide⟩, fun _ => n_at nb163_64 hd rfl rfl, fun _ => ⟨⟨by decide, by decide⟩, fun _ => n_at nb163_69 hd rfl rfl, fun _ => n_at nb163_74 hd rfl rfl⟩⟩⟩⟩⟩⟩
theorem ng164 {k : Int} (hd : 6 ≤ d) (hk : n_rng k) (ht : 0 ≤ s.1 51 ∧ s.1 51 ≤ 120) : NG Z d 164 [xR 25, xI k] s (fun _ s' => s' = (n_upd s.1 0 0, s.2)) := by
  have h27 : ∀ y : Int, NP Z d 164 27 [some (xR 25), some (xI k)] [xI y] (n_upd s.1 0 0, s.2) (fun _ s' => s' = (n_upd s.1 0 0, s.2)) := fun y => n_at nb164_27 hd rfl rfl
  have h26 : NP Z d 164 26 [some (xR 25), some (xI k)] [] (n_upd s.1 0 0, s.2) (fun _ s' => s' = (n_upd s.1 0 0, s.2)) := n_at nb164_26 hd rfl (h27 _)
  refine n_G_of (L := [some (xR 25), some (xI k)]) (by rw [nl164]; exact Nat.le_of_ble_eq_true rfl) (by rw [nl164]; rfl) ?_
  refine n_at nb164_0 hd rfl ⟨hk, fun _ => h26, fun z => ⟨hk, ⟨by show _ ≤ s.1 51; omega, by show s.1 51 < _; omega⟩, fun _ => h26, fun z2 => ?_⟩⟩
  have z2 : ¬ s.1 51 ≤ k := z2
  exact ⟨⟨by omega, by omega⟩, h27 _⟩
theorem ng165 (hd : 6 ≤ d) (ht : 0 ≤ s.1 51 ∧ s.1 51 ≤ 120) : NG Z d 165 [xR 25] s (fun _ s' => s' = (n_upd s.1 0 0, s.2)) := by
  have h27 : ∀ y : Int, NP Z d 165 27 [some (xR 25)] [xI y] (n_upd s.1 0 0, s.2) (fun _ s' => s' = (n_upd s.1 0 0, s.2)) := fun y => n_at nb165_27 hd rfl rfl
  refine n_G_of (L := [some (xR 25)]) (by rw [nl165]; exact Nat.le_of_ble_eq_true rfl) (by rw [nl165]; rfl) ?_
  refine n_at nb165_0 hd rfl ⟨⟨by show _ ≤ s.1 51; omega, by show s.1 51 < _; omega⟩, fun _ => n_at nb165_26 hd rfl (h27 _), fun z => ?_⟩
  have z : ¬ s.1 51 ≤ 0 := z
  exact ⟨⟨by show 0 ≤ s.1 51 - 1; omega, by show s.1 51 - 1 < 120; omega⟩, h27 _⟩
def n_pl (s : nS) (k : Int) : Int := n_or (n_shl (s.2 54 k.toNat % 256) 8) (s.2 54 (k + 1).toNat % 256)
theorem ng160 {k : Int} (hd : 6 ≤ d) (hk : 0 ≤ k ∧ k < 599) : NG Z d 160 [xR 25, xI k] s (fun r s' => r = some (n_pl s k) ∧ s' = s) := by
  refine n_G_of (L := [some (xR 25), some (xI k)]) (by rw [nl160]; exact Nat.le_of_ble_eq_true rfl) (by rw [nl160]; rfl) ?_
  exact n_at nb160_0 hd rfl ⟨⟨by omega, by omega⟩, ⟨by omega, by omega⟩, rfl, rfl⟩
theorem ng161 {v : Int} (hd : 6 ≤ d) (ht : 0 ≤ s.1 51 ∧ s.1 51 < 120) : NG Z d 161 [xR 25, xI v] s (fun r s' => r = none ∧ s' = (n_upd s.1 51 (s.1 51 + 1), n_updA s.2 55 (s.1 51).toNat v)) := by
  refine n_G_of (L := [some (xR 25), some (xI v)]) (by rw [nl161]; exact Nat.le_of_ble_eq_true rfl) (by rw [nl161]; rfl) ?_
  exact n_at nb161_0 hd rfl ⟨ht, rfl, rfl, rfl⟩
theorem ng152 {k v : Int} (hd : 6 ≤ d) (hk : 0 ≤ k ∧ k < 599) : NG Z d 152 [xR 25, xI k, xI v] s (fun r s' => r = none ∧ s' = (s.1, n_updA (n_updA s.2 54 k.toNat (n_by (n_shr v 8))) 54 (k + 1).toNat (n_by v))) := by
  refine n_G_of (L := [some (xR 25), some (xI k), some (xI v)]) (by rw [nl152]; exact Nat.le_of_ble_eq_true rfl) (by rw [nl152]; rfl) ?_
  exact n_at nb152_0 hd rfl ⟨⟨by omega, by omega⟩, ⟨by omega, by omega⟩, rfl, rfl, rfl⟩
end N19
end
section
/-! THE REFERENCE'S MACHINE. D: how high the stack stands above its frame where a step begins (below 0: no step begins there); K: the place is a function's -/
def n_IVp (s : nS) (D : Nat → Int) (K : Nat → Bool) (p : Nat) : Prop :=
  (s.2 54 p = 0 ∧ (p : Int) + 3 < s.1 46 ∧ D (p + 3) = D p + 1 ∧ K (p + 3) = K p) ∨
  (s.2 54 p = 1 ∧ (p : Int) + 2 < s.1 46 ∧ s.2 54 (p + 1) % 256 < D p ∧ D (p + 2) = D p + 1 ∧ K (p + 2) = K p) ∨
  ((2 ≤ s.2 54 p ∧ s.2 54 p ≤ 6) ∧ (p : Int) + 1 < s.1 46 ∧ 2 ≤ D p ∧ D (p + 1) = D p - 1 ∧ K (p + 1) = K p) ∨
  (s.2 54 p = 7 ∧ (p : Int) + 2 < s.1 46 ∧ (0 ≤ n_pl s (p + 1) ∧ n_pl s (p + 1) < s.1 46) ∧ D (n_pl s (p + 1)).toNat = D p ∧ K (n_pl s (p + 1)).toNat = K p) ∨
  (s.2 54 p = 8 ∧ (p : Int) + 3 < s.1 46 ∧ 1 ≤ D p ∧ (D (p + 3) = D p - 1 ∧ K (p + 3) = K p) ∧ (0 ≤ n_pl s (p + 1) ∧ n_pl s (p + 1) < s.1 46) ∧ D (n_pl s (p + 1)).toNat = D p - 1 ∧ K (n_pl s (p + 1)).toNat = K p) ∨
  (s.2 54 p = 9 ∧ (p : Int) + 1 < s.1 46 ∧ 2 ≤ D p ∧ D (p + 1) = D p - 1 ∧ K (p + 1) = K p) ∨
  (s.2 54 p = 10 ∧ (p : Int) + 1 < s.1 46 ∧ 1 ≤ D p ∧ D (p + 1) = D p - 1 ∧ K (p + 1) = K p) ∨
  (s.2 54 p = 11 ∧ (p : Int) + 2 < s.1 46 ∧ 1 ≤ D p ∧ s.2 54 (p + 1) % 256 < D p ∧ D (p + 2) = D p ∧ K (p + 2) = K p) ∨
  (s.2 54 p = 12 ∧ (p : Int) + 4 < s.1 46 ∧ s.2 54 (p + 3) % 256 ≤ D p ∧ (D (p + 4) = D p + 1 - s.2 54 (p + 3) % 256 ∧ K (p + 4) = K p) ∧ (0 ≤ n_pl s (p + 1) ∧ n_pl s (p + 1) < s.1 46) ∧ D (n_pl s (p + 1)).toNat = s.2 54 (p + 3) % 256 ∧ K (n_pl s (p + 1)).toNat = true) ∨
  (s.2 54 p = 13 ∧ (p : Int) + 1 < s.1 46 ∧ 1 ≤ D p ∧ K p = true) ∨
  s.2 54 p = 14
def n_IV (s : nS) (D : Nat → Int) (K : Nat → Bool) : Prop := (0 ≤ s.1 46 ∧ s.1 46 ≤ 600) ∧ (∀ p : Nat, (p : Int) < s.1 46 → 0 ≤ D p → n_IVp s D K p)
def n_CF (s : nS) (D : Nat → Int) (K : Nat → Bool) (i : Nat) : Prop := (0 ≤ s.2 57 i ∧ s.2 57 i < s.1 46) ∧ 0 ≤ s.2 56 i ∧ 0 ≤ D (s.2 57 i).toNat ∧ s.2 56 i + D (s.2 57 i).toNat = (if (i : Int) + 1 < s.1 52 then s.2 56 (i + 1) else s.1 50) + 1 ∧ (K (s.2 57 i).toNat = true → 1 ≤ i)
def n_RR (s : nS) (D : Nat → Int) (K : Nat → Bool) : Prop := (0 ≤ s.1 49 ∧ s.1 49 < s.1 46) ∧ 0 ≤ D (s.1 49).toNat ∧ s.1 51 = s.1 50 + D (s.1 49).toNat ∧ 0 ≤ s.1 50 ∧ (0 ≤ s.1 52 ∧ s.1 52 ≤ 24) ∧ (K (s.1 49).toNat = true → 1 ≤ s.1 52) ∧ (∀ i : Nat, (i : Int) < s.1 52 → n_CF s D K i)
def n_RS (s : nS) (D : Nat → Int) (K : Nat → Bool) : Prop := (0 ≤ s.1 51 ∧ s.1 51 ≤ 120) ∧ (∀ i, n_rng (s.2 55 i)) ∧ n_rng (s.1 48) ∧ (s.1 48 = 1 → n_RR s D K)
/-- what a step leaves -/
def n_SP (s : nS) (D : Nat → Int) (K : Nat → Bool) (s' : nS) : Prop := n_RS s' D K ∧ (∀ k, ¬ (48 ≤ k ∧ k ≤ 53) → s'.1 k = s.1 k) ∧ (∀ a i, ¬ (55 ≤ a ∧ a ≤ 57) → s'.2 a i = s.2 a i)
def n_fin (t : nS) (g : Int) : nS := (n_upd (n_upd t.1 49 g) 53 (t.1 53 + 1), t.2)
/-- a step that goes on to g, its calls the same -/
theorem n_SP_go {s t : nS} {D : Nat → Int} {K : Nat → Bool} {g : Int} (h : n_RS s D K) (h1 : s.1 48 = 1) (t1 : ∀ k, k ≠ 51 → t.1 k = s.1 k) (t2 : ∀ a i, a ≠ 55 → t.2 a i = s.2 a i) (t3 : ∀ i, n_rng (t.2 55 i)) (g1 : 0 ≤ g ∧ g < s.1 46) (g2 : 0 ≤ D g.toNat) (g3 : t.1 51 = s.1 50 + D g.toNat) (g4 : t.1 51 ≤ 120) (g5 : K g.toNat = K (s.1 49).toNat) : n_SP s D K (n_fin t g) := by
  obtain ⟨a1, a2, a3, a4⟩ := h
  obtain ⟨b1, b2, b3, b4, b5, b6, b7⟩ := a4 h1
  have e49 : (n_fin t g).1 49 = g := rfl
  have ek : ∀ k, k ≠ 49 ∧ k ≠ 53 → (n_fin t g).1 k = t.1 k := fun k hk => by
    show n_upd (n_upd t.1 49 g) 53 _ k = _
    rw [n_u_ne hk.2, n_u_ne hk.1]
  have e51 := ek 51 (by decide)
  have e46 := (ek 46 (by decide)).trans (t1 46 (by decide))
  have e48 := (ek 48 (by decide)).trans (t1 48 (by decide))
  have e50 := (ek 50 (by decide)).trans (t1 50 (by decide))
  have e52 := (ek 52 (by decide)).trans (t1 52 (by decide))
  have eA : ∀ a i, (n_fin t g).2 a i = t.2 a i := fun _ _ => rfl
  refine ⟨⟨by rw [e51]; omega, fun i => t3 i, by rw [e48]; exact a3, fun _ => ?_⟩, fun k hk => ?_, fun a i ha => t2 a i (by omega)⟩
  · refine ⟨by rw [e49, e46]; exact g1, by rw [e49]; exact g2, by rw [e51, e50, e49]; exact g3, by rw [e50]; exact b4, by rw [e52]; exact b5, fun hk => ?_, fun i hi => ?_⟩
    · rw [e49, g5] at hk
      rw [e52]
      exact b6 hk
    · rw [e52] at hi
      have c := b7 i hi
      unfold n_CF at c ⊢
      rw [eA, eA, eA, e46, e50, e52, t2 57 i (by decide), t2 56 i (by decide), t2 56 (i + 1) (by decide)]
      exact c
  · rw [ek k (by omega)]
    exact t1 k (by omega)
section N20
variable {Z : Nat → List Int32} {d : Nat} {s : nS}
/-- the same numbers -/
theorem n_same {mi pc : Nat} {L : nL} {st : List nV} {x y : Int} {Post : nA → nS → Prop} (h : Int32.ofInt x = Int32.ofInt y) (hP : NP Z d mi pc L (xI y :: st) s Post) : NP Z d mi pc L (xI x :: st) s Post := by
  intro F T q hF
  have := hP F T q hF
  unfold ngS at this ⊢
  rw [List.map_cons] at this ⊢
  have e : ng (xI x) = ng (xI y) := by show vI (Int32.ofInt x) = vI (Int32.ofInt y); rw [h]
  rw [e]
  exact this
theorem ng162 {op : Int} (hd : 6 ≤ d) (ho : n_rng op) (ht : 2 ≤ s.1 51 ∧ s.1 51 ≤ 120) (hs : ∀ i, n_rng (s.2 55 i)) : NG Z d 162 [xR 25, xI op] s (fun r s' => r = none ∧ ∃ v, n_rng v ∧ s' = (n_upd s.1 51 (s.1 51 - 1), n_updA s.2 55 (s.1 51 - 2).toNat v)) := by
  have h100 : ∀ (v x y : Int), NP Z d 162 100 [some (xR 25), some (xI op), some (xI y), some (xI x)] [xI v, xI (s.1 51 - 1 - 1), xR 55] (n_upd s.1 51 (s.1 51 - 1), s.2) (fun r s' => r = none ∧ ∃ v, n_rng v ∧ s' = (n_upd s.1 51 (s.1 51 - 1), n_updA s.2 55 (s.1 51 - 2).toNat v)) := fun v x y => by
    refine n_same (y := (Int32.ofInt v).toInt) (n_back _).symm ?_
    refine n_at nb162_100 hd rfl ⟨⟨by omega, by omega⟩, rfl, rfl, _, n_rng_toInt (Int32.ofInt v), ?_⟩
    rw [show s.1 51 - 1 - 1 = s.1 51 - 2 from by omega]
  have h95 : ∀ (x y : Int), NP Z d 162 95 [some (xR 25), some (xI op), some (xI y), some (xI x)] [xI (s.1 51 - 1 - 1), xR 55] (n_upd s.1 51 (s.1 51 - 1), s.2) (fun r s' => r = none ∧ ∃ v, n_rng v ∧ s' = (n_upd s.1 51 (s.1 51 - 1), n_updA s.2 55 (s.1 51 - 2).toNat v)) := fun x y => n_at nb162_95 hd rfl (h100 1 x y)
  have h99 : ∀ (x y : Int), NP Z d 162 99 [some (xR 25), some (xI op), some (xI y), some (xI x)] [xI (s.1 51 - 1 - 1), xR 55] (n_upd s.1 51 (s.1 51 - 1), s.2) (fun r s' => r = none ∧ ∃ v, n_rng v ∧ s' = (n_upd s.1 51 (s.1 51 - 1), n_updA s.2 55 (s.1 51 - 2).toNat v)) := fun x y => n_at nb162_99 hd rfl (h100 0 x y)
  refine n_G_of (L := [some (xR 25), some (xI op), none, none]) (by rw [nl162]; exact Nat.le_of_ble_eq_true rfl) (by rw [nl162]; rfl) ?_
  refine n_at nb162_0 hd rfl ⟨⟨by omega, by omega⟩, ⟨by omega, by omega⟩, ho, ⟨by decide, by decide⟩, fun _ => ?_, fun _ => h100 _ _ _⟩
  refine n_at nb162_55 hd rfl ⟨ho, ⟨by decide, by decide⟩, fun _ => ?_, fun _ => h100 _ _ _⟩
  refine n_at nb162_66 hd rfl ⟨ho, ⟨by decide, by decide⟩, fun _ => ?_, fun _ => h100 _ _ _⟩
  refine n_at nb162_77 hd rfl ⟨ho, ⟨by decide, by decide⟩, fun _ => ?_, fun _ => ⟨hs _, hs _, fun _ => h99 _ _, fun _ => h95 _ _⟩⟩
  exact n_at nb162_90 hd rfl ⟨hs _, hs _, fun _ => h99 _ _, fun _ => h95 _ _⟩
end N20
end
section
/-! ONE STEP OF THE REFERENCE'S MACHINE -/
def n_L4 (op arg go : Int) : nL := [some (xR 25), some (xI op), some (xI arg), some (xI go)]
section N21
variable {Z : Nat → List Int32} {d : Nat} {s : nS} {D : Nat → Int} {K : Nat → Bool} {op arg go : Int}
theorem n_st486 {t : nS} (hd : 6 ≤ d) (h : n_SP s D K (n_fin t go)) : NP Z (d + 1) 159 486 (n_L4 op arg go) [] t (fun r s' => r = none ∧ n_SP s D K s') := n_at nb159_486 (by omega) rfl ⟨rfl, rfl, h⟩
theorem n_rng_u {A : Nat → Nat → Int} {i : Nat} {v : Int} (h : ∀ j, n_rng (A 55 j)) (hv : n_rng v) : ∀ j, n_rng (n_updA A 55 i v 55 j) := fun j => by
  rw [n_ua_eq]
  split
  · exact hv
  · exact h j
theorem n_P1 (h : 0 ≤ s.1 49) (k : Nat) : (s.1 49 + k).toNat = (s.1 49).toNat + k := by omega
theorem n_st168 (hd : 6 ≤ d) (hI : s.1 46 ≤ 600) (hR : n_RS s D K) (h1 : s.1 48 = 1) (ht : s.1 51 < 120) (f1 : s.1 49 + 3 < s.1 46) (f2 : D ((s.1 49).toNat + 3) = D (s.1 49).toNat + 1) (f3 : K ((s.1 49).toNat + 3) = K (s.1 49).toNat) (hg : go = s.1 49 + 3) : NP Z (d + 1) 159 168 (n_L4 op arg go) [] s (fun r s' => r = none ∧ n_SP s D K s') := by
  obtain ⟨a1, a2, a3, a4⟩ := id hR
  obtain ⟨b1, b2, b3, b4, b5, b6, b7⟩ := a4 h1
  have e := n_P1 b1.1 3
  refine n_at nb159_168 (by omega) rfl ?_
  refine n_iv (vs := [xR 25, xI (s.1 49 + 1)]) (r := [xR 25]) nn160 (by simp) rfl nc160 (ng160 hd ⟨by omega, by omega⟩) (fun r s' hr => ?_)
  rw [hr.1, hr.2]
  refine n_iv (vs := [xR 25, xI (n_i2s (n_pl s (s.1 49 + 1)))]) (r := []) nn161 (by simp) rfl nc161 (ng161 hd ⟨by omega, by omega⟩) (fun r s' hr => ?_)
  rw [hr.1, hr.2]
  refine n_st486 hd (n_SP_go hR h1 (fun k hk => n_u_ne hk) (fun a i ha => n_ua_ne ha) (n_rng_u a2 (n_rng_toInt _)) ⟨by omega, by omega⟩ ?_ ?_ ?_ ?_)
  · rw [hg]; show 0 ≤ D (s.1 49 + (3 : Nat)).toNat; rw [e, f2]; omega
  · rw [hg]; show s.1 51 + 1 = s.1 50 + D (s.1 49 + (3 : Nat)).toNat; rw [e, f2]; omega
  · show s.1 51 + 1 ≤ 120; omega
  · rw [hg]; show K (s.1 49 + (3 : Nat)).toNat = _; rw [e, f3]
theorem n_st186 (hd : 6 ≤ d) (hI : s.1 46 ≤ 600) (hR : n_RS s D K) (h1 : s.1 48 = 1) (ht : s.1 51 < 120) (f1 : s.1 49 + 2 < s.1 46) (f0 : 0 ≤ arg ∧ arg < D (s.1 49).toNat) (f2 : D ((s.1 49).toNat + 2) = D (s.1 49).toNat + 1) (f3 : K ((s.1 49).toNat + 2) = K (s.1 49).toNat) (hg : go = s.1 49 + 2) : NP Z (d + 1) 159 186 (n_L4 op arg go) [] s (fun r s' => r = none ∧ n_SP s D K s') := by
  obtain ⟨a1, a2, a3, a4⟩ := id hR
  obtain ⟨b1, b2, b3, b4, b5, b6, b7⟩ := a4 h1
  have e := n_P1 b1.1 2
  refine n_at nb159_186 (by omega) rfl ⟨⟨by omega, by omega⟩, ?_⟩
  refine n_iv (vs := [xR 25, xI (s.2 55 (s.1 50 + arg).toNat)]) (r := []) nn161 (by simp) rfl nc161 (ng161 hd ⟨by omega, by omega⟩) (fun r s' hr => ?_)
  rw [hr.1, hr.2]
  refine n_st486 hd (n_SP_go hR h1 (fun k hk => n_u_ne hk) (fun a i ha => n_ua_ne ha) (n_rng_u a2 (a2 _)) ⟨by omega, by omega⟩ ?_ ?_ ?_ ?_)
  · rw [hg]; show 0 ≤ D (s.1 49 + (2 : Nat)).toNat; rw [e, f2]; omega
  · rw [hg]; show s.1 51 + 1 = s.1 50 + D (s.1 49 + (2 : Nat)).toNat; rw [e, f2]; omega
  · show s.1 51 + 1 ≤ 120; omega
  · rw [hg]; show K (s.1 49 + (2 : Nat)).toNat = _; rw [e, f3]
theorem n_st481 (hd : 6 ≤ d) (hI : s.1 46 ≤ 600) (ho : n_rng op) (hR : n_RS s D K) (h1 : s.1 48 = 1) (f1 : s.1 49 + 1 < s.1 46) (f0 : 2 ≤ D (s.1 49).toNat) (f2 : D ((s.1 49).toNat + 1) = D (s.1 49).toNat - 1) (f3 : K ((s.1 49).toNat + 1) = K (s.1 49).toNat) (hg : go = s.1 49 + 1) : NP Z (d + 1) 159 481 (n_L4 op arg go) [] s (fun r s' => r = none ∧ n_SP s D K s') := by
  obtain ⟨a1, a2, a3, a4⟩ := id hR
  obtain ⟨b1, b2, b3, b4, b5, b6, b7⟩ := a4 h1
  have e := n_P1 b1.1 1
  refine n_at nb159_481 (by omega) rfl ?_
  refine n_iv (vs := [xR 25, xI op]) (r := []) nn162 (by simp) rfl nc162 (ng162 hd ho ⟨by omega, by omega⟩ a2) (fun r s' hr => ?_)
  obtain ⟨e1, v, hv, e2⟩ := hr
  rw [e1, e2]
  refine n_st486 hd (n_SP_go hR h1 (fun k hk => n_u_ne hk) (fun a i ha => n_ua_ne ha) (n_rng_u a2 hv) ⟨by omega, by omega⟩ ?_ ?_ ?_ ?_)
  · rw [hg]; show 0 ≤ D (s.1 49 + (1 : Nat)).toNat; rw [e, f2]; omega
  · rw [hg]; show s.1 51 - 1 = s.1 50 + D (s.1 49 + (1 : Nat)).toNat; rw [e, f2]; omega
  · show s.1 51 - 1 ≤ 120; omega
  · rw [hg]; show K (s.1 49 + (1 : Nat)).toNat = _; rw [e, f3]
theorem n_st204 (hd : 6 ≤ d) (hI : s.1 46 ≤ 600) (hR : n_RS s D K) (h1 : s.1 48 = 1) (f1 : s.1 49 + 2 < s.1 46) (f0 : 0 ≤ n_pl s (s.1 49 + 1) ∧ n_pl s (s.1 49 + 1) < s.1 46) (f2 : D (n_pl s (s.1 49 + 1)).toNat = D (s.1 49).toNat) (f3 : K (n_pl s (s.1 49 + 1)).toNat = K (s.1 49).toNat) : NP Z (d + 1) 159 204 (n_L4 op arg go) [] s (fun r s' => r = none ∧ n_SP s D K s') := by
  obtain ⟨a1, a2, a3, a4⟩ := id hR
  obtain ⟨b1, b2, b3, b4, b5, b6, b7⟩ := a4 h1
  refine n_at nb159_204 (by omega) rfl ?_
  refine n_iv (vs := [xR 25, xI (s.1 49 + 1)]) (r := []) nn160 (by simp) rfl nc160 (ng160 hd ⟨by omega, by omega⟩) (fun r s' hr => ?_)
  rw [hr.1, hr.2]
  exact n_st486 hd (n_SP_go hR h1 (fun k hk => rfl) (fun a i ha => rfl) a2 f0 (by rw [f2]; exact b2) (by rw [f2]; exact b3) a1.2 f3)
theorem n_st218 (hd : 6 ≤ d) (hI : s.1 46 ≤ 600) (hR : n_RS s D K) (h1 : s.1 48 = 1) (f1 : s.1 49 + 3 < s.1 46) (f4 : 1 ≤ D (s.1 49).toNat) (f0 : 0 ≤ n_pl s (s.1 49 + 1) ∧ n_pl s (s.1 49 + 1) < s.1 46) (f2 : D (n_pl s (s.1 49 + 1)).toNat = D (s.1 49).toNat - 1) (f3 : K (n_pl s (s.1 49 + 1)).toNat = K (s.1 49).toNat) (f5 : D ((s.1 49).toNat + 3) = D (s.1 49).toNat - 1) (f6 : K ((s.1 49).toNat + 3) = K (s.1 49).toNat) (hg : go = s.1 49 + 3) : NP Z (d + 1) 159 218 (n_L4 op arg go) [] s (fun r s' => r = none ∧ n_SP s D K s') := by
  obtain ⟨a1, a2, a3, a4⟩ := id hR
  obtain ⟨b1, b2, b3, b4, b5, b6, b7⟩ := a4 h1
  have e := n_P1 b1.1 3
  have h254 : ∀ g : Int, (0 ≤ g ∧ g < s.1 46) → D g.toNat = D (s.1 49).toNat - 1 → K g.toNat = K (s.1 49).toNat → NP Z (d + 1) 159 254 (n_L4 op arg go) [xI g] (n_upd s.1 51 (s.1 51 - 1), s.2) (fun r s' => r = none ∧ n_SP s D K s') := by
    intro g g1 g2 g3
    refine n_at nb159_254 (by omega) rfl ?_
    refine n_st486 hd (n_SP_go hR h1 (fun k hk => n_u_ne hk) (fun a i ha => rfl) a2 g1 (by rw [g2]; omega) ?_ ?_ g3)
    · show s.1 51 - 1 = _; rw [g2]; omega
    · show s.1 51 - 1 ≤ 120; omega
  refine n_at nb159_218 (by omega) rfl ⟨⟨by show 0 ≤ s.1 51 - 1; omega, by show s.1 51 - 1 < 120; omega⟩, a2 _, fun _ => ?_, fun _ => ?_⟩
  · refine n_at nb159_253 (by omega) rfl (h254 go ⟨by omega, by omega⟩ ?_ ?_)
    · rw [hg]; show D (s.1 49 + (3 : Nat)).toNat = _; rw [e, f5]
    · rw [hg]; show K (s.1 49 + (3 : Nat)).toNat = _; rw [e, f6]
  · refine n_iv (vs := [xR 25, xI (s.1 49 + 1)]) (r := []) nn160 (by simp) rfl nc160 (ng160 (s := (n_upd s.1 51 (s.1 51 - 1), s.2)) hd ⟨by omega, by omega⟩) (fun r s' hr => ?_)
    rw [hr.1, hr.2]
    exact h254 _ f0 f2 f3
theorem n_st258 (hd : 6 ≤ d) (hI : s.1 46 ≤ 600) (hR : n_RS s D K) (h1 : s.1 48 = 1) (f1 : s.1 49 + 1 < s.1 46) (f0 : 2 ≤ D (s.1 49).toNat) (f2 : D ((s.1 49).toNat + 1) = D (s.1 49).toNat - 1) (f3 : K ((s.1 49).toNat + 1) = K (s.1 49).toNat) (hg : go = s.1 49 + 1) : NP Z (d + 1) 159 258 (n_L4 op arg go) [] s (fun r s' => r = none ∧ n_SP s D K s') := by
  obtain ⟨a1, a2, a3, a4⟩ := id hR
  obtain ⟨b1, b2, b3, b4, b5, b6, b7⟩ := a4 h1
  have e := n_P1 b1.1 1
  refine n_at nb159_258 (by omega) rfl ⟨⟨by omega, by omega⟩, ⟨by omega, by omega⟩, ?_⟩
  refine n_st486 hd (n_SP_go (t := (n_upd s.1 51 (s.1 51 - 1), n_updA s.2 55 (s.1 51 - 2).toNat (s.2 55 (s.1 51 - 1).toNat))) hR h1 (fun k hk => n_u_ne hk) (fun a i ha => n_ua_ne ha) (n_rng_u a2 (a2 _)) ⟨by omega, by omega⟩ ?_ ?_ ?_ ?_)
  · rw [hg]; show 0 ≤ D (s.1 49 + (1 : Nat)).toNat; rw [e, f2]; omega
  · rw [hg]; show s.1 51 - 1 = s.1 50 + D (s.1 49 + (1 : Nat)).toNat; rw [e, f2]; omega
  · show s.1 51 - 1 ≤ 120; omega
  · rw [hg]; show K (s.1 49 + (1 : Nat)).toNat = _; rw [e, f3]
theorem n_st293 (hd : 6 ≤ d) (hI : s.1 46 ≤ 600) (hR : n_RS s D K) (h1 : s.1 48 = 1) (f1 : s.1 49 + 1 < s.1 46) (f0 : 1 ≤ D (s.1 49).toNat) (f2 : D ((s.1 49).toNat + 1) = D (s.1 49).toNat - 1) (f3 : K ((s.1 49).toNat + 1) = K (s.1 49).toNat) (hg : go = s.1 49 + 1) : NP Z (d + 1) 159 293 (n_L4 op arg go) [] s (fun r s' => r = none ∧ n_SP s D K s') := by
  obtain ⟨a1, a2, a3, a4⟩ := id hR
  obtain ⟨b1, b2, b3, b4, b5, b6, b7⟩ := a4 h1
  have e := n_P1 b1.1 1
  refine n_at nb159_293 (by omega) rfl ?_
  refine n_st486 hd (n_SP_go (t := (n_upd s.1 51 (s.1 51 - 1), s.2)) hR h1 (fun k hk => n_u_ne hk) (fun a i ha => rfl) a2 ⟨by omega, by omega⟩ ?_ ?_ ?_ ?_)
  · rw [hg]; show 0 ≤ D (s.1 49 + (1 : Nat)).toNat; rw [e, f2]; omega
  · rw [hg]; show s.1 51 - 1 = s.1 50 + D (s.1 49 + (1 : Nat)).toNat; rw [e, f2]; omega
  · show s.1 51 - 1 ≤ 120; omega
  · rw [hg]; show K (s.1 49 + (1 : Nat)).toNat = _; rw [e, f3]
theorem n_st306 (hd : 6 ≤ d) (hI : s.1 46 ≤ 600) (hR : n_RS s D K) (h1 : s.1 48 = 1) (f1 : s.1 49 + 2 < s.1 46) (f4 : 1 ≤ D (s.1 49).toNat) (f0 : 0 ≤ arg ∧ arg < D (s.1 49).toNat) (f2 : D ((s.1 49).toNat + 2) = D (s.1 49).toNat) (f3 : K ((s.1 49).toNat + 2) = K (s.1 49).toNat) (hg : go = s.1 49 + 2) : NP Z (d + 1) 159 306 (n_L4 op arg go) [] s (fun r s' => r = none ∧ n_SP s D K s') := by
  obtain ⟨a1, a2, a3, a4⟩ := id hR
  obtain ⟨b1, b2, b3, b4, b5, b6, b7⟩ := a4 h1
  have e := n_P1 b1.1 2
  refine n_at nb159_306 (by omega) rfl ⟨⟨by omega, by omega⟩, ⟨by omega, by omega⟩, ?_⟩
  refine n_st486 hd (n_SP_go (t := (s.1, n_updA s.2 55 (s.1 50 + arg).toNat (s.2 55 (s.1 51 - 1).toNat))) hR h1 (fun k hk => rfl) (fun a i ha => n_ua_ne ha) (n_rng_u a2 (a2 _)) ⟨by omega, by omega⟩ ?_ ?_ a1.2 ?_)
  · rw [hg]; show 0 ≤ D (s.1 49 + (2 : Nat)).toNat; rw [e, f2]; omega
  · rw [hg]; show s.1 51 = s.1 50 + D (s.1 49 + (2 : Nat)).toNat; rw [e, f2]; omega
  · rw [hg]; show K (s.1 49 + (2 : Nat)).toNat = _; rw [e, f3]
end N21
end
section
/-! A STEP: calls, returns, ends; and which it is -/
section N22
variable {Z : Nat → List Int32} {d : Nat} {s : nS} {D : Nat → Int} {K : Nat → Bool} {op arg go : Int}
theorem n_SP_off {s' : nS} {v : Int} (hR : n_RS s D K) (hv : n_rng v ∧ ¬ v = 1) (e48 : s'.1 48 = v) (e1 : ∀ k, ¬ (k = 48 ∨ k = 49 ∨ k = 53) → s'.1 k = s.1 k) (e2 : ∀ a i, s'.2 a i = s.2 a i) : n_SP s D K s' := by
  obtain ⟨a1, a2, a3, a4⟩ := hR
  refine ⟨⟨by rw [e1 51 (by decide)]; exact a1, fun i => by rw [e2]; exact a2 i, by rw [e48]; exact hv.1, fun h => absurd (e48.symm.trans h) hv.2⟩, fun k hk => e1 k (by omega), fun a i _ => e2 a i⟩
theorem n_st76 {L : nL} (hL : L[0]? = some (some (xR 25))) (hd : 6 ≤ d) (hR : n_RS s D K) : NP Z (d + 1) 159 76 L [] s (fun r s' => r = none ∧ n_SP s D K s') := by
  obtain _ | ⟨x, L⟩ := L
  · cases hL
  · simp only [List.getElem?_cons_zero, Option.some.injEq] at hL
    subst hL
    refine n_at nb159_76 (by omega) rfl ⟨rfl, rfl, n_SP_off (v := 3) hR ⟨⟨by decide, by decide⟩, by decide⟩ rfl (fun k hk => ?_) (fun _ _ => rfl)⟩
    exact n_u_ne (by omega)
theorem n_st468 (hd : 6 ≤ d) (hR : n_RS s D K) : NP Z (d + 1) 159 468 (n_L4 op arg go) [] s (fun r s' => r = none ∧ n_SP s D K s') := by
  refine n_at nb159_468 (by omega) rfl ?_
  refine n_st486 (go := s.1 49) hd (n_SP_off (v := 2) hR ⟨⟨by decide, by decide⟩, by decide⟩ rfl (fun k hk => ?_) (fun _ _ => rfl))
  show n_upd (n_upd (n_upd s.1 48 2) 49 (s.1 49)) 53 _ k = _
  rw [n_u_ne (by omega), n_u_ne (by omega), n_u_ne (by omega)]
theorem n_st331 (hd : 6 ≤ d) (hI : s.1 46 ≤ 600) (hR : n_RS s D K) (h1 : s.1 48 = 1) (hc : ¬ s.1 52 = 24) (f1 : s.1 49 + 4 < s.1 46) (f4 : s.2 54 ((s.1 49).toNat + 3) % 256 ≤ D (s.1 49).toNat) (f0 : 0 ≤ n_pl s (s.1 49 + 1) ∧ n_pl s (s.1 49 + 1) < s.1 46) (f2 : D (n_pl s (s.1 49 + 1)).toNat = s.2 54 ((s.1 49).toNat + 3) % 256) (f3 : K (n_pl s (s.1 49 + 1)).toNat = true) (f5 : D ((s.1 49).toNat + 4) = D (s.1 49).toNat + 1 - s.2 54 ((s.1 49).toNat + 3) % 256) (f6 : K ((s.1 49).toNat + 4) = K (s.1 49).toNat) (hg : go = s.1 49 + 4) : NP Z (d + 1) 159 331 (n_L4 op arg go) [] s (fun r s' => r = none ∧ n_SP s D K s') := by
  obtain ⟨a1, a2, a3, a4⟩ := id hR
  obtain ⟨b1, b2, b3, b4, b5, b6, b7⟩ := a4 h1
  have e3 : (s.1 49 + 3).toNat = (s.1 49).toNat + 3 := by omega
  have e4 : go.toNat = (s.1 49).toNat + 4 := by omega
  rw [← e3] at f4 f2 f5
  have hy : 0 ≤ s.2 54 (s.1 49 + 3).toNat % 256 := by omega
  generalize hyy : s.2 54 (s.1 49 + 3).toNat % 256 = y at f4 f2 f5 hy
  refine n_at nb159_331 (by omega) rfl ⟨⟨b5.1, by omega⟩, ⟨b5.1, by show s.1 52 < 24; omega⟩, ⟨by show 0 ≤ s.1 49 + 3; omega, by show s.1 49 + 3 < 600; omega⟩, ?_⟩
  show wq _ _ _ _ _ [xI (s.1 49 + 1), xR 25] (n_upd (n_upd s.1 52 (s.1 52 + 1)) 50 (s.1 51 - s.2 54 (s.1 49 + 3).toNat % 256), n_updA (n_updA s.2 56 (s.1 52).toNat (s.1 50)) 57 (s.1 52).toNat go)
  rw [hyy]
  refine n_iv (vs := [xR 25, xI (s.1 49 + 1)]) (r := []) nn160 (by simp) rfl nc160 (ng160 hd ⟨by omega, by omega⟩) (fun r s' hr => ?_)
  rw [hr.1, hr.2]
  have epl : n_pl (n_upd (n_upd s.1 52 (s.1 52 + 1)) 50 (s.1 51 - y), n_updA (n_updA s.2 56 (s.1 52).toNat (s.1 50)) 57 (s.1 52).toNat go) (s.1 49 + 1) = n_pl s (s.1 49 + 1) := rfl
  rw [epl]
  refine n_st486 (go := n_pl s (s.1 49 + 1)) hd ?_
  generalize n_pl s (s.1 49 + 1) = g at f0 f2 f3
  have k46 : (n_fin (n_upd (n_upd s.1 52 (s.1 52 + 1)) 50 (s.1 51 - y), n_updA (n_updA s.2 56 (s.1 52).toNat (s.1 50)) 57 (s.1 52).toNat go) g).1 46 = s.1 46 := rfl
  have k50 : (n_fin (n_upd (n_upd s.1 52 (s.1 52 + 1)) 50 (s.1 51 - y), n_updA (n_updA s.2 56 (s.1 52).toNat (s.1 50)) 57 (s.1 52).toNat go) g).1 50 = s.1 51 - y := rfl
  have k52 : (n_fin (n_upd (n_upd s.1 52 (s.1 52 + 1)) 50 (s.1 51 - y), n_updA (n_updA s.2 56 (s.1 52).toNat (s.1 50)) 57 (s.1 52).toNat go) g).1 52 = s.1 52 + 1 := rfl
  have k56 : ∀ i, (n_fin (n_upd (n_upd s.1 52 (s.1 52 + 1)) 50 (s.1 51 - y), n_updA (n_updA s.2 56 (s.1 52).toNat (s.1 50)) 57 (s.1 52).toNat go) g).2 56 i = if i = (s.1 52).toNat then s.1 50 else s.2 56 i := fun i => by
    show n_updA (n_updA s.2 56 (s.1 52).toNat (s.1 50)) 57 (s.1 52).toNat go 56 i = _
    rw [n_ua_ne (by decide), n_ua_eq]
  have k57 : ∀ i, (n_fin (n_upd (n_upd s.1 52 (s.1 52 + 1)) 50 (s.1 51 - y), n_updA (n_updA s.2 56 (s.1 52).toNat (s.1 50)) 57 (s.1 52).toNat go) g).2 57 i = if i = (s.1 52).toNat then go else s.2 57 i := fun i => by
    show n_updA (n_updA s.2 56 (s.1 52).toNat (s.1 50)) 57 (s.1 52).toNat go 57 i = _
    rw [n_ua_eq, n_ua_ne (by decide)]
  refine ⟨⟨a1, fun i => ?_, a3, fun _ => ⟨f0, ?_, ?_, ?_, ?_, fun _ => ?_, fun i hi => ?_⟩⟩, fun k hk => ?_, fun a i ha => ?_⟩
  · show n_rng (n_updA (n_updA s.2 56 (s.1 52).toNat (s.1 50)) 57 (s.1 52).toNat go 55 i)
    rw [n_ua_ne (by decide), n_ua_ne (by decide)]
    exact a2 i
  · show 0 ≤ D g.toNat; omega
  · show s.1 51 = s.1 51 - y + D g.toNat; omega
  · show 0 ≤ s.1 51 - y; omega
  · show 0 ≤ s.1 52 + 1 ∧ s.1 52 + 1 ≤ 24; omega
  · show 1 ≤ s.1 52 + 1; omega
  · rw [k52] at hi
    unfold n_CF
    rw [k46, k50, k52, k56, k56, k57]
    by_cases hq : i = (s.1 52).toNat
    · subst hq
      rw [if_pos rfl, if_pos rfl, if_neg (by omega), e4, f5, f6]
      exact ⟨⟨by omega, by omega⟩, by omega, by omega, by omega, fun h => by have := b6 h; omega⟩
    · have c := b7 i (by omega)
      unfold n_CF at c
      obtain ⟨c1, c2, c3, c4, c5⟩ := c
      rw [if_neg hq, if_neg hq, if_pos (by omega)]
      refine ⟨c1, c2, c3, ?_, c5⟩
      by_cases hz : i + 1 = (s.1 52).toNat
      · rw [if_pos hz]
        rw [if_neg (by omega)] at c4
        exact c4
      · rw [if_neg hz]
        rw [if_pos (by omega)] at c4
        exact c4
  · show n_upd (n_upd (n_upd (n_upd s.1 52 _) 50 _) 49 g) 53 _ k = _
    rw [n_u_ne (by omega), n_u_ne (by omega), n_u_ne (by omega), n_u_ne (by omega)]
  · show n_updA (n_updA s.2 56 (s.1 52).toNat (s.1 50)) 57 (s.1 52).toNat go a i = _
    rw [n_ua_ne (by omega), n_ua_ne (by omega)]
theorem n_st402 (hd : 6 ≤ d) (hI : s.1 46 ≤ 600) (hR : n_RS s D K) (h1 : s.1 48 = 1) (f4 : 1 ≤ D (s.1 49).toNat) (f3 : K (s.1 49).toNat = true) : NP Z (d + 1) 159 402 (n_L4 op arg go) [] s (fun r s' => r = none ∧ n_SP s D K s') := by
  obtain ⟨a1, a2, a3, a4⟩ := id hR
  obtain ⟨b1, b2, b3, b4, b5, b6, b7⟩ := a4 h1
  have hc := b6 f3
  have c := b7 (s.1 52 - 1).toNat (by omega)
  unfold n_CF at c
  obtain ⟨c1, c2, c3, c4, c5⟩ := c
  rw [if_neg (by omega)] at c4
  refine n_at nb159_402 (by omega) rfl ⟨⟨by omega, by omega⟩, ⟨by omega, by omega⟩, ⟨by show 0 ≤ s.1 52 - 1; omega, by show s.1 52 - 1 < 24; omega⟩, ⟨by show 0 ≤ s.1 52 - 1; omega, by show s.1 52 - 1 < 24; omega⟩, ?_⟩
  refine n_st486 (go := s.2 57 (s.1 52 - 1).toNat) (t := (n_upd (n_upd (n_upd s.1 51 (s.1 50 + 1)) 52 (s.1 52 - 1)) 50 (s.2 56 (s.1 52 - 1).toNat), n_updA s.2 55 (s.1 50).toNat (s.2 55 (s.1 51 - 1).toNat))) hd ?_
  refine ⟨⟨?_, ?_, a3, fun _ => ⟨c1, c3, ?_, c2, ?_, fun h => ?_, fun i hi => ?_⟩⟩, fun k hk => ?_, fun a i ha => ?_⟩
  · show 0 ≤ s.1 50 + 1 ∧ s.1 50 + 1 ≤ 120; omega
  · exact n_rng_u a2 (a2 _)
  · show s.1 50 + 1 = s.2 56 (s.1 52 - 1).toNat + D (s.2 57 (s.1 52 - 1).toNat).toNat; omega
  · show 0 ≤ s.1 52 - 1 ∧ s.1 52 - 1 ≤ 24; omega
  · show 1 ≤ s.1 52 - 1
    have := c5 h
    omega
  · have hi : (i : Int) < s.1 52 - 1 := hi
    have c' := b7 i (by omega)
    unfold n_CF at c'
    obtain ⟨d1, d2, d3, d4, d5⟩ := c'
    rw [if_pos (by omega)] at d4
    refine ⟨d1, d2, d3, ?_, d5⟩
    show s.2 56 i + D (s.2 57 i).toNat = (if (i : Int) + 1 < s.1 52 - 1 then s.2 56 (i + 1) else s.2 56 (s.1 52 - 1).toNat) + 1
    by_cases hz : (i : Int) + 1 < s.1 52 - 1
    · rw [if_pos hz]
      exact d4
    · rw [if_neg hz, show (s.1 52 - 1).toNat = i + 1 from by omega]
      exact d4
  · show n_upd (n_upd (n_upd (n_upd (n_upd s.1 51 _) 52 _) 50 _) 49 _) 53 _ k = _
    rw [n_u_ne (by omega), n_u_ne (by omega), n_u_ne (by omega), n_u_ne (by omega), n_u_ne (by omega)]
  · show n_updA s.2 55 _ _ a i = _
    rw [n_ua_ne (by omega)]
end N22
end
section
/-! A STEP: its contract; run -/
section N23
variable {Z : Nat → List Int32} {d : Nat} {s : nS} {D : Nat → Int} {K : Nat → Bool} {op arg : Int}
theorem n_st82 (hd : 6 ≤ d) (hI : n_IV s D K) (hR : n_RS s D K) (h1 : s.1 48 = 1) (ho : s.2 54 (s.1 49).toNat = op) (ha : op = 1 ∨ op = 11 → arg = s.2 54 ((s.1 49).toNat + 1) % 256) (ht : op < 2 → ¬ s.1 51 = 120) (hc : op = 12 → ¬ s.1 52 = 24) : NP Z (d + 1) 159 82 [some (xR 25), some (xI op), some (xI arg), none] [] s (fun r s' => r = none ∧ n_SP s D K s') := by
  obtain ⟨i1, i2⟩ := hI
  obtain ⟨a1, a2, a3, a4⟩ := id hR
  obtain ⟨b1, b2, b3, b4, b5, b6, b7⟩ := a4 h1
  have hp := i2 (s.1 49).toNat (by omega) b2
  unfold n_IVp at hp
  rw [ho, show ((s.1 49).toNat : Int) = s.1 49 from by omega] at hp
  have hor : 0 ≤ op ∧ op ≤ 14 := by
    rcases hp with h | h | h | h | h | h | h | h | h | h | h <;> omega
  have hw : ∀ q : Int, op = q → n_wide op = n_wide q := fun q h => by rw [h]
  refine n_at nb159_82 (by omega) rfl ?_
  refine n_is (vs := [xI op]) (r := [xI (s.1 49)]) nn153 (by simp) (ng153 (by omega) ⟨by omega, by omega⟩) (fun r s' hr => ?_)
  rw [hr.1, hr.2]
  refine ⟨⟨by omega, by omega⟩, ⟨by decide, by decide⟩, fun z => ?_, fun z0 => ⟨⟨by decide, by decide⟩, fun z => ?_, fun z1 => ⟨⟨by decide, by decide⟩, fun z => ?_, fun z2 => ⟨⟨by decide, by decide⟩, fun z => ?_, fun z3 => ⟨⟨by decide, by decide⟩, fun z => ?_, fun z4 => ⟨⟨by decide, by decide⟩, fun z => ?_, fun z5 => ⟨⟨by decide, by decide⟩, fun z => ?_, fun z6 => ⟨⟨by decide, by decide⟩, fun z => ?_, fun z7 => ⟨⟨by decide, by decide⟩, fun z => ?_, fun z8 => ⟨⟨by decide, by decide⟩, fun z => ?_, fun z9 => ⟨⟨by decide, by decide⟩, fun z => ?_, fun z10 => ⟨⟨by decide, by decide⟩, fun z => ?_, fun z11 => ⟨⟨by decide, by decide⟩, fun z => ?_, fun z12 => ⟨⟨by decide, by decide⟩, fun z => ?_, fun z13 => ⟨⟨by decide, by decide⟩, fun z => ?_, fun z14 => ?_⟩⟩⟩⟩⟩⟩⟩⟩⟩⟩⟩⟩⟩⟩⟩
  · have f := hp.resolve_right (by omega)
    exact n_st168 hd i1.2 hR h1 (by have := ht (by omega); omega) f.2.1 f.2.2.1 f.2.2.2 (by rw [hw _ z]; rfl)
  · have f := (hp.resolve_left (by omega)).resolve_right (by omega)
    exact n_st186 hd i1.2 hR h1 (by have := ht (by omega); omega) f.2.1 (by have := ha (Or.inl z); omega) f.2.2.2.1 f.2.2.2.2 (by rw [hw _ z]; rfl)
  iterate 5
    · have f := ((hp.resolve_left (by omega)).resolve_left (by omega)).resolve_right (by omega)
      exact n_st481 hd i1.2 ⟨by omega, by omega⟩ hR h1 f.2.1 f.2.2.1 f.2.2.2.1 f.2.2.2.2 (by rw [hw _ z]; rfl)
  · have f := (((hp.resolve_left (by omega)).resolve_left (by omega)).resolve_left (by omega)).resolve_right (by omega)
    exact n_st204 hd i1.2 hR h1 f.2.1 f.2.2.1 f.2.2.2.1 f.2.2.2.2
  · have f := ((((hp.resolve_left (by omega)).resolve_left (by omega)).resolve_left (by omega)).resolve_left (by omega)).resolve_right (by omega)
    exact n_st218 hd i1.2 hR h1 f.2.1 f.2.2.1 f.2.2.2.2.1 f.2.2.2.2.2.1 f.2.2.2.2.2.2 f.2.2.2.1.1 f.2.2.2.1.2 (by rw [hw _ z]; rfl)
  · have f := (((((hp.resolve_left (by omega)).resolve_left (by omega)).resolve_left (by omega)).resolve_left (by omega)).resolve_left (by omega)).resolve_right (by omega)
    exact n_st258 hd i1.2 hR h1 f.2.1 f.2.2.1 f.2.2.2.1 f.2.2.2.2 (by rw [hw _ z]; rfl)
  · have f := ((((((hp.resolve_left (by omega)).resolve_left (by omega)).resolve_left (by omega)).resolve_left (by omega)).resolve_left (by omega)).resolve_left (by omega)).resolve_right (by omega)
    exact n_st293 hd i1.2 hR h1 f.2.1 f.2.2.1 f.2.2.2.1 f.2.2.2.2 (by rw [hw _ z]; rfl)
  · have f := (((((((hp.resolve_left (by omega)).resolve_left (by omega)).resolve_left (by omega)).resolve_left (by omega)).resolve_left (by omega)).resolve_left (by omega)).resolve_left (by omega)).resolve_right (by omega)
    exact n_st306 hd i1.2 hR h1 f.2.1 f.2.2.1 (by have := ha (Or.inr z); omega) f.2.2.2.2.1 f.2.2.2.2.2 (by rw [hw _ z]; rfl)
  · have f := ((((((((hp.resolve_left (by omega)).resolve_left (by omega)).resolve_left (by omega)).resolve_left (by omega)).resolve_left (by omega)).resolve_left (by omega)).resolve_left (by omega)).resolve_left (by omega)).resolve_right (by omega)
    exact n_st331 hd i1.2 hR h1 (hc z) f.2.1 f.2.2.1 f.2.2.2.2.1 f.2.2.2.2.2.1 f.2.2.2.2.2.2 f.2.2.2.1.1 f.2.2.2.1.2 (by rw [hw _ z]; rfl)
  · have f := (((((((((hp.resolve_left (by omega)).resolve_left (by omega)).resolve_left (by omega)).resolve_left (by omega)).resolve_left (by omega)).resolve_left (by omega)).resolve_left (by omega)).resolve_left (by omega)).resolve_left (by omega)).resolve_right (by omega)
    exact n_st402 hd i1.2 hR h1 f.2.2.1 f.2.2.2
  · exact n_st468 hd hR
  · omega
theorem ng159 (hd : 6 ≤ d) (hI : n_IV s D K) (hR : n_RS s D K) (h1 : s.1 48 = 1) : NG Z (d + 1) 159 [xR 25] s (fun r s' => r = none ∧ n_SP s D K s') := by
  obtain ⟨i1, i2⟩ := id hI
  obtain ⟨a1, a2, a3, a4⟩ := id hR
  obtain ⟨b1, b2, b3, b4, b5, b6, b7⟩ := a4 h1
  have hp := i2 (s.1 49).toNat (by omega) b2
  unfold n_IVp at hp
  rw [show ((s.1 49).toNat : Int) = s.1 49 from by omega] at hp
  have hor : 0 ≤ s.2 54 (s.1 49).toNat ∧ s.2 54 (s.1 49).toNat ≤ 14 := by
    rcases hp with h | h | h | h | h | h | h | h | h | h | h <;> omega
  have hpn : (s.2 54 (s.1 49).toNat = 1 ∨ s.2 54 (s.1 49).toNat = 11 ∨ s.2 54 (s.1 49).toNat = 13) → s.1 49 + 1 < s.1 46 := by
    intro hq
    rcases hp with h | h | h | h | h | h | h | h | h | h | h <;> omega
  have h82 := fun arg ha ht hc => n_st82 (Z := Z) (op := s.2 54 (s.1 49).toNat) (arg := arg) hd hI hR h1 rfl ha ht hc
  clear hp
  have hr1 : n_rng (s.2 54 (s.1 49).toNat) := ⟨by omega, by omega⟩
  have h61 : ∀ arg : Int, (s.2 54 (s.1 49).toNat = 1 ∨ s.2 54 (s.1 49).toNat = 11 → arg = s.2 54 ((s.1 49).toNat + 1) % 256) → (s.2 54 (s.1 49).toNat < 2 → ¬ s.1 51 = 120) → NP Z (d + 1) 159 61 [some (xR 25), some (xI (s.2 54 (s.1 49).toNat)), some (xI arg), none] [] s (fun r s' => r = none ∧ n_SP s D K s') := by
    intro arg ha ht
    refine n_at nb159_61 (by omega) rfl ⟨hr1, ⟨by decide, by decide⟩, fun z => h82 arg ha ht (fun h => absurd h z), fun z => ?_⟩
    exact ⟨⟨by omega, by omega⟩, ⟨by decide, by decide⟩, fun z2 => h82 arg ha ht (fun _ => z2), fun _ => n_st76 rfl hd hR⟩
  have h46 : ∀ arg : Int, (s.2 54 (s.1 49).toNat = 1 ∨ s.2 54 (s.1 49).toNat = 11 → arg = s.2 54 ((s.1 49).toNat + 1) % 256) → NP Z (d + 1) 159 46 [some (xR 25), some (xI (s.2 54 (s.1 49).toNat)), none, none] [xI arg] s (fun r s' => r = none ∧ n_SP s D K s') := by
    intro arg ha
    refine n_at nb159_46 (by omega) rfl ⟨hr1, ⟨by decide, by decide⟩, fun z => h61 arg ha (fun h => by omega), fun z => ?_⟩
    exact ⟨⟨by omega, by omega⟩, ⟨by decide, by decide⟩, fun _ => n_st76 rfl hd hR, fun z2 => h61 arg ha (fun _ => z2)⟩
  have h27 : (s.2 54 (s.1 49).toNat = 1 ∨ s.2 54 (s.1 49).toNat = 11 ∨ s.2 54 (s.1 49).toNat = 13) → NP Z (d + 1) 159 27 [some (xR 25), some (xI (s.2 54 (s.1 49).toNat)), none, none] [] s (fun r s' => r = none ∧ n_SP s D K s') := by
    intro hq
    have := hpn hq
    refine n_at nb159_27 (by omega) rfl ⟨⟨by omega, by omega⟩, h46 _ (fun _ => ?_)⟩
    rw [show (s.1 49).toNat + 1 = (s.1 49 + 1).toNat from by omega]
    rfl
  refine n_G_of (L := [some (xR 25), none, none, none]) (by rw [nl159]; exact Nat.le_of_ble_eq_true rfl) (by rw [nl159]; rfl) ?_
  refine n_at nb159_0 (by omega) rfl ⟨⟨by omega, by omega⟩, hr1, ⟨by decide, by decide⟩, fun z => h27 (Or.inl z), fun z1 => ⟨hr1, ⟨by decide, by decide⟩, fun z => h27 (Or.inr (Or.inl z)), fun z2 => ⟨hr1, ⟨by decide, by decide⟩, fun z3 => ?_, fun z => h27 (Or.inr (Or.inr z))⟩⟩⟩
  exact n_at nb159_45 (by omega) rfl (h46 0 (fun h => by omega))
theorem n_IV_fr {s' : nS} (h : n_IV s D K) (e46 : s'.1 46 = s.1 46) (e54 : ∀ i, s'.2 54 i = s.2 54 i) : n_IV s' D K := by
  unfold n_IV n_IVp n_pl at h ⊢
  simp only [e46, e54]
  exact h
/-- what a run leaves -/
def n_RP (b : nS) (D : Nat → Int) (K : Nat → Bool) (s' : nS) : Prop := n_RS s' D K ∧ (∀ k, ¬ (k = 0 ∨ (48 ≤ k ∧ k ≤ 53)) → s'.1 k = b.1 k) ∧ (∀ a i, ¬ (55 ≤ a ∧ a ≤ 57) → s'.2 a i = b.2 a i)
theorem n_l158 {b : nS} {n : Int} (hd : 6 ≤ d) (hn : n_rng n) (hI : n_IV b D K) : ∀ (j : Nat) (s : nS) (made : Int), n_RP b D K s → n_rng (s.1 0) → (0 ≤ made ∧ made ≤ 500) → ((s.1 0 = 0 → n ≤ 500) ∧ 500 - made ≤ j) → NP Z (d + 2) 158 22 [some (xR 25), some (xI n), some (xI made)] [] s (fun _ s' => n_RP b D K s') := by
  intro j
  induction j with
  | zero =>
    intro s made hR h0 hm hj
    obtain ⟨r1, r2, r3⟩ := id hR
    have h52 : NP Z (d + 2) 158 52 [some (xR 25), some (xI n), some (xI made)] [] s (fun _ s' => n_RP b D K s') := n_at nb158_52 (by omega) rfl hR
    refine n_at nb158_22 (by omega) rfl ⟨h0, fun _ => h52, fun z => ⟨⟨by omega, by omega⟩, hn, fun _ => h52, fun z2 => ?_⟩⟩
    have := hj.1 z
    omega
  | succ j ih =>
    intro s made hR h0 hm hj
    obtain ⟨r1, r2, r3⟩ := id hR
    have h52 : NP Z (d + 2) 158 52 [some (xR 25), some (xI n), some (xI made)] [] s (fun _ s' => n_RP b D K s') := n_at nb158_52 (by omega) rfl hR
    refine n_at nb158_22 (by omega) rfl ⟨h0, fun _ => h52, fun z => ⟨⟨by omega, by omega⟩, hn, fun _ => h52, fun z2 => ⟨r1.2.2.1, ⟨by decide, by decide⟩, fun _ => h52, fun z3 => ?_⟩⟩⟩
    have hn5 := hj.1 z
    refine n_iv (vs := [xR 25]) (r := []) nn159 (by simp) rfl nc159 (ng159 hd (n_IV_fr hI (r2 46 (by decide)) (fun i => r3 54 i (by decide))) r1 z3) (fun r s' hr => ?_)
    obtain ⟨e1, p1, p2, p3⟩ := hr
    rw [e1]
    have e0 : s'.1 0 = s.1 0 := p2 0 (by decide)
    exact ih s' (made + 1) ⟨p1, fun k hk => (p2 k (by omega)).trans (r2 k hk), fun a i ha => (p3 a i ha).trans (r3 a i ha)⟩ (by rw [e0]; exact h0) ⟨by omega, by omega⟩ ⟨by rw [e0]; exact hj.1, by omega⟩
theorem ng158 {n : Int} (hd : 6 ≤ d) (hn : n_rng n) (hI : n_IV s D K) (hR : n_RS s D K) : NG Z (d + 2) 158 [xR 25, xI n] s (fun _ s' => n_RP s D K s') := by
  have h17 : ∀ q : Bool, (q = false → n ≤ 500) → NP Z (d + 2) 158 17 [some (xR 25), some (xI n), none] [xI (n_T q), xR 25] s (fun _ s' => n_RP s D K s') := by
    intro q hq
    refine n_at nb158_17 (by omega) rfl ?_
    refine n_l158 hd hn hI 500 _ 0 ⟨hR, fun k hk => n_u_ne (by omega), fun _ _ _ => rfl⟩ (n_rngT q) ⟨by omega, by omega⟩ ⟨fun h => hq (n_T0 h), by omega⟩
  have h12 : NP Z (d + 2) 158 12 [some (xR 25), some (xI n), none] [xR 25] s (fun _ s' => n_RP s D K s') := n_at nb158_12 (by omega) rfl (h17 true (fun h => absurd h (by decide)))
  refine n_G_of (L := [some (xR 25), some (xI n), none]) (by rw [nl158]; exact Nat.le_of_ble_eq_true rfl) (by rw [nl158]; rfl) ?_
  refine n_at nb158_0 (by omega) rfl ⟨hn, fun _ => h12, fun z => ⟨hn, ⟨by decide, by decide⟩, fun z2 => ?_, fun _ => h12⟩⟩
  exact n_at nb158_16 (by omega) rfl (h17 false (fun _ => z2))
end N23
end
section
/-! THE REFERENCE'S OBJECTS -/
section N24
variable {Z : Nat → List Int32} {d : Nat} {s : nS}
theorem ng144 {v : Int} (hd : 6 ≤ d) (hv : n_rng v) : NG Z d 144 [xI v] s (fun r s' => (∃ k, r = some k ∧ 0 ≤ k ∧ k ≤ 4) ∧ s' = s) := by
  have h42 : ∀ y : Int, 0 ≤ y ∧ y ≤ 4 → NP Z d 144 42 [some (xI v)] [xI y] s (fun r s' => (∃ k, r = some k ∧ 0 ≤ k ∧ k ≤ 4) ∧ s' = s) := fun y h => n_at nb144_42 hd rfl ⟨⟨y, rfl, h⟩, rfl⟩
  refine n_G_of (L := [some (xI v)]) (by rw [nl144]; exact Nat.le_of_ble_eq_true rfl) (by rw [nl144]; rfl) ?_
  refine n_at nb144_0 hd rfl ⟨hv, fun _ => ?_, fun _ => h42 0 (by decide)⟩
  refine n_at nb144_8 hd rfl ⟨hv, ⟨by decide, by decide⟩, fun _ => ?_, fun _ => h42 1 (by decide)⟩
  refine n_at nb144_19 hd rfl ⟨hv, ⟨by decide, by decide⟩, fun _ => ?_, fun _ => h42 2 (by decide)⟩
  refine n_at nb144_30 hd rfl ⟨hv, ⟨by decide, by decide⟩, fun _ => ?_, fun _ => h42 3 (by decide)⟩
  exact n_at nb144_41 hd rfl (h42 4 (by decide))
theorem ng145 {v k : Int} (hd : 6 ≤ d) (hv : n_rng v) (hk : n_rng k) : NG Z (d + 1) 145 [xI v, xI k] s (fun r s' => (∃ y, r = some y) ∧ s' = s) := by
  have h25 : ∀ y n : Int, NP Z (d + 1) 145 25 [some (xI v), some (xI k), some (xI n)] [xI y] s (fun r s' => (∃ y, r = some y) ∧ s' = s) := fun y n => n_at nb145_25 (by omega) rfl ⟨⟨y, rfl⟩, rfl⟩
  refine n_G_of (L := [some (xI v), some (xI k), none]) (by rw [nl145]; exact Nat.le_of_ble_eq_true rfl) (by rw [nl145]; rfl) ?_
  refine n_at nb145_0 (by omega) rfl ?_
  refine n_is (vs := [xI v]) (r := []) nn144 (by simp) (ng144 hd hv) (fun r s' hr => ?_)
  obtain ⟨⟨n, e1, hn⟩, e2⟩ := hr
  rw [e1, e2]
  refine ⟨hk, fun _ => n_at nb145_13 (by omega) rfl (h25 _ _), fun _ => h25 _ _⟩
/-- the fixes of an object -/
theorem n_l143 {u k n3 n4 n5 n6 : Int} {x9 x10 : Option nV} (hd : 6 ≤ d) (hu : 0 ≤ u ∧ u < 16) (hk : n_rng k) (hf : 0 ≤ s.2 32 u.toNat ∧ s.2 32 u.toNat ≤ 50) (hn : ∀ i, n_rng (s.2 34 i)) : ∀ (q : Nat) (at' j : Int) (x9 x10 : Option nV), 0 ≤ j → j + q = s.2 32 u.toNat → (0 ≤ at' ∧ at' ≤ 300 + 7 * j) → NP Z (d + 2) 143 204 [some (xR 25), some (xI u), some (xI k), some (xI n3), some (xI n4), some (xI n5), some (xI n6), some (xI at'), some (xI j), x9, x10] [] s (fun _ s' => s' = s) := by
  intro q
  induction q with
  | zero =>
    intro at' j x9 x10 h0 hj ha
    have h335 : ∀ y : Int, NP Z (d + 2) 143 335 [some (xR 25), some (xI u), some (xI k), some (xI n3), some (xI n4), some (xI n5), some (xI n6), some (xI at'), some (xI j), x9, x10] [xI y] s (fun _ s' => s' = s) := fun y => n_at nb143_335 (by omega) rfl rfl
    refine n_at nb143_204 (by omega) rfl ⟨⟨by omega, by omega⟩, ⟨by omega, by omega⟩, ⟨by omega, by omega⟩, fun _ => ?_, fun z => ?_⟩
    · exact n_at nb143_324 (by omega) rfl ⟨hk, ⟨by decide, by decide⟩, fun _ => n_at nb143_334 (by omega) rfl (h335 _), fun _ => h335 _⟩
    · omega
  | succ q ih =>
    intro at' j x9 x10 h0 hj ha
    refine n_at nb143_204 (by omega) rfl ⟨⟨by omega, by omega⟩, ⟨by omega, by omega⟩, ⟨by omega, by omega⟩, fun z => ?_, fun z => ⟨⟨by omega, by omega⟩, ?_⟩⟩
    · omega
    refine n_is (vs := [xI (s.2 34 (50 * u + j).toNat)]) (r := [xI 3]) nn144 (by simp) (ng144 (by omega) (hn _)) (fun r s' hr => ?_)
    obtain ⟨⟨w, e1, hw⟩, e2⟩ := hr
    rw [e1, e2]
    have h311 : NP Z (d + 2) 143 311 [some (xR 25), some (xI u), some (xI k), some (xI n3), some (xI n4), some (xI n5), some (xI n6), some (xI at'), some (xI j), some (xI (50 * u + j)), some (xI (3 + w))] [] s (fun _ s' => s' = s) := n_at nb143_311 (by omega) rfl (ih (at' + (3 + w)) (j + 1) _ _ (by omega) (by omega) ⟨by omega, by omega⟩)
    have h310 : ∀ y : Int, NP Z (d + 2) 143 310 [some (xR 25), some (xI u), some (xI k), some (xI n3), some (xI n4), some (xI n5), some (xI n6), some (xI at'), some (xI j), some (xI (50 * u + j)), some (xI (3 + w))] [xI y] s (fun _ s' => s' = s) := fun y => n_at nb143_310 (by omega) rfl rfl
    refine ⟨hk, ⟨by omega, by omega⟩, fun _ => h311, fun z1 => ⟨hk, ⟨by omega, by omega⟩, fun _ => h311, fun z2 => ⟨hk, ⟨by omega, by omega⟩, fun _ => ?_, fun _ => ⟨⟨by omega, by omega⟩, h310 _⟩⟩⟩⟩
    refine n_at nb143_272 (by omega) rfl ⟨hk, ⟨by omega, by omega⟩, fun _ => ?_, fun _ => ⟨⟨by omega, by omega⟩, h310 _⟩⟩
    refine n_at nb143_294 (by omega) rfl ⟨⟨by omega, by omega⟩, ?_⟩
    refine n_is (vs := [xI (s.2 34 (50 * u + j).toNat), xI (k - at' - 2)]) (r := []) nn145 (by simp) (ng145 hd (hn _) ⟨by omega, by omega⟩) (fun r s' hr => ?_)
    obtain ⟨⟨y, e1⟩, e2⟩ := hr
    rw [e1, e2]
    exact h310 _
theorem ng143 {u k : Int} (hd : 6 ≤ d) (hu : n_rng u) (hk : n_rng k) (hun : 0 ≤ s.1 2 ∧ s.1 2 ≤ 16) (hs : ∀ i, n_rng (s.2 27 i) ∧ n_rng (s.2 28 i)) (hn : ∀ i, n_rng (s.2 34 i)) (hU : 0 ≤ u → u < s.1 2 → (0 ≤ s.2 30 u.toNat ∧ s.2 30 u.toNat ≤ 200) ∧ (0 ≤ s.2 32 u.toNat ∧ s.2 32 u.toNat ≤ 50)) : NG Z (d + 2) 143 [xR 25, xI u, xI k] s (fun _ s' => s' = (n_upd s.1 0 0, s.2)) := by
  have h27 : ∀ L : nL, NP Z (d + 2) 143 27 L [] (n_upd s.1 0 0, s.2) (fun _ s' => s' = (n_upd s.1 0 0, s.2)) := fun L => n_at nb143_27 (by omega) rfl rfl
  have h29 : (0 ≤ u ∧ u < s.1 2) → NP Z (d + 2) 143 29 [some (xR 25), some (xI u), some (xI k), none, none, none, none, none, none, none, none] [] (n_upd s.1 0 0, s.2) (fun _ s' => s' = (n_upd s.1 0 0, s.2)) := by
    intro hq
    obtain ⟨q1, q2⟩ := hU hq.1 hq.2
    refine n_at nb143_29 (by omega) rfl ⟨⟨hq.1, by omega⟩, ?_⟩
    refine n_is (vs := [xI (s.2 28 u.toNat)]) (r := [xI 1]) nn144 (by simp) (ng144 (by omega) (hs _).2) (fun r s' hr => ?_)
    obtain ⟨⟨w, e1, hw⟩, e2⟩ := hr
    rw [e1, e2]
    refine ⟨⟨hq.1, by omega⟩, hk, fun z0 => ?_, fun _ => ⟨⟨hq.1, by omega⟩, rfl⟩⟩
    have h195 : NP Z (d + 2) 143 195 [some (xR 25), some (xI u), some (xI k), some (xI (1 + w)), some (xI (1 + (1 + w))), some (xI (1 + (1 + w) + 3)), some (xI (1 + (1 + w) + 3 + s.2 30 u.toNat)), none, none, none, none] [] (n_upd s.1 0 0, s.2) (fun _ s' => s' = (n_upd s.1 0 0, s.2)) := by
      refine n_at nb143_195 (by omega) rfl ?_
      exact n_l143 (s := (n_upd s.1 0 0, s.2)) (x9 := none) (x10 := none) hd ⟨hq.1, by omega⟩ hk q2 hn (s.2 32 u.toNat).toNat _ 0 none none (by omega) (by show 0 + ((s.2 32 u.toNat).toNat : Int) = s.2 32 u.toNat; omega) ⟨by omega, by omega⟩
    have h182 : NP Z (d + 2) 143 182 [some (xR 25), some (xI u), some (xI k), some (xI (1 + w)), some (xI (1 + (1 + w))), some (xI (1 + (1 + w) + 3)), some (xI (1 + (1 + w) + 3 + s.2 30 u.toNat)), none, none, none, none] [] (n_upd s.1 0 0, s.2) (fun _ s' => s' = (n_upd s.1 0 0, s.2)) := n_at nb143_182 (by omega) rfl ⟨hk, ⟨by omega, by omega⟩, fun _ => h195, fun _ => ⟨⟨hq.1, by omega⟩, rfl⟩⟩
    have h150 : NP Z (d + 2) 143 150 [some (xR 25), some (xI u), some (xI k), some (xI (1 + w)), some (xI (1 + (1 + w))), some (xI (1 + (1 + w) + 3)), some (xI (1 + (1 + w) + 3 + s.2 30 u.toNat)), none, none, none, none] [] (n_upd s.1 0 0, s.2) (fun _ s' => s' = (n_upd s.1 0 0, s.2)) := by
      refine n_at nb143_150 (by omega) rfl ⟨hk, ⟨by omega, by omega⟩, fun _ => h182, fun z1 => ⟨hk, ⟨by omega, by omega⟩, fun _ => h182, fun z2 => ⟨⟨by omega, by omega⟩, rfl⟩⟩⟩
    have h149 : ∀ y : Int, NP Z (d + 2) 143 149 [some (xR 25), some (xI u), some (xI k), some (xI (1 + w)), some (xI (1 + (1 + w))), some (xI (1 + (1 + w) + 3)), some (xI (1 + (1 + w) + 3 + s.2 30 u.toNat)), none, none, none, none] [xI y] (n_upd s.1 0 0, s.2) (fun _ s' => s' = (n_upd s.1 0 0, s.2)) := fun y => n_at nb143_149 (by omega) rfl rfl
    have h144 : ∀ x y : Int, NP Z (d + 2) 143 144 [some (xR 25), some (xI u), some (xI k), some (xI (1 + w)), some (xI (1 + (1 + w))), some (xI (1 + (1 + w) + 3)), some (xI (1 + (1 + w) + 3 + s.2 30 u.toNat)), none, none, none, none] [xI y, xI x] (n_upd s.1 0 0, s.2) (fun _ s' => s' = (n_upd s.1 0 0, s.2)) := fun x y => n_at nb143_144 (by omega) rfl (h149 _)
    have h97 : NP Z (d + 2) 143 97 [some (xR 25), some (xI u), some (xI k), some (xI (1 + w)), some (xI (1 + (1 + w))), some (xI (1 + (1 + w) + 3)), some (xI (1 + (1 + w) + 3 + s.2 30 u.toNat)), none, none, none, none] [] (n_upd s.1 0 0, s.2) (fun _ s' => s' = (n_upd s.1 0 0, s.2)) := by
      refine n_at nb143_97 (by omega) rfl ⟨hk, ⟨by omega, by omega⟩, fun _ => h150, fun z1 => ⟨hk, ⟨by omega, by omega⟩, fun _ => h150, fun z2 => ⟨hk, ⟨by omega, by omega⟩, fun _ => ?_, fun _ => ⟨⟨hq.1, by omega⟩, h149 _⟩⟩⟩⟩
      exact n_at nb143_124 (by omega) rfl ⟨⟨hq.1, by omega⟩, hk, ⟨by omega, by omega⟩, fun _ => n_at nb143_143 (by omega) rfl (h144 _ _), fun _ => h144 _ _⟩
    refine n_at nb143_74 (by omega) rfl ⟨hk, fun _ => h97, fun z1 => ⟨hk, ⟨by omega, by omega⟩, fun _ => h97, fun z2 => ⟨⟨hq.1, by omega⟩, ?_⟩⟩⟩
    refine n_is (vs := [xI (s.2 28 u.toNat), xI (k - 1)]) (r := []) nn145 (by simp) (ng145 hd (hs _).2 ⟨by omega, by omega⟩) (fun r s' hr => ?_)
    obtain ⟨⟨y, e1⟩, e2⟩ := hr
    rw [e1, e2]
    exact rfl
  refine n_G_of (L := [some (xR 25), some (xI u), some (xI k), none, none, none, none, none, none, none, none]) (by rw [nl143]; exact Nat.le_of_ble_eq_true rfl) (by rw [nl143]; rfl) ?_
  refine n_at nb143_0 (by omega) rfl ⟨hu, fun _ => h27 _, fun z1 => ⟨hu, ⟨by show _ ≤ s.1 2; omega, by show s.1 2 < _; omega⟩, fun _ => h27 _, fun z2 => ?_⟩⟩
  have z2 : ¬ s.1 2 ≤ u := z2
  exact ⟨⟨by omega, by omega⟩, (hs _).1, ⟨by decide, by decide⟩, fun _ => h29 ⟨by omega, by omega⟩, fun _ => h27 _⟩
end N24
end
section
/-! THE REFERENCE'S write -/
theorem n_cc : ∀ c : Nat, c < 128 → n_c (n_i2c (c : Int)) = (c : Int) := by decide +kernel
/-- the character number k of a word, 0 the last -/
def n_wch (w : Int64) (k : Nat) : Int := (w.toUInt64 >>> ((Int32.ofInt (8 * (k : Int))).toInt64.toUInt64 &&& Int64.toUInt64 63)).toInt64.toInt32.toInt % 256
/-- characters k - 1 .. 0 are taken: how many stand now, and are they good -/
def n_wr (w : Int64) : Nat → Int → Bool → Int × Bool
  | 0, n, g => (n, g)
  | k + 1, n, g => n_wr w k (if (g && (decide (n_wch w k = 0) || decide (31 < n_wch w k ∧ n_wch w k < 127 ∧ n < 120))) = true ∧ ¬ n_wch w k = 0 then n + 1 else n) (g && (decide (n_wch w k = 0) || decide (31 < n_wch w k ∧ n_wch w k < 127 ∧ n < 120)))
/-- and the text then -/
def n_wrA (w : Int64) : Nat → Int → Bool → (Nat → Int) → Nat → Int
  | 0, _, _, T => T
  | k + 1, n, g, T => n_wrA w k (if (g && (decide (n_wch w k = 0) || decide (31 < n_wch w k ∧ n_wch w k < 127 ∧ n < 120))) = true ∧ ¬ n_wch w k = 0 then n + 1 else n) (g && (decide (n_wch w k = 0) || decide (31 < n_wch w k ∧ n_wch w k < 127 ∧ n < 120))) (if (g && (decide (n_wch w k = 0) || decide (31 < n_wch w k ∧ n_wch w k < 127 ∧ n < 120))) = true ∧ ¬ n_wch w k = 0 then (fun j => if j = n.toNat then n_wch w k else T j) else T)
section N25
variable {Z : Nat → List Int32} {d : Nat} {s : nS}
/-- what write leaves: the text's length t -/
def n_WP (s : nS) (t : Int) (T : Nat → Int) (s' : nS) : Prop := s'.1 = n_upd (n_upd s.1 0 0) 1 t ∧ (∀ a i, a ≠ 26 → s'.2 a i = s.2 a i) ∧ (∀ i, 0 ≤ s'.2 26 i ∧ s'.2 26 i < 128) ∧ s'.2 26 = T
theorem n_l109 {w : Int64} (hd : 6 ≤ d) (ht : 0 ≤ s.1 1 ∧ s.1 1 ≤ 120) (R : Int × Bool) (T : Nat → Int) : ∀ (k : Nat), k ≤ 8 → ∀ (n : Int) (g : Bool) (A : Nat → Nat → Int) (o : Option nV), (0 ≤ n ∧ n ≤ 120) → (∀ a i, a ≠ 26 → A a i = s.2 a i) → (∀ i, 0 ≤ A 26 i ∧ A 26 i < 128) → n_wr w k n g = R → n_wrA w k n g (A 26) = T → NP Z d 109 17 [some (xR 25), some (xJ w), none, some (xI n), some (xI (n_T g)), some (xI ((k : Int) - 1)), o] [] (n_upd s.1 0 0, A) (fun r s' => r = some (n_T R.2) ∧ n_WP s (if R.2 = true then R.1 else s.1 1) T s')
  | 0, _, n, g, A, o, hn, hA, hA2, hR, hT => by
    have hR : (n, g) = R := hR
    subst hR
    have h115 : ∀ t : Int, t = (if g = true then n else s.1 1) → NP Z d 109 115 [some (xR 25), some (xJ w), none, some (xI n), some (xI (n_T g)), some (xI (((0 : Nat) : Int) - 1)), o] [xI t, xR 25] (n_upd s.1 0 0, A) (fun r s' => r = some (n_T (n, g).2) ∧ n_WP s (if (n, g).2 = true then (n, g).1 else s.1 1) T s') := by
      intro t h
      refine n_at nb109_115 hd rfl ⟨n_T01 g, rfl, ?_, hA, hA2, hT⟩
      show n_upd (n_upd s.1 0 0) 1 t = _
      rw [h]
    refine n_at nb109_17 hd rfl ⟨⟨by decide, by decide⟩, fun _ => ?_, fun z => absurd (by decide : (((0 : Nat) : Int) - 1) < 0) z⟩
    refine n_at nb109_101 hd rfl ⟨n_rngT g, fun z => ?_, fun z => h115 _ (by rw [n_T1 z]; rfl)⟩
    exact n_at nb109_111 hd rfl (h115 _ (by rw [n_T0 z]; rfl))
  | k + 1, hk, n, g, A, o, hn, hA, hA2, hR, hT => by
    have hcb : 0 ≤ n_wch w k ∧ n_wch w k < 256 := by unfold n_wch; omega
    have hcr : n_rng (n_wch w k) := ⟨by omega, by omega⟩
    have e : ((k + 1 : Nat) : Int) - 1 = (k : Int) := by omega
    rw [e]
    have hR : n_wr w k (if (g && (decide (n_wch w k = 0) || decide (31 < n_wch w k ∧ n_wch w k < 127 ∧ n < 120))) = true ∧ ¬ n_wch w k = 0 then n + 1 else n) (g && (decide (n_wch w k = 0) || decide (31 < n_wch w k ∧ n_wch w k < 127 ∧ n < 120))) = R := hR
    have hT : n_wrA w k (if (g && (decide (n_wch w k = 0) || decide (31 < n_wch w k ∧ n_wch w k < 127 ∧ n < 120))) = true ∧ ¬ n_wch w k = 0 then n + 1 else n) (g && (decide (n_wch w k = 0) || decide (31 < n_wch w k ∧ n_wch w k < 127 ∧ n < 120))) (if (g && (decide (n_wch w k = 0) || decide (31 < n_wch w k ∧ n_wch w k < 127 ∧ n < 120))) = true ∧ ¬ n_wch w k = 0 then (fun j => if j = n.toNat then n_wch w k else A 26 j) else A 26) = T := hT
    generalize hg : (g && (decide (n_wch w k = 0) || decide (31 < n_wch w k ∧ n_wch w k < 127 ∧ n < 120))) = g' at hR hT
    have h95 : ∀ (n' : Int) (A' : Nat → Nat → Int), (0 ≤ n' ∧ n' ≤ 120) → (∀ a i, a ≠ 26 → A' a i = s.2 a i) → (∀ i, 0 ≤ A' 26 i ∧ A' 26 i < 128) → n_wr w k n' g' = R → n_wrA w k n' g' (A' 26) = T → NP Z d 109 95 [some (xR 25), some (xJ w), none, some (xI n'), some (xI (n_T g')), some (xI (k : Int)), some (xI (n_wch w k))] [] (n_upd s.1 0 0, A') (fun r s' => r = some (n_T R.2) ∧ n_WP s (if R.2 = true then R.1 else s.1 1) T s') := by
      intro n' A' q1 q2 q3 q4 q5
      exact n_at nb109_95 hd rfl (n_l109 hd ht R T k (by omega) n' g' A' _ q1 q2 q3 q4 q5)
    have h71 : NP Z d 109 71 [some (xR 25), some (xJ w), none, some (xI n), some (xI (n_T g)), some (xI (k : Int)), some (xI (n_wch w k))] [xI (n_T g')] (n_upd s.1 0 0, A) (fun r s' => r = some (n_T R.2) ∧ n_WP s (if R.2 = true then R.1 else s.1 1) T s') := by
      refine n_at nb109_71 hd rfl ⟨n_rngT _, fun z => ?_, fun z => ⟨hcr, fun z2 => ?_, fun z2 => ?_⟩⟩
      · rw [n_T0 z, if_neg (by rintro ⟨h, -⟩; cases h)] at hR
        rw [n_T0 z, if_neg (by rintro ⟨h, -⟩; cases h), if_neg (by rintro ⟨h, -⟩; cases h)] at hT
        exact h95 n A hn hA hA2 (by rw [n_T0 z]; exact hR) (by rw [n_T0 z]; exact hT)
      · rw [if_neg (fun h => h.2 z2)] at hR
        rw [if_neg (fun h => h.2 z2), if_neg (fun h => h.2 z2)] at hT
        exact h95 n A hn hA hA2 hR hT
      · have hg1 := n_T1 z
        rw [if_pos ⟨hg1, z2⟩] at hR
        rw [if_pos ⟨hg1, z2⟩, if_pos ⟨hg1, z2⟩] at hT
        rw [hg1] at hg
        simp only [Bool.and_eq_true, Bool.or_eq_true, decide_eq_true_eq] at hg
        have hlim := hg.2.resolve_left z2
        refine ⟨⟨by omega, by omega⟩, ?_⟩
        refine h95 (n + 1) _ ⟨by omega, by omega⟩ (fun a i ha => ?_) (fun i => ?_) hR ?_
        · rw [n_ua_ne ha]
          exact hA a i ha
        · rw [n_ua_eq]
          split
          · have e3 := n_cc (n_wch w k).toNat (by omega)
            rw [show (((n_wch w k).toNat : Nat) : Int) = n_wch w k from by omega] at e3
            rw [e3]
            omega
          · exact hA2 i
        · have e3 := n_cc (n_wch w k).toNat (by omega)
          rw [show (((n_wch w k).toNat : Nat) : Int) = n_wch w k from by omega] at e3
          have e4 : (fun j => n_updA A 26 n.toNat (n_c (n_i2c (n_wch w k))) 26 j) = (fun j => if j = n.toNat then n_wch w k else A 26 j) := by
            funext j
            rw [n_ua_eq, e3]
          rw [← hT]
          exact congrArg (n_wrA w k (n + 1) g') e4
    have h66 : g' = true → NP Z d 109 66 [some (xR 25), some (xJ w), none, some (xI n), some (xI (n_T g)), some (xI (k : Int)), some (xI (n_wch w k))] [] (n_upd s.1 0 0, A) (fun r s' => r = some (n_T R.2) ∧ n_WP s (if R.2 = true then R.1 else s.1 1) T s') := fun h => n_at nb109_66 hd rfl (by rw [h] at h71; exact h71)
    have h70 : g' = false → NP Z d 109 70 [some (xR 25), some (xJ w), none, some (xI n), some (xI (n_T g)), some (xI (k : Int)), some (xI (n_wch w k))] [] (n_upd s.1 0 0, A) (fun r s' => r = some (n_T R.2) ∧ n_WP s (if R.2 = true then R.1 else s.1 1) T s') := fun h => n_at nb109_70 hd rfl (by rw [h] at h71; exact h71)
    refine n_at nb109_17 hd rfl ⟨⟨by omega, by omega⟩, fun z => ?_, fun _ => ?_⟩
    · omega
    refine ⟨n_rngT _, fun z => h70 ?_, fun z => ⟨hcr, fun z2 => h66 ?_, fun z2 => ⟨hcr, ⟨by decide, by decide⟩, fun z3 => h70 ?_, fun z3 => ⟨hcr, ⟨by decide, by decide⟩, fun z4 => h70 ?_, fun z4 => ⟨⟨by omega, by omega⟩, ⟨by decide, by decide⟩, fun z5 => h70 ?_, fun z5 => h66 ?_⟩⟩⟩⟩⟩
    · rw [← hg, n_T0 z]; rfl
    · have z2 : n_wch w k = 0 := z2
      rw [← hg, n_T1 z, z2]; rfl
    · have z3 : n_wch w k ≤ 31 := z3
      have z2 : ¬ n_wch w k = 0 := z2
      rw [← hg, decide_eq_false z2, decide_eq_false (by omega)]; simp
    · have z4 : 127 ≤ n_wch w k := z4
      have z2 : ¬ n_wch w k = 0 := z2
      rw [← hg, decide_eq_false z2, decide_eq_false (by omega)]; simp
    · have z2 : ¬ n_wch w k = 0 := z2
      rw [← hg, decide_eq_false z2, decide_eq_false (by omega)]; simp
    · have z3 : ¬ n_wch w k ≤ 31 := z3
      have z4 : ¬ 127 ≤ n_wch w k := z4
      rw [← hg, n_T1 z, decide_eq_true (show 31 < n_wch w k ∧ n_wch w k < 127 ∧ n < 120 by omega)]; simp
theorem ng109 {w : Int64} (hd : 6 ≤ d) (ht : 0 ≤ s.1 1 ∧ s.1 1 ≤ 120) (hc : ∀ i, 0 ≤ s.2 26 i ∧ s.2 26 i < 128) : NG Z d 109 [xR 25, xJ w] s (fun r s' => r = some (n_T (n_wr w 8 (s.1 1) true).2) ∧ n_WP s (if (n_wr w 8 (s.1 1) true).2 = true then (n_wr w 8 (s.1 1) true).1 else s.1 1) (n_wrA w 8 (s.1 1) true (s.2 26)) s') := by
  refine n_G_of (L := [some (xR 25), some (xJ w), none, none, none, none, none]) (by rw [nl109]; exact Nat.le_of_ble_eq_true rfl) (by rw [nl109]; rfl) ?_
  refine n_at nb109_0 hd rfl ?_
  exact n_l109 hd ht _ _ 8 (by omega) (s.1 1) true s.2 none ht (fun _ _ _ => rfl) hc rfl rfl
end N25
end
section
/-! WHERE A MACRO'S BODY BEGINS -/
def n_one (c : Int) : Bool := decide (¬ c = 32 ∧ ¬ c = 40 ∧ ¬ c = 41)
def n_bgn (c depth : Int) (within : Bool) : Bool := decide (depth = 1 ∧ (c = 40 ∨ (n_one c = true ∧ within = false)))
def n_4th (ch : Nat → Int) : Nat → Int → Int → Int → Bool → Int
  | 0, _, _, _, _ => 0
  | q + 1, k, n, depth, within => if (if n_bgn (ch k.toNat) depth within = true then n + 1 else n) = 4 then k else n_4th ch q (k + 1) (if n_bgn (ch k.toNat) depth within = true then n + 1 else n) (depth + (if ch k.toNat = 40 then 1 else if ch k.toNat = 41 then -1 else 0)) (n_one (ch k.toNat) && decide (depth = 1))
section N26
variable {Z : Nat → List Int32} {d : Nat} {s : nS}
theorem n_l140 (hd : 6 ≤ d) (ht : 0 ≤ s.1 1 ∧ s.1 1 ≤ 120) (hc : ∀ i, 0 ≤ s.2 26 i ∧ s.2 26 i < 128) (R : Int) : ∀ (q : Nat) (k n depth : Int) (within : Bool) (o5 o6 o7 : Option nV), 0 ≤ k → k + q = s.1 1 → (0 ≤ n ∧ n < 4) → (-k ≤ depth ∧ depth ≤ k) → n_4th (s.2 26) q k n depth within = R → NP Z d 140 9 [some (xR 25), some (xI n), some (xI depth), some (xI (n_T within)), some (xI k), o5, o6, o7] [] s (fun r s' => r = some R ∧ s' = s) := by
  intro q
  induction q with
  | zero =>
    intro k n depth within o5 o6 o7 h0 hq hn hdp hR
    have hR : 0 = R := hR
    subst hR
    refine n_at nb140_9 hd rfl ⟨⟨by omega, by omega⟩, ⟨by omega, by omega⟩, fun _ => ?_, fun z => ?_⟩
    · exact n_at nb140_152 hd rfl ⟨rfl, rfl⟩
    · omega
  | succ q ih =>
    intro k n depth within o5 o6 o7 h0 hq hn hdp hR
    have hcb := hc k.toNat
    have hR : (if (if n_bgn (s.2 26 k.toNat) depth within = true then n + 1 else n) = 4 then k else n_4th (s.2 26) q (k + 1) (if n_bgn (s.2 26 k.toNat) depth within = true then n + 1 else n) (depth + (if s.2 26 k.toNat = 40 then 1 else if s.2 26 k.toNat = 41 then -1 else 0)) (n_one (s.2 26 k.toNat) && decide (depth = 1))) = R := hR
    have ihh := fun n' depth' within' o5 o6 o7 a b e => ih (k + 1) n' depth' within' o5 o6 o7 (by omega) (by omega) a b e
    generalize hcc : s.2 26 k.toNat = c at hcb hR
    have hcr : n_rng c := ⟨by omega, by omega⟩
    have hdr : n_rng depth := ⟨by omega, by omega⟩
    -- behind the count: n'
    have h111 : ∀ n' : Int, n' = (if n_bgn c depth within = true then n + 1 else n) → NP Z d 140 111 [some (xR 25), some (xI n), some (xI depth), some (xI (n_T (n_one c && decide (depth = 1)))), some (xI k), some (xI c), some (xI (n_T (n_one c))), some (xI (n_T (n_bgn c depth within)))] [xI n'] s (fun r s' => r = some R ∧ s' = s) := by
      intro n' hn'
      rw [← hn'] at hR
      have hnb : 0 ≤ n' ∧ n' ≤ 4 := by rw [hn']; split <;> omega
      refine n_at nb140_111 hd rfl ⟨⟨by omega, by omega⟩, ⟨by decide, by decide⟩, fun z => ?_, fun z => ?_⟩
      · rw [if_neg z] at hR
        have h144 : ∀ x : Int, x = (if c = 40 then 1 else if c = 41 then -1 else 0) → NP Z d 140 144 [some (xR 25), some (xI n'), some (xI depth), some (xI (n_T (n_one c && decide (depth = 1)))), some (xI k), some (xI c), some (xI (n_T (n_one c))), some (xI (n_T (n_bgn c depth within)))] [xI x, xI depth] s (fun r s' => r = some R ∧ s' = s) := by
          intro x hx
          rw [← hx] at hR
          have hxb : -1 ≤ x ∧ x ≤ 1 := by rw [hx]; split <;> (try split) <;> omega
          refine n_at nb140_144 hd rfl ?_
          exact ihh n' (depth + x) _ _ _ _ ⟨by omega, by omega⟩ ⟨by omega, by omega⟩ hR
        refine n_at nb140_120 hd rfl ⟨hcr, ⟨by decide, by decide⟩, fun z1 => ?_, fun z1 => h144 1 (by rw [if_pos z1])⟩
        refine n_at nb140_132 hd rfl ⟨hcr, ⟨by decide, by decide⟩, fun z2 => ?_, fun z2 => h144 (-1) (by rw [if_neg z1, if_pos z2])⟩
        exact n_at nb140_143 hd rfl (h144 0 (by rw [if_neg z1, if_neg z2]))
      · rw [if_pos z] at hR
        exact ⟨by rw [hR], rfl⟩
    have h98 : ∀ w : Bool, w = (n_one c && decide (depth = 1)) → NP Z d 140 98 [some (xR 25), some (xI n), some (xI depth), some (xI (n_T within)), some (xI k), some (xI c), some (xI (n_T (n_one c))), some (xI (n_T (n_bgn c depth within)))] [xI (n_T w)] s (fun r s' => r = some R ∧ s' = s) := by
      intro w hw
      subst hw
      refine n_at nb140_98 hd rfl ⟨n_rngT _, fun z => ?_, fun z => h111 _ (by rw [if_pos (n_T1 z)])⟩
      exact n_at nb140_110 hd rfl (h111 _ (by rw [n_T0 z]; rfl))
    have h81 : ∀ w : Bool, w = n_bgn c depth within → NP Z d 140 81 [some (xR 25), some (xI n), some (xI depth), some (xI (n_T within)), some (xI k), some (xI c), some (xI (n_T (n_one c))), o7] [xI (n_T w)] s (fun r s' => r = some R ∧ s' = s) := by
      intro w hw
      subst hw
      have h97 : (n_one c && decide (depth = 1)) = false → NP Z d 140 97 [some (xR 25), some (xI n), some (xI depth), some (xI (n_T within)), some (xI k), some (xI c), some (xI (n_T (n_one c))), some (xI (n_T (n_bgn c depth within)))] [] s (fun r s' => r = some R ∧ s' = s) := fun h => n_at nb140_97 hd rfl (h98 false h.symm)
      refine n_at nb140_81 hd rfl ⟨n_rngT _, fun z => h97 (by rw [n_T0 z]; rfl), fun z => ⟨hdr, ⟨by decide, by decide⟩, fun z2 => h97 (by rw [decide_eq_false z2]; simp), fun z2 => h98 true (by rw [n_T1 z, decide_eq_true z2]; rfl)⟩⟩
    have h53 : ∀ w : Bool, w = n_one c → NP Z d 140 53 [some (xR 25), some (xI n), some (xI depth), some (xI (n_T within)), some (xI k), some (xI c), o6, o7] [xI (n_T w)] s (fun r s' => r = some R ∧ s' = s) := by
      intro w hw
      subst hw
      have h76 : n_bgn c depth within = true → NP Z d 140 76 [some (xR 25), some (xI n), some (xI depth), some (xI (n_T within)), some (xI k), some (xI c), some (xI (n_T (n_one c))), o7] [] s (fun r s' => r = some R ∧ s' = s) := fun h => n_at nb140_76 hd rfl (h81 true h.symm)
      have h80 : n_bgn c depth within = false → NP Z d 140 80 [some (xR 25), some (xI n), some (xI depth), some (xI (n_T within)), some (xI k), some (xI c), some (xI (n_T (n_one c))), o7] [] s (fun r s' => r = some R ∧ s' = s) := fun h => n_at nb140_80 hd rfl (h81 false h.symm)
      refine n_at nb140_53 hd rfl ⟨hdr, ⟨by decide, by decide⟩, fun z => h80 (decide_eq_false (fun h => z h.1)), fun z => ⟨hcr, ⟨by decide, by decide⟩, fun z1 => h76 (decide_eq_true ⟨z, Or.inl z1⟩), fun z1 => ⟨n_rngT _, fun z2 => h80 (decide_eq_false (fun h => ?_)), fun z2 => ⟨n_rngT _, fun z3 => h80 (decide_eq_false (fun h => ?_)), fun z3 => h76 (decide_eq_true ⟨z, Or.inr ⟨n_T1 z2, n_T0 z3⟩⟩)⟩⟩⟩⟩
      · rcases h.2 with h2 | h2
        · exact z1 h2
        · rw [n_T0 z2] at h2; exact absurd h2.1 (by decide)
      · rcases h.2 with h2 | h2
        · exact z1 h2
        · rw [n_T1 z3] at h2; exact absurd h2.2 (by decide)
    have h52 : n_one c = false → NP Z d 140 52 [some (xR 25), some (xI n), some (xI depth), some (xI (n_T within)), some (xI k), some (xI c), o6, o7] [] s (fun r s' => r = some R ∧ s' = s) := fun h => n_at nb140_52 hd rfl (h53 false h.symm)
    refine n_at nb140_9 hd rfl ⟨⟨by omega, by omega⟩, ⟨by omega, by omega⟩, fun z => ?_, fun _ => ⟨⟨h0, by omega⟩, ?_⟩⟩
    · omega
    rw [hcc]
    exact ⟨hcr, ⟨by decide, by decide⟩, fun z => h52 (decide_eq_false (fun h => h.1 z)), fun z1 => ⟨hcr, ⟨by decide, by decide⟩, fun z => h52 (decide_eq_false (fun h => h.2.1 z)), fun z2 => ⟨hcr, ⟨by decide, by decide⟩, fun z => h52 (decide_eq_false (fun h => h.2.2 z)), fun z3 => h53 true (decide_eq_true ⟨z1, z2, z3⟩).symm⟩⟩⟩
theorem ng140 (hd : 6 ≤ d) (ht : 0 ≤ s.1 1 ∧ s.1 1 ≤ 120) (hc : ∀ i, 0 ≤ s.2 26 i ∧ s.2 26 i < 128) : NG Z d 140 [xR 25] s (fun r s' => r = some (n_4th (s.2 26) (s.1 1).toNat 0 0 0 false) ∧ s' = s) := by
  refine n_G_of (L := [some (xR 25), none, none, none, none, none, none, none]) (by rw [nl140]; exact Nat.le_of_ble_eq_true rfl) (by rw [nl140]; rfl) ?_
  refine n_at nb140_0 hd rfl ?_
  exact n_l140 hd ht hc _ (s.1 1).toNat 0 0 0 false none none none (by omega) (by omega) ⟨by omega, by omega⟩ ⟨by omega, by omega⟩ rfl
end N26
end
section
/-! AN ATOM'S CODE -/
section N27
variable {Z : Nat → List Int32} {d : Nat} {s : nS}
/-- what an atom leaves: a number's three bytes, or a slot's two; one deeper -/
def n_atS (s : nS) (f : Int) : nS := if s.2 38 f.toNat = 0 then n_em (n_em (n_em s 0) (n_shr (s.2 39 f.toNat) 8)) (s.2 39 f.toNat) else n_em (n_em (n_slotS s f) 1) (if n_slotK s f < 0 then 0 else s.2 49 (n_slotK s f).toNat)
theorem n_em_A {x : Int} {a i : Nat} (h : a ≠ 47) : (n_em s x).2 a i = s.2 a i := by
  unfold n_em
  split
  · dsimp only
    rw [n_ua_ne h]
  · rfl
theorem n_em_S {x : Int} {k : Nat} (h : k ≠ 28 ∧ k ≠ 30) : (n_em s x).1 k = s.1 k := by
  unfold n_em
  split
  · dsimp only
    rw [n_u_ne h.1, n_u_ne h.2]
  · dsimp only
    rw [n_u_ne h.1]
theorem ng135 {f : Int} (hd : 6 ≤ d) (hf : 0 ≤ f ∧ f < 1300) (hk : n_rng (s.2 38 f.toNat)) (hv : s.2 38 f.toNat = 1 → n_rng (s.2 39 f.toNat)) (hs : ∀ i : Nat, (i : Int) < s.1 32 → n_rng (s.2 48 i)) (hn : 0 ≤ s.1 32 ∧ s.1 32 ≤ 120) (hb : s.1 28 = 0 ∨ s.1 28 = 1) (hz : 0 ≤ s.1 30 ∧ s.1 30 ≤ 260) : NG Z (d + 2) 135 [xR 25, xI f] s (fun r s' => r = none ∧ s' = (n_upd (n_atS s f).1 31 (s.1 31 + 1), (n_atS s f).2)) := by
  have h43 : ∀ (t : nS) (o : Option nV), t = n_atS s f → t.1 31 = s.1 31 → NP Z (d + 2) 135 43 [some (xR 25), some (xI f), o] [] t (fun r s' => r = none ∧ s' = (n_upd (n_atS s f).1 31 (s.1 31 + 1), (n_atS s f).2)) := by
    intro t o h1 h2
    refine n_at nb135_43 (by omega) rfl ⟨rfl, rfl, ?_⟩
    show (n_upd t.1 31 (t.1 31 + 1), t.2) = _
    rw [h2, h1]
  refine n_G_of (L := [some (xR 25), some (xI f), none]) (by rw [nl135]; exact Nat.le_of_ble_eq_true rfl) (by rw [nl135]; rfl) ?_
  refine n_at nb135_0 (by omega) rfl ⟨hf, hk, fun z => ?_, fun z => ?_⟩
  · refine n_at nb135_27 (by omega) rfl ?_
    refine n_iv (vs := [xR 25, xI f]) (r := []) nn138 (by simp) rfl nc138 (ng138 (by omega) hf hk hv hs hn hb) (fun r s' hr => ?_)
    rw [hr.1, hr.2]
    refine n_iv (vs := [xR 25, xI 1]) (r := []) nn136 (by simp) rfl nc136 (ng136 (s := n_slotS s f) (by omega) hz (n_T01 _)) (fun r s' hr => ?_)
    rw [hr.1, hr.2]
    have hb2 := n_em_b (s := n_slotS s f) (x := 1) hz
    refine n_iv (vs := [xR 25, xI (if n_slotK s f < 0 then 0 else s.2 49 (n_slotK s f).toNat)]) (r := []) nn136 (by simp) rfl nc136 (ng136 (by omega) hb2.1 hb2.2) (fun r s' hr => ?_)
    rw [hr.1, hr.2]
    refine h43 _ _ ?_ ?_
    · unfold n_atS
      rw [if_neg z]
    · rw [n_em_S (by decide), n_em_S (by decide)]
      rfl
  · refine n_iv (vs := [xR 25, xI 0]) (r := []) nn136 (by simp) rfl nc136 (ng136 (by omega) hz hb) (fun r s' hr => ?_)
    rw [hr.1, hr.2]
    have hb2 := n_em_b (s := s) (x := 0) hz
    have e39 : (n_em s 0).2 39 f.toNat = s.2 39 f.toNat := n_em_A (by decide)
    refine ⟨hf, ?_⟩
    show wq _ _ _ _ _ [xI ((n_em s 0).2 39 f.toNat), xR 25] _
    rw [e39]
    refine n_iv (vs := [xR 25, xI (s.2 39 f.toNat)]) (r := []) nn137 (by simp) rfl nc137 (ng137 (by omega) hb2.1 hb2.2) (fun r s' hr => ?_)
    rw [hr.1, hr.2]
    refine h43 _ _ ?_ ?_
    · unfold n_atS
      rw [if_pos z]
    · rw [n_em_S (by decide), n_em_S (by decide), n_em_S (by decide)]
end N27
end
section
/-! A UNIT IS KEPT -/
/-- len cells from base on are g's -/
def n_cp (A : Nat → Nat → Int) (a base len : Nat) (g : Nat → Int) : Nat → Nat → Int := fun b i => if b = a ∧ base ≤ i ∧ i < base + len then g (i - base) else A b i
theorem n_cp_0 {A : Nat → Nat → Int} {a base : Nat} {g : Nat → Int} : n_cp A a base 0 g = A := by
  funext b i
  unfold n_cp
  rw [if_neg (by omega)]
theorem n_cp_succ {A : Nat → Nat → Int} {a base k i : Nat} {g : Nat → Int} {x : Int} (hi : i = base + k) (hx : x = g k) : n_updA (n_cp A a base k g) a i x = n_cp A a base (k + 1) g := by
  subst hi hx
  funext b j
  unfold n_updA n_cp
  by_cases hb : b = a
  · by_cases hj : j = base + k
    · subst hj
      rw [if_pos ⟨hb, rfl⟩, if_pos ⟨hb, by omega, by omega⟩, show base + k - base = k from by omega]
    · rw [if_neg (by omega)]
      by_cases hr : base ≤ j ∧ j < base + k
      · rw [if_pos ⟨hb, hr⟩, if_pos ⟨hb, hr.1, by omega⟩]
      · rw [if_neg (fun h => hr h.2), if_neg (by omega)]
  · rw [if_neg (fun h => hb h.1), if_neg (fun h => hb h.1), if_neg (fun h => hb h.1)]
theorem n_cp_upd {A : Nat → Nat → Int} {a base k i b : Nat} {g : Nat → Int} {x : Int} (hb : b ≠ a) : n_updA (n_cp A a base k g) b i x = n_cp (n_updA A b i x) a base k g := by
  funext c j
  show (if c = b ∧ j = i then x else (if c = a ∧ base ≤ j ∧ j < base + k then g (j - base) else A c j)) = (if c = a ∧ base ≤ j ∧ j < base + k then g (j - base) else (if c = b ∧ j = i then x else A c j))
  by_cases hc : c = b ∧ j = i
  · have hr : ¬ (c = a ∧ base ≤ j ∧ j < base + k) := fun h => hb (hc.1.symm.trans h.1)
    rw [if_pos hc, if_neg hr, if_pos hc]
  · rw [if_neg hc, if_neg hc]
section N28
variable {Z : Nat → List Int32} {d : Nat} {S : Nat → Int} {A : Nat → Nat → Int} {w nm n fr u : Int} {Post : nA → nS → Prop}
def n_L7 (w nm n fr u : Int) (k : Option nV) : nL := [some (xR 25), some (xI w), some (xI nm), some (xI n), some (xI fr), some (xI u), k]
/-- the code -/
theorem n_l141a (hd : 6 ≤ d) (hu : 0 ≤ u ∧ u < 16) (sz : Int) (hs : 0 ≤ sz ∧ sz ≤ 200) (hsz : A 30 u.toNat = sz) (h112 : ∀ o, NP Z d 141 112 (n_L7 w nm n fr u o) [] (S, n_cp A 31 (200 * u).toNat sz.toNat (fun j => n_b (A 47 j))) Post) : ∀ (q k : Nat), (k : Int) + q = sz → NP Z d 141 73 (n_L7 w nm n fr u (some (xI k))) [] (S, n_cp A 31 (200 * u).toNat k (fun j => n_b (A 47 j))) Post := by
  intro q
  induction q with
  | zero =>
    intro k hk
    refine n_at nb141_73 hd rfl ⟨⟨hu.1, hu.2⟩, ⟨by omega, by omega⟩, ⟨by show _ ≤ A 30 u.toNat; omega, by show A 30 u.toNat < _; omega⟩, fun _ => ?_, fun z => ?_⟩
    · have := h112 (some (xI k))
      rw [show sz.toNat = k from by omega] at this
      exact this
    · have z : ¬ A 30 u.toNat ≤ k := z
      omega
  | succ q ih =>
    intro k hk
    refine n_at nb141_73 hd rfl ⟨⟨hu.1, hu.2⟩, ⟨by omega, by omega⟩, ⟨by show _ ≤ A 30 u.toNat; omega, by show A 30 u.toNat < _; omega⟩, fun z => ?_, fun z => ⟨⟨by omega, by omega⟩, ⟨by omega, by omega⟩, ?_⟩⟩
    · have z : A 30 u.toNat ≤ k := z
      omega
    · have e := n_cp_succ (A := A) (a := 31) (base := (200 * u).toNat) (k := k) (i := (200 * u + k).toNat) (g := fun j => n_b (A 47 j)) (x := n_b (A 47 k)) (by omega) rfl
      have := ih (k + 1) (by omega)
      rw [← e] at this
      exact this
/-- the fixes -/
theorem n_l141b (hd : 6 ≤ d) (hu : 0 ≤ u ∧ u < 16) (fx : Int) (hs : 0 ≤ fx ∧ fx ≤ 50) (hfx : A 32 u.toNat = fx) (h173 : ∀ o, NP Z d 141 173 (n_L7 w nm n fr u o) [] (S, n_cp (n_cp A 33 (50 * u).toNat fx.toNat (A 50)) 34 (50 * u).toNat fx.toNat (A 51)) Post) : ∀ (q k : Nat), (k : Int) + q = fx → NP Z d 141 115 (n_L7 w nm n fr u (some (xI k))) [] (S, n_cp (n_cp A 33 (50 * u).toNat k (A 50)) 34 (50 * u).toNat k (A 51)) Post := by
  intro q
  induction q with
  | zero =>
    intro k hk
    refine n_at nb141_115 hd rfl ⟨⟨hu.1, hu.2⟩, ⟨by omega, by omega⟩, ⟨by show _ ≤ A 32 u.toNat; omega, by show A 32 u.toNat < _; omega⟩, fun _ => ?_, fun z => ?_⟩
    · have := h173 (some (xI k))
      rw [show fx.toNat = k from by omega] at this
      exact this
    · have z : ¬ A 32 u.toNat ≤ k := z
      omega
  | succ q ih =>
    intro k hk
    refine n_at nb141_115 hd rfl ⟨⟨hu.1, hu.2⟩, ⟨by omega, by omega⟩, ⟨by show _ ≤ A 32 u.toNat; omega, by show A 32 u.toNat < _; omega⟩, fun z => ?_, fun z => ⟨⟨by omega, by omega⟩, ⟨by omega, by omega⟩, ⟨by omega, by omega⟩, ⟨by omega, by omega⟩, ?_⟩⟩
    · have z : A 32 u.toNat ≤ k := z
      omega
    · have e1 : n_updA (n_updA (n_cp (n_cp A 33 (50 * u).toNat k (A 50)) 34 (50 * u).toNat k (A 51)) 33 (50 * u + k).toNat (A 50 k)) 34 (50 * u + k).toNat (A 51 k) = n_cp (n_cp A 33 (50 * u).toNat (k + 1) (A 50)) 34 (50 * u).toNat (k + 1) (A 51) := by
        rw [n_cp_upd (by decide), n_cp_succ (by omega) rfl, n_cp_succ (by omega) rfl]
      have := ih (k + 1) (by omega)
      rw [← e1] at this
      exact this
/-- the parameters' names -/
theorem n_l141c (hd : 6 ≤ d) (hu : 0 ≤ u ∧ u < 16) (hw : n_rng w) (hn : 0 ≤ n ∧ n ≤ 4) (h212 : ∀ o, NP Z d 141 212 (n_L7 w nm n fr u o) [] (S, n_cp A 35 (4 * u).toNat (if w = 2 then n.toNat else 0) (A 48)) Post) : ∀ (q k : Nat), (k : Int) + q = n → (w = 2 ∨ k = 0) → NP Z d 141 176 (n_L7 w nm n fr u (some (xI k))) [] (S, n_cp A 35 (4 * u).toNat k (A 48)) Post := by
  intro q
  induction q with
  | zero =>
    intro k hk hwk
    have hn0 : (if w = 2 then n.toNat else 0) = k := by
      by_cases h2 : w = 2
      · rw [if_pos h2]; omega
      · rw [if_neg h2]; have := hwk.resolve_left h2; omega
    refine n_at nb141_176 hd rfl ⟨⟨by omega, by omega⟩, ⟨by omega, by omega⟩, fun _ => ?_, fun z => ?_⟩
    · have := h212 (some (xI k))
      rw [hn0] at this
      exact this
    · omega
  | succ q ih =>
    intro k hk hwk
    refine n_at nb141_176 hd rfl ⟨⟨by omega, by omega⟩, ⟨by omega, by omega⟩, fun z => ?_, fun z => ⟨hw, ⟨by decide, by decide⟩, fun z2 => ?_, fun z2 => ⟨⟨by omega, by omega⟩, ⟨by omega, by omega⟩, ?_⟩⟩⟩
    · omega
    · have hk0 := hwk.resolve_left z2
      have := h212 (some (xI k))
      rw [if_neg z2, ← hk0] at this
      exact this
    · have e := n_cp_succ (A := A) (a := 35) (base := (4 * u).toNat) (k := k) (i := (4 * u + k).toNat) (g := A 48) (x := A 48 k) (by omega) rfl
      have := ih (k + 1) (by omega) (Or.inl z2)
      rw [← e] at this
      exact this
/-- a macro's text -/
theorem n_l141d (hd : 6 ≤ d) (hu : 0 ≤ u ∧ u < 16) (hw : n_rng w) (hf : 0 ≤ fr ∧ fr ≤ S 1) (ht : S 1 ≤ 120) (h273 : ∀ o, NP Z d 141 273 (n_L7 w nm n fr u o) [] (S, n_cp A 36 (120 * u).toNat (if w = 2 then (S 1 - fr).toNat else 0) (fun j => n_c (A 26 (fr.toNat + j)))) Post) : ∀ (q k : Nat), fr + (k : Int) + q = S 1 → (w = 2 ∨ k = 0) → NP Z d 141 230 (n_L7 w nm n fr u (some (xI (fr + k)))) [] (S, n_cp A 36 (120 * u).toNat k (fun j => n_c (A 26 (fr.toNat + j)))) Post := by
  intro q
  induction q with
  | zero =>
    intro k hk hwk
    have hn0 : (if w = 2 then (S 1 - fr).toNat else 0) = k := by
      by_cases h2 : w = 2
      · rw [if_pos h2]; omega
      · rw [if_neg h2]; have := hwk.resolve_left h2; omega
    refine n_at nb141_230 hd rfl ⟨⟨by omega, by omega⟩, ⟨by show _ ≤ S 1; omega, by show S 1 < _; omega⟩, fun _ => ?_, fun z => ?_⟩
    · have := h273 (some (xI (fr + k)))
      rw [hn0] at this
      exact this
    · have z : ¬ S 1 ≤ fr + k := z
      omega
  | succ q ih =>
    intro k hk hwk
    refine n_at nb141_230 hd rfl ⟨⟨by omega, by omega⟩, ⟨by show _ ≤ S 1; omega, by show S 1 < _; omega⟩, fun z => ?_, fun z => ⟨hw, ⟨by decide, by decide⟩, fun z2 => ?_, fun z2 => ⟨⟨by omega, by omega⟩, ⟨by omega, by omega⟩, ?_⟩⟩⟩
    · have z : S 1 ≤ fr + k := z
      omega
    · have hk0 := hwk.resolve_left z2
      have := h273 (some (xI (fr + k)))
      rw [if_neg z2] at this
      have e0 : n_cp A 36 (120 * u).toNat k (fun j => n_c (A 26 (fr.toNat + j))) = n_cp A 36 (120 * u).toNat 0 (fun j => n_c (A 26 (fr.toNat + j))) := by rw [hk0]
      rw [← e0] at this
      exact this
    · have e := n_cp_succ (A := A) (a := 36) (base := (120 * u).toNat) (k := k) (i := (120 * u + (fr + k) - fr).toNat) (g := fun j => n_c (A 26 (fr.toNat + j))) (x := n_c (A 26 (fr + k).toNat)) (by omega) (by show n_c (A 26 (fr + k).toNat) = n_c (A 26 (fr.toNat + k)); rw [show (fr + (k : Int)).toNat = fr.toNat + k from by omega])
      have := ih (k + 1) (by omega) (Or.inl z2)
      rw [← e, show fr + ((k + 1 : Nat) : Int) = fr + k + 1 from by omega] at this
      exact this
end N28
end
section
/-! A UNIT IS KEPT: the contract -/
def n_k1 (s : nS) (w nm n : Int) : Nat → Nat → Int := n_updA (n_updA (n_updA (n_updA (n_updA s.2 27 (s.1 2).toNat w) 28 (s.1 2).toNat nm) 29 (s.1 2).toNat n) 30 (s.1 2).toNat (if w = 2 then 0 else s.1 30)) 32 (s.1 2).toNat (if w = 2 then 0 else s.1 34)
def n_k2 (s : nS) (w nm n : Int) : Nat → Nat → Int := n_cp (n_k1 s w nm n) 31 (200 * s.1 2).toNat (if w = 2 then 0 else s.1 30).toNat (fun j => n_b (n_k1 s w nm n 47 j))
def n_k3 (s : nS) (w nm n : Int) : Nat → Nat → Int := n_cp (n_cp (n_k2 s w nm n) 33 (50 * s.1 2).toNat (if w = 2 then 0 else s.1 34).toNat (n_k2 s w nm n 50)) 34 (50 * s.1 2).toNat (if w = 2 then 0 else s.1 34).toNat (n_k2 s w nm n 51)
def n_k4 (s : nS) (w nm n : Int) : Nat → Nat → Int := n_cp (n_k3 s w nm n) 35 (4 * s.1 2).toNat (if w = 2 then n.toNat else 0) (n_k3 s w nm n 48)
def n_k5 (s : nS) (w nm n fr : Int) : Nat → Nat → Int := n_updA (n_k4 s w nm n) 37 (s.1 2).toNat (s.1 1 - fr)
def n_kp (s : nS) (w nm n fr : Int) : nS := (n_upd s.1 2 (s.1 2 + 1), n_cp (n_k5 s w nm n fr) 36 (120 * s.1 2).toNat (if w = 2 then (s.1 1 - fr).toNat else 0) (fun j => n_c (n_k5 s w nm n fr 26 (fr.toNat + j))))
section N29
variable {Z : Nat → List Int32} {d : Nat} {s : nS} {w nm n fr : Int}
theorem n_k2_30 : n_k2 s w nm n 32 (s.1 2).toNat = (if w = 2 then 0 else s.1 34) := by
  show n_updA _ 32 (s.1 2).toNat (if w = 2 then 0 else s.1 34) 32 (s.1 2).toNat = _
  rw [n_ua_eq, if_pos rfl]
theorem ng141 (hd : 6 ≤ d) (hu : 0 ≤ s.1 2 ∧ s.1 2 < 16) (hw : w = 0 ∨ w = 1 ∨ w = 2) (hsz : ¬ w = 2 → (0 ≤ s.1 30 ∧ s.1 30 ≤ 200) ∧ (0 ≤ s.1 34 ∧ s.1 34 ≤ 50)) (hn : 0 ≤ n ∧ n ≤ 4) (hf : 0 ≤ fr ∧ fr ≤ s.1 1) (ht : s.1 1 ≤ 120) : NG Z d 141 [xR 25, xI w, xI nm, xI n, xI fr] s (fun r s' => r = some (s.1 2) ∧ s' = n_kp s w nm n fr) := by
  have hwr : n_rng w := ⟨by omega, by omega⟩
  have hs0 : 0 ≤ (if w = 2 then 0 else s.1 30) ∧ (if w = 2 then 0 else s.1 30) ≤ 200 := by
    by_cases h : w = 2
    · rw [if_pos h]; decide
    · rw [if_neg h]; exact (hsz h).1
  have hx0 : 0 ≤ (if w = 2 then 0 else s.1 34) ∧ (if w = 2 then 0 else s.1 34) ≤ 50 := by
    by_cases h : w = 2
    · rw [if_pos h]; decide
    · rw [if_neg h]; exact (hsz h).2
  have h273 : ∀ o, NP Z d 141 273 (n_L7 w nm n fr (s.1 2) o) [] (s.1, n_cp (n_k5 s w nm n fr) 36 (120 * s.1 2).toNat (if w = 2 then (s.1 1 - fr).toNat else 0) (fun j => n_c (n_k5 s w nm n fr 26 (fr.toNat + j)))) (fun r s' => r = some (s.1 2) ∧ s' = n_kp s w nm n fr) := fun o => n_at nb141_273 hd rfl ⟨rfl, rfl⟩
  have h212 : ∀ o, NP Z d 141 212 (n_L7 w nm n fr (s.1 2) o) [] (s.1, n_k4 s w nm n) (fun r s' => r = some (s.1 2) ∧ s' = n_kp s w nm n fr) := fun o => by
    refine n_at nb141_212 hd rfl ⟨⟨hu.1, hu.2⟩, ?_⟩
    have := n_l141d (Z := Z) (S := s.1) (A := n_k5 s w nm n fr) (nm := nm) (n := n) hd hu hwr hf ht h273 (s.1 1 - fr).toNat 0 (by omega) (Or.inr rfl)
    rw [n_cp_0, show fr + ((0 : Nat) : Int) = fr from by omega] at this
    exact this
  have h173 : ∀ o, NP Z d 141 173 (n_L7 w nm n fr (s.1 2) o) [] (s.1, n_k3 s w nm n) (fun r s' => r = some (s.1 2) ∧ s' = n_kp s w nm n fr) := fun o => by
    refine n_at nb141_173 hd rfl ?_
    have := n_l141c (Z := Z) (S := s.1) (A := n_k3 s w nm n) (nm := nm) (fr := fr) hd hu hwr hn h212 n.toNat 0 (by omega) (Or.inr rfl)
    rw [n_cp_0] at this
    exact this
  have h112 : ∀ o, NP Z d 141 112 (n_L7 w nm n fr (s.1 2) o) [] (s.1, n_k2 s w nm n) (fun r s' => r = some (s.1 2) ∧ s' = n_kp s w nm n fr) := fun o => by
    refine n_at nb141_112 hd rfl ?_
    have := n_l141b (Z := Z) (S := s.1) (A := n_k2 s w nm n) (w := w) (nm := nm) (n := n) (fr := fr) hd hu _ hx0 n_k2_30 h173 (if w = 2 then 0 else s.1 34).toNat 0 (by omega)
    rw [n_cp_0, n_cp_0] at this
    exact this
  have h69 : NP Z d 141 69 (n_L7 w nm n fr (s.1 2) none) [xI (if w = 2 then 0 else s.1 34), xI (s.1 2), xR 32] (s.1, n_updA (n_updA (n_updA (n_updA s.2 27 (s.1 2).toNat w) 28 (s.1 2).toNat nm) 29 (s.1 2).toNat n) 30 (s.1 2).toNat (if w = 2 then 0 else s.1 30)) (fun r s' => r = some (s.1 2) ∧ s' = n_kp s w nm n fr) := by
    refine n_at nb141_69 hd rfl ⟨⟨hu.1, hu.2⟩, ?_⟩
    have e30 : n_k1 s w nm n 30 (s.1 2).toNat = (if w = 2 then 0 else s.1 30) := by
      unfold n_k1
      rw [n_ua_ne (by decide), n_ua_eq, if_pos rfl]
    have := n_l141a (Z := Z) (S := s.1) (A := n_k1 s w nm n) (w := w) (nm := nm) (n := n) (fr := fr) hd hu _ hs0 e30 h112 (if w = 2 then 0 else s.1 30).toNat 0 (by omega)
    rw [n_cp_0] at this
    exact this
  have h49 : NP Z d 141 49 (n_L7 w nm n fr (s.1 2) none) [xI (if w = 2 then 0 else s.1 30), xI (s.1 2), xR 30] (s.1, n_updA (n_updA (n_updA s.2 27 (s.1 2).toNat w) 28 (s.1 2).toNat nm) 29 (s.1 2).toNat n) (fun r s' => r = some (s.1 2) ∧ s' = n_kp s w nm n fr) := by
    refine n_at nb141_49 hd rfl ⟨⟨hu.1, hu.2⟩, hwr, ⟨by decide, by decide⟩, fun z => ?_, fun z => ?_⟩
    · refine n_at nb141_65 hd rfl ?_
      rw [if_neg z] at h69
      exact h69
    · rw [if_pos z] at h69
      exact h69
  refine n_G_of (L := [some (xR 25), some (xI w), some (xI nm), some (xI n), some (xI fr), none, none]) (by rw [nl141]; exact Nat.le_of_ble_eq_true rfl) (by rw [nl141]; rfl) ?_
  refine n_at nb141_0 hd rfl ⟨⟨hu.1, hu.2⟩, ⟨hu.1, hu.2⟩, ⟨hu.1, hu.2⟩, hwr, ⟨by decide, by decide⟩, fun z => ?_, fun z => ?_⟩
  · refine n_at nb141_45 hd rfl ?_
    rw [if_neg z] at h49
    exact h49
  · rw [if_pos z] at h49
    exact h49
end N29
end
section
/-! A LIST OF PARAMETERS -/
theorem n_isch_cg {A B : Nat → Nat → Int} (h : ∀ i, B 41 i = A 41 i) : ∀ (xs : List Int) (c : Int), n_isch A c xs → n_isch B c xs
  | [], c, hc => hc
  | x :: xs, c, hc => ⟨hc.1, hc.2.1, hc.2.2.1, by rw [h]; exact n_isch_cg h xs _ hc.2.2.2⟩
/-- behind k of them -/
def n_PI (s : nS) (f : Int) (xs : List Int) (t : nS) (k : Int) : Prop := (∀ a i, a ≠ 48 ∧ a ≠ 49 → t.2 a i = s.2 a i) ∧ (∀ j, j ≠ 28 ∧ j ≠ 32 → t.1 j = s.1 j) ∧ (t.1 28 = 0 ∨ t.1 28 = 1) ∧ t.1 32 = k ∧ (t.1 28 = 0 → s.2 38 f.toNat = 2 ∧ xs.length ≤ 4 ∧ (∀ i : Nat, (i : Int) < k → (∀ y, xs[i]? = some y → s.2 38 (s.2 40 y.toNat).toNat = 1) ∧ t.2 49 i = i ∧ n_rng (t.2 48 i)))
section N30
variable {Z : Nat → List Int32} {d : Nat} {s : nS} {f : Int} {xs : List Int}
theorem n_PI_b {t : nS} {k v : Int} (h : n_PI s f xs t k) (hv : v = 0 ∨ v = 1) (h2 : v = 0 → t.1 28 = 0) : n_PI s f xs (n_upd t.1 28 v, t.2) k := by
  obtain ⟨h1, h3, h4, h5, h6⟩ := h
  exact ⟨h1, fun j hj => by show n_upd t.1 28 v j = _; rw [n_u_ne hj.1]; exact h3 j hj, hv, h5, fun hb => h6 (h2 hb)⟩
/-- none of the earlier ones has that name -/
theorem n_l126b {n k y : Int} (hd : 6 ≤ d) (hf : 0 ≤ f ∧ f < 1300) (hk : 0 ≤ k ∧ k ≤ 4 ∧ k < xs.length) (hx : n_isch s.2 (s.2 39 f.toNat) xs) (hh : ∀ x ∈ xs, (0 ≤ s.2 40 x.toNat ∧ s.2 40 x.toNat < 1300) ∧ (s.2 38 (s.2 40 x.toNat).toNat = 1 → n_rng (s.2 39 (s.2 40 x.toNat).toNat))) (hy : 0 ≤ y ∧ y < 1300) (Post : nA → nS → Prop) (h130 : ∀ (t : nS) (j : Int), n_PI s f xs t k → (t.1 28 = 0 → s.2 38 y.toNat = 1) → NP Z (d + 2) 126 130 [some (xR 25), some (xI f), some (xI n), some (xI k), some (xI y), some (xI j)] [] t Post) : ∀ (q : Nat) (t : nS) (j : Int), 0 ≤ j → j + q = k → n_PI s f xs t k → (t.1 28 = 0 → s.2 38 y.toNat = 1 ∧ n_rng (s.2 39 y.toNat)) → NP Z (d + 2) 126 80 [some (xR 25), some (xI f), some (xI n), some (xI k), some (xI y), some (xI j)] [] t Post := by
  intro q
  induction q with
  | zero =>
    intro t j h0 hj hP hb
    exact n_at nb126_80 (by omega) rfl ⟨⟨by omega, by omega⟩, ⟨by omega, by omega⟩, fun _ => h130 t j hP (fun h => (hb h).1), fun z => by omega⟩
  | succ q ih =>
    intro t j h0 hj hP hb
    obtain ⟨p1, p2, p3, p4, p5⟩ := id hP
    refine n_at nb126_80 (by omega) rfl ⟨⟨by omega, by omega⟩, ⟨by omega, by omega⟩, fun z => by omega, fun _ => ⟨⟨by omega, by omega⟩, fun _ => h130 t j hP (fun h => (hb h).1), fun z => ?_⟩⟩
    obtain ⟨b1, b2⟩ := hb z
    obtain ⟨c1, c2, c3⟩ := p5 z
    have hlt : j.toNat < xs.length := by omega
    have hj' : xs[j.toNat]? = some xs[j.toNat] := List.getElem?_eq_getElem hlt
    obtain ⟨e1, e2⟩ := hh _ (List.mem_of_getElem? hj')
    have e3 := (c3 j.toNat (by omega)).1 _ hj'
    have e39 : ∀ i, t.2 39 i = s.2 39 i := fun i => p1 39 i (by decide)
    have e40 : ∀ i, t.2 40 i = s.2 40 i := fun i => p1 40 i (by decide)
    refine n_iv (vs := [xR 25, xI f, xI j]) (r := [xR 39, xR 25]) nn122 (by simp) rfl nc122 (ng122 (s := t) (d := d + 1) (by omega) hf ⟨h0, by omega⟩ (by rw [e39]; exact n_isch_cg (fun i => p1 41 i (by decide)) xs _ hx) hj') (fun r s' hr => ?_)
    rw [hr.1, hr.2, e40]
    have h121 : ∀ v : Bool, NP Z (d + 2) 126 121 [some (xR 25), some (xI f), some (xI n), some (xI k), some (xI y), some (xI j)] [xI (n_T v), xR 25] t Post := fun v => by
      refine n_at nb126_121 (by omega) rfl ⟨n_T01 v, ?_⟩
      exact ih _ (j + 1) (by omega) (by omega) (n_PI_b hP (n_T01 v) (fun _ => z)) (fun _ => ⟨b1, b2⟩)
    refine ⟨e1, ⟨hy.1, hy.2⟩, ?_, ?_, fun _ => n_at nb126_120 (by omega) rfl (h121 false), fun _ => h121 true⟩
    · rw [e39]; exact e2 e3
    · rw [e39]; exact b2
end N30
end
section
section N31
variable {Z : Nat → List Int32} {d : Nat} {s : nS} {f : Int} {xs : List Int}
theorem n_l126a (hd : 6 ≤ d) (hf : 0 ≤ f ∧ f < 1300) (hx : n_isch s.2 (n_fst s f) xs) (hl : xs.length < 10000) (hh : ∀ x ∈ xs, (0 ≤ s.2 40 x.toNat ∧ s.2 40 x.toNat < 1300) ∧ n_rng (s.2 38 (s.2 40 x.toNat).toNat) ∧ (s.2 38 (s.2 40 x.toNat).toNat = 1 → n_rng (s.2 39 (s.2 40 x.toNat).toNat))) : ∀ (q : Nat) (t : nS) (k : Int) (o4 o5 : Option nV), 0 ≤ k → k + q = xs.length → n_PI s f xs t k → NP Z (d + 2) 126 39 [some (xR 25), some (xI f), some (xI (xs.length : Int)), some (xI k), o4, o5] [] t (fun r s' => r = some (xs.length : Int) ∧ ∃ k' : Int, (0 ≤ k' ∧ k' ≤ xs.length) ∧ n_PI s f xs s' k' ∧ (s'.1 28 = 0 → k' = xs.length)) := by
  intro q
  induction q with
  | zero =>
    intro t k o4 o5 h0 hk hP
    refine n_at nb126_39 (by omega) rfl ⟨⟨by omega, by omega⟩, ⟨by omega, by omega⟩, fun _ => ?_, fun z => by omega⟩
    exact n_at nb126_148 (by omega) rfl ⟨rfl, k, ⟨by omega, by omega⟩, hP, fun _ => by omega⟩
  | succ q ih =>
    intro t k o4 o5 h0 hk hP
    obtain ⟨p1, p2, p3, p4, p5⟩ := id hP
    have e38 : ∀ i, t.2 38 i = s.2 38 i := fun i => p1 38 i (by decide)
    have e39 : ∀ i, t.2 39 i = s.2 39 i := fun i => p1 39 i (by decide)
    have e40 : ∀ i, t.2 40 i = s.2 40 i := fun i => p1 40 i (by decide)
    refine n_at nb126_39 (by omega) rfl ⟨⟨by omega, by omega⟩, ⟨by omega, by omega⟩, fun z => by omega, fun _ => ⟨⟨by omega, by omega⟩, fun z => ?_, fun z => ?_⟩⟩
    · exact n_at nb126_148 (by omega) rfl ⟨rfl, k, ⟨by omega, by omega⟩, hP, fun h => absurd h z⟩
    obtain ⟨c1, c2, c3⟩ := p5 z
    have hx2 : n_isch s.2 (s.2 39 f.toNat) xs := by
      have := hx
      unfold n_fst at this
      rw [if_pos c1] at this
      exact this
    have hlt : k.toNat < xs.length := by omega
    have hk' : xs[k.toNat]? = some xs[k.toNat] := List.getElem?_eq_getElem hlt
    have hmem := List.mem_of_getElem? hk'
    generalize xs[k.toNat] = x at hk' hmem
    obtain ⟨e1, e2, e3⟩ := hh x hmem
    refine n_iv (vs := [xR 25, xI f, xI k]) (r := []) nn122 (by simp) rfl nc122 (ng122 (s := t) (d := d + 1) (by omega) hf ⟨h0, by omega⟩ (by rw [e39]; exact n_isch_cg (fun i => p1 41 i (by decide)) xs _ hx2) hk') (fun r s' hr => ?_)
    rw [hr.1, hr.2, e40]
    -- behind the names' comparison
    have h130 : ∀ (t' : nS) (j : Int), n_PI s f xs t' k → (t'.1 28 = 0 → s.2 38 (s.2 40 x.toNat).toNat = 1) → NP Z (d + 2) 126 130 [some (xR 25), some (xI f), some (xI (xs.length : Int)), some (xI k), some (xI (s.2 40 x.toNat)), some (xI j)] [] t' (fun r s' => r = some (xs.length : Int) ∧ ∃ k' : Int, (0 ≤ k' ∧ k' ≤ xs.length) ∧ n_PI s f xs s' k' ∧ (s'.1 28 = 0 → k' = xs.length)) := by
      intro t' j hP' hb'
      obtain ⟨r1, r2, r3, r4, r5⟩ := id hP'
      refine n_at nb126_130 (by omega) rfl ⟨e1, ?_⟩
      refine n_iv (vs := [xR 25, xI (t'.2 39 (s.2 40 x.toNat).toNat), xI k]) (r := []) nn127 (by simp) rfl nc127 (ng127 (s := t') (d := d + 1) (by omega) ⟨by omega, by omega⟩) (fun r s' hr => ?_)
      rw [hr.1, hr.2]
      refine ih _ (k + 1) _ _ (by omega) (by omega) ⟨fun a i ha => ?_, fun j hj => ?_, r3, ?_, fun hb => ?_⟩
      · show n_updA (n_updA t'.2 48 _ _) 49 _ _ a i = _
        rw [n_ua_ne ha.2, n_ua_ne ha.1]
        exact r1 a i ha
      · show n_upd t'.1 32 _ j = _
        rw [n_u_ne hj.2]
        exact r2 j hj
      · show t'.1 32 + 1 = k + 1
        omega
      · have hb : t'.1 28 = 0 := hb
        obtain ⟨g1, g2, g3⟩ := r5 hb
        refine ⟨g1, g2, fun i hi => ?_⟩
        dsimp only
        rw [n_ua_eq, n_ua_ne (show 49 ≠ 48 by decide), n_ua_ne (show 48 ≠ 49 by decide), n_ua_eq, r4]
        by_cases hq : i = k.toNat
        · rw [if_pos hq, if_pos hq]
          refine ⟨fun y hy => ?_, by omega, ?_⟩
          · rw [hq, hk'] at hy
            cases hy
            exact hb' hb
          · rw [r1 39 _ (by decide)]
            exact e3 (hb' hb)
        · rw [if_neg hq, if_neg hq]
          exact g3 i (by omega)
    have h74 : ∀ v : Bool, (v = false → s.2 38 (s.2 40 x.toNat).toNat = 1) → NP Z (d + 2) 126 74 [some (xR 25), some (xI f), some (xI (xs.length : Int)), some (xI k), some (xI (s.2 40 x.toNat)), o5] [xI (n_T v), xR 25] t (fun r s' => r = some (xs.length : Int) ∧ ∃ k' : Int, (0 ≤ k' ∧ k' ≤ xs.length) ∧ n_PI s f xs s' k' ∧ (s'.1 28 = 0 → k' = xs.length)) := by
      intro v hv
      refine n_at nb126_74 (by omega) rfl ⟨n_T01 v, ?_⟩
      refine n_l126b hd hf ⟨h0, by omega, by omega⟩ hx2 (fun x hx => ⟨(hh x hx).1, (hh x hx).2.2⟩) e1 _ h130 k.toNat _ 0 (by omega) (by omega) (n_PI_b hP (n_T01 v) (fun _ => z)) (fun hb => ?_)
      have hb : n_T v = 0 := hb
      have h1 := hv (n_T0 hb)
      exact ⟨h1, e3 h1⟩
    refine n_iv (vs := [xR 25, xI (s.2 40 x.toNat)]) (r := [xR 25]) nn124 (by simp) rfl nc124 (ng124 (s := t) (d := d) hd e1 (by rw [e38]; exact e2) (by rw [e38, e39]; exact e3)) (fun r s' hr => ?_)
    obtain ⟨⟨v, e5, e6⟩, e7⟩ := hr
    rw [e5, e7]
    rw [e38] at e6
    refine ⟨n_rngT v, fun z2 => ?_, fun z2 => h74 true (fun h => absurd h (by decide))⟩
    exact n_at nb126_73 (by omega) rfl (h74 false (fun _ => e6 (n_T1 z2)))
theorem ng126 (hd : 6 ≤ d) (hf : 0 ≤ f ∧ f < 1300) (hkf : n_rng (s.2 38 f.toNat)) (hx : n_isch s.2 (n_fst s f) xs) (hl : xs.length < 10000) (hh : ∀ x ∈ xs, (0 ≤ s.2 40 x.toNat ∧ s.2 40 x.toNat < 1300) ∧ n_rng (s.2 38 (s.2 40 x.toNat).toNat) ∧ (s.2 38 (s.2 40 x.toNat).toNat = 1 → n_rng (s.2 39 (s.2 40 x.toNat).toNat))) (hb : s.1 28 = 0 ∨ s.1 28 = 1) (h32 : s.1 32 = 0) : NG Z (d + 2) 126 [xR 25, xI f] s (fun r s' => r = some (xs.length : Int) ∧ ∃ k' : Int, (0 ≤ k' ∧ k' ≤ xs.length) ∧ n_PI s f xs s' k' ∧ (s'.1 28 = 0 → k' = xs.length)) := by
  have h34 : ∀ v : Bool, (v = false → s.2 38 f.toNat = 2 ∧ xs.length ≤ 4) → NP Z (d + 2) 126 34 [some (xR 25), some (xI f), some (xI (xs.length : Int)), none, none, none] [xI (n_T v), xR 25] s (fun r s' => r = some (xs.length : Int) ∧ ∃ k' : Int, (0 ≤ k' ∧ k' ≤ xs.length) ∧ n_PI s f xs s' k' ∧ (s'.1 28 = 0 → k' = xs.length)) := by
    intro v hv
    refine n_at nb126_34 (by omega) rfl ⟨n_T01 v, ?_⟩
    refine n_l126a hd hf hx hl hh xs.length _ 0 none none (by omega) (by omega) ⟨fun _ _ _ => rfl, fun j hj => n_u_ne hj.1, n_T01 v, h32, fun hz => ?_⟩
    have hz : n_T v = 0 := hz
    have := hv (n_T0 hz)
    exact ⟨this.1, this.2, fun i hi => by omega⟩
  have h29 : NP Z (d + 2) 126 29 [some (xR 25), some (xI f), some (xI (xs.length : Int)), none, none, none] [xR 25] s (fun r s' => r = some (xs.length : Int) ∧ ∃ k' : Int, (0 ≤ k' ∧ k' ≤ xs.length) ∧ n_PI s f xs s' k' ∧ (s'.1 28 = 0 → k' = xs.length)) := n_at nb126_29 (by omega) rfl (h34 true (fun h => absurd h (by decide)))
  refine n_G_of (L := [some (xR 25), some (xI f), none, none, none, none]) (by rw [nl126]; exact Nat.le_of_ble_eq_true rfl) (by rw [nl126]; rfl) ?_
  refine n_at nb126_0 (by omega) rfl ?_
  refine n_iv (vs := [xR 25, xI f]) (r := []) nn121 (by simp) rfl nc121 (ng121 (by omega) hf hkf hx (by omega)) (fun r s' hr => ?_)
  rw [hr.1, hr.2]
  refine ⟨⟨by omega, by omega⟩, fun _ => h29, fun z => ⟨hf, hkf, ⟨by decide, by decide⟩, fun _ => h29, fun z2 => ⟨⟨by omega, by omega⟩, ⟨by decide, by decide⟩, fun z3 => ?_, fun _ => h29⟩⟩⟩
  exact n_at nb126_33 (by omega) rfl (h34 false (fun _ => ⟨z2, by omega⟩))
end N31
end
section
/-! HOW MANY UNITS STAND IN THE IMAGE'S ORDER -/
def n_cnt (P : Nat → Bool) : Nat → Int
  | 0 => 0
  | k + 1 => n_cnt P k + (if P k = true then 1 else 0)
theorem n_cnt_le (P : Nat → Bool) : ∀ n : Nat, 0 ≤ n_cnt P n ∧ n_cnt P n ≤ n
  | 0 => ⟨Int.le_refl _, Int.le_refl _⟩
  | k + 1 => by
    have := n_cnt_le P k
    unfold n_cnt
    split <;> constructor <;> omega
theorem n_cnt_lt {P : Nat → Bool} {u : Nat} (hu : P u = false) : ∀ n : Nat, u < n → n_cnt P n < n
  | 0, h => absurd h (by omega)
  | k + 1, h => by
    have h1 := n_cnt_le P k
    unfold n_cnt
    by_cases hk : u = k
    · subst hk
      rw [hu, if_neg (by decide)]
      omega
    · have := n_cnt_lt hu k (by omega)
      split <;> omega
theorem n_cnt_cg {P Q : Nat → Bool} : ∀ n : Nat, (∀ i, i < n → P i = Q i) → n_cnt P n = n_cnt Q n
  | 0, _ => rfl
  | k + 1, h => by
    unfold n_cnt
    rw [n_cnt_cg k (fun i hi => h i (by omega)), h k (by omega)]
theorem n_cnt_add {P Q : Nat → Bool} {u : Nat} (hp : P u = false) (hq : Q u = true) (he : ∀ i, i ≠ u → Q i = P i) : ∀ n : Nat, u < n → n_cnt Q n = n_cnt P n + 1
  | 0, h => absurd h (by omega)
  | k + 1, h => by
    unfold n_cnt
    by_cases hk : u = k
    · subst hk
      rw [hp, hq, n_cnt_cg u (fun i hi => he i (by omega)), if_pos rfl, if_neg (by decide)]
      omega
    · rw [n_cnt_add hp hq he k (by omega), he k (fun h => hk h.symm)]
      omega
theorem n_lat_cg {P Q : Nat → Bool} : ∀ n : Nat, (∀ i, i < n → P i = Q i) → n_lat P n = n_lat Q n
  | 0, _ => rfl
  | k + 1, h => by
    unfold n_lat
    rw [n_lat_cg k (fun i hi => h i (by omega)), h k (by omega)]
/-- a unit is put at the order's end -/
def n_ord (s : nS) (f : Int) : nS := (n_upd s.1 43 (s.1 43 + 1), n_updA s.2 52 (s.1 43).toNat f)
theorem n_ord_st {s : nS} {f u : Int} (h : 0 ≤ s.1 43) : n_stands (n_ord s f) u = if f = u then s.1 43 else n_stands s u := by
  have e43 : (n_ord s f).1 43 = s.1 43 + 1 := rfl
  have e52 : ∀ i, (n_ord s f).2 52 i = if i = (s.1 43).toNat then f else s.2 52 i := fun i => by
    show n_updA s.2 52 _ f 52 i = _
    rw [n_ua_eq]
  unfold n_stands
  rw [e43, show (s.1 43 + 1).toNat = (s.1 43).toNat + 1 from by omega]
  show (if decide ((n_ord s f).2 52 (s.1 43).toNat = u) = true then _ else _) = _
  rw [e52, if_pos rfl]
  by_cases hq : f = u
  · rw [if_pos hq, if_pos (decide_eq_true hq)]
    omega
  · rw [if_neg hq, if_neg (fun z => hq (of_decide_eq_true z))]
    refine n_lat_cg _ (fun i hi => ?_)
    rw [e52, if_neg (by omega)]
end
section
/-! meet: WHAT A UNIT CALLS STANDS IN THE ORDER -/
def n_OI (s : nS) : Prop := (0 ≤ s.1 43 ∧ s.1 43 ≤ 16) ∧ s.1 43 = n_cnt (fun u => decide (0 ≤ n_stands s u)) 16 ∧ (∀ i : Nat, (i : Int) < s.1 43 → 0 ≤ s.2 52 i ∧ s.2 52 i < s.1 2) ∧ (∀ i, n_rng (s.2 52 i))
/-- t: more units in the order than in s, nothing else -/
def n_OM (s t : nS) : Prop := (∀ j, j ≠ 43 → t.1 j = s.1 j) ∧ (∀ a i, a ≠ 52 → t.2 a i = s.2 a i) ∧ s.1 43 ≤ t.1 43 ∧ (∀ i : Nat, (i : Int) < s.1 43 → t.2 52 i = s.2 52 i) ∧ (∀ v, 0 ≤ n_stands s v → 0 ≤ n_stands t v)
/-- the fix k of u is met in t -/
def n_met (t : nS) (u k : Int) : Prop := 0 ≤ n_latest t 1 (t.2 34 (50 * u + k).toNat) ∧ t.2 31 (200 * u + t.2 33 (50 * u + k).toNat + 2).toNat % 256 = t.2 29 (n_latest t 1 (t.2 34 (50 * u + k).toNat)).toNat ∧ 0 ≤ n_stands t (n_latest t 1 (t.2 34 (50 * u + k).toNat))
theorem n_OI_ord {s : nS} {f : Int} (h : n_OI s) (hu : s.1 2 ≤ 16) (hf : 0 ≤ f ∧ f < s.1 2) (hn : n_stands s f < 0) : s.1 43 < 16 ∧ n_OI (n_ord s f) ∧ n_OM s (n_ord s f) := by
  obtain ⟨h1, h2, h3, h4⟩ := h
  have hpf : decide (0 ≤ n_stands s (f.toNat : Nat)) = false := decide_eq_false (by rw [show ((f.toNat : Nat) : Int) = f from by omega]; omega)
  have hlt : s.1 43 < 16 := by
    rw [h2]
    exact n_cnt_lt (P := fun u => decide (0 ≤ n_stands s u)) hpf 16 (by omega)
  have e43 : (n_ord s f).1 43 = s.1 43 + 1 := rfl
  have e2 : (n_ord s f).1 2 = s.1 2 := rfl
  have e52 : ∀ i, (n_ord s f).2 52 i = if i = (s.1 43).toNat then f else s.2 52 i := fun i => by
    show n_updA s.2 52 _ f 52 i = _
    rw [n_ua_eq]
  refine ⟨hlt, ⟨⟨by omega, by omega⟩, ?_, fun i hi => ?_, fun i => ?_⟩, fun j hj => ?_, fun a i ha => ?_, by omega, fun i hi => ?_, fun v hv => ?_⟩
  · rw [e43, n_cnt_add (P := fun u => decide (0 ≤ n_stands s u)) (Q := fun u => decide (0 ≤ n_stands (n_ord s f) u)) (u := f.toNat) hpf ?_ (fun i hi => ?_) 16 (by omega), ← h2]
    · show decide (0 ≤ n_stands (n_ord s f) ((f.toNat : Nat) : Int)) = true
      rw [n_ord_st h1.1, if_pos (by omega)]
      exact decide_eq_true h1.1
    · show decide (0 ≤ n_stands (n_ord s f) (i : Int)) = decide (0 ≤ n_stands s (i : Int))
      rw [n_ord_st h1.1, if_neg (by omega)]
  · rw [e52, e2]
    split
    · exact hf
    · exact h3 i (by omega)
  · rw [e52]
    split
    · exact ⟨by omega, by omega⟩
    · exact h4 i
  · exact n_u_ne hj
  · exact n_ua_ne ha
  · rw [e52, if_neg (by omega)]
  · rw [n_ord_st h1.1]
    split
    · exact h1.1
    · exact hv
theorem n_OM_met {t t' : nS} {u k : Int} (h : n_OM t t') (hm : n_met t u k) : n_met t' u k := by
  obtain ⟨h1, h2, h3, h4, h5⟩ := h
  have el : ∀ w v, n_latest t' w v = n_latest t w v := fun w v => by
    unfold n_latest
    rw [h1 2 (by decide)]
    refine n_lat_cg _ (fun i _ => ?_)
    rw [h2 27 i (by decide), h2 28 i (by decide)]
  obtain ⟨m1, m2, m3⟩ := hm
  unfold n_met
  rw [el, h2 34 _ (by decide), h2 33 _ (by decide), h2 31 _ (by decide), h2 29 _ (by decide)]
  exact ⟨m1, m2, h5 _ m3⟩
theorem n_OM_tr {a b c : nS} (h : n_OM a b) (g : n_OM b c) : n_OM a c := by
  obtain ⟨h1, h2, h3, h4, h5⟩ := h
  obtain ⟨g1, g2, g3, g4, g5⟩ := g
  exact ⟨fun j hj => (g1 j hj).trans (h1 j hj), fun x i hx => (g2 x i hx).trans (h2 x i hx), by omega, fun i hi => (g4 i (by omega)).trans (h4 i hi), fun v hv => g5 v (h5 v hv)⟩
end
section
section N34
variable {Z : Nat → List Int32} {d : Nat} {s : nS} {u : Int}
def n_MP (s : nS) (u : Int) (r : nA) (s' : nS) : Prop := n_OI s' ∧ n_OM s s' ∧ (∃ R, r = some R ∧ (R = 0 ∨ R = 2 ∨ R = 3) ∧ (R = 0 → ∀ k, 0 ≤ k → k < s.2 32 u.toNat → n_met s' u k))
theorem n_l149 (hd : 6 ≤ d) (hu : 0 ≤ u ∧ u < 16) (hun : 0 ≤ s.1 2 ∧ s.1 2 ≤ 16) (hs : ∀ i, n_rng (s.2 27 i) ∧ n_rng (s.2 28 i)) (hn : ∀ i, n_rng (s.2 34 i)) (hp : ∀ i, n_rng (s.2 29 i)) (hfx : 0 ≤ s.2 32 u.toNat ∧ s.2 32 u.toNat ≤ 50) (hat : ∀ k, 0 ≤ k → k < s.2 32 u.toNat → 0 ≤ s.2 33 (50 * u + k).toNat ∧ s.2 33 (50 * u + k).toNat ≤ 197) : ∀ (q : Nat) (t : nS) (k : Int) (o : Option nV), 0 ≤ k → k + q = s.2 32 u.toNat → n_OI t → n_OM s t → (∀ k', 0 ≤ k' → k' < k → n_met t u k') → NP Z (d + 1) 149 2 [some (xR 25), some (xI u), some (xI k), o] [] t (fun r s' => n_MP s u r s') := by
  intro q
  induction q with
  | zero =>
    intro t k o h0 hk hO hM hm
    have e32 : t.2 32 u.toNat = s.2 32 u.toNat := hM.2.1 32 _ (by decide)
    refine n_at nb149_2 (by omega) rfl ⟨⟨hu.1, hu.2⟩, ⟨by omega, by omega⟩, ⟨by omega, by omega⟩, fun _ => ?_, fun z => by omega⟩
    exact n_at nb149_108 (by omega) rfl ⟨hO, hM, 0, rfl, Or.inl rfl, fun _ k' h1 h2 => hm k' h1 (by omega)⟩
  | succ q ih =>
    intro t k o h0 hk hO hM hm
    have e32 : t.2 32 u.toNat = s.2 32 u.toNat := hM.2.1 32 _ (by decide)
    have e2 : t.1 2 = s.1 2 := hM.1 2 (by decide)
    have e33 := hM.2.1 33 (50 * u + k).toNat (by decide)
    have hat' := hat k h0 (by omega)
    refine n_at nb149_2 (by omega) rfl ⟨⟨hu.1, hu.2⟩, ⟨by omega, by omega⟩, ⟨by omega, by omega⟩, fun z => by omega, fun _ => ⟨⟨by omega, by omega⟩, ?_⟩⟩
    refine n_iv (vs := [xR 25, xI 1, xI (t.2 34 (50 * u + k).toNat)]) (r := []) nn148 (by simp) rfl nc148 (ng148 (s := t) hd ⟨by decide, by decide⟩ (by rw [hM.2.1 34 _ (by decide)]; exact hn _) (fun i => by rw [hM.2.1 27 _ (by decide), hM.2.1 28 _ (by decide)]; exact hs i) (by rw [e2]; exact hun)) (fun r s' hr => ?_)
    rw [hr.1, hr.2]
    have hfb := n_lat_b (fun i => decide (t.2 27 i = 1 ∧ t.2 28 i = t.2 34 (50 * u + k).toNat)) (t.1 2).toNat
    have hfe : n_lat (fun i => decide (t.2 27 i = 1 ∧ t.2 28 i = t.2 34 (50 * u + k).toNat)) (t.1 2).toNat = n_latest t 1 (t.2 34 (50 * u + k).toNat) := rfl
    rw [hfe] at hfb
    have hmet : ∀ t', n_OM t t' → 0 ≤ n_latest t 1 (t.2 34 (50 * u + k).toNat) → t.2 31 (200 * u + t.2 33 (50 * u + k).toNat + 2).toNat % 256 = t.2 29 (n_latest t 1 (t.2 34 (50 * u + k).toNat)).toNat → 0 ≤ n_stands t' (n_latest t 1 (t.2 34 (50 * u + k).toNat)) → n_met t' u k := by
      intro t' ⟨h1, h2, h3, h4, h5⟩ a1 a2 a3
      have el : ∀ w v, n_latest t' w v = n_latest t w v := fun w v => by
        unfold n_latest
        rw [h1 2 (by decide)]
        refine n_lat_cg _ (fun i _ => ?_)
        rw [h2 27 i (by decide), h2 28 i (by decide)]
      unfold n_met
      rw [el, h2 34 _ (by decide), h2 33 _ (by decide), h2 31 _ (by decide), h2 29 _ (by decide)]
      exact ⟨a1, a2, a3⟩
    generalize n_latest t 1 (t.2 34 (50 * u + k).toNat) = f at hfb hmet
    clear hfe
    have h102 : ∀ t', n_OI t' → n_OM t t' → n_met t' u k → NP Z (d + 1) 149 102 [some (xR 25), some (xI u), some (xI k), some (xI f)] [] t' (fun r s' => n_MP s u r s') := by
      intro t' hO' hM' hk'
      refine n_at nb149_102 (by omega) rfl ?_
      refine ih t' (k + 1) _ (by omega) (by omega) hO' (n_OM_tr hM hM') (fun k' g1 g2 => ?_)
      by_cases hq : k' = k
      · rw [hq]; exact hk'
      · exact n_OM_met hM' (hm k' g1 (by omega))
    refine ⟨⟨by omega, by omega⟩, fun z => ?_, fun _ => ⟨hO, hM, 2, rfl, by decide, fun h => absurd h (by decide)⟩⟩
    refine n_at nb149_35 (by omega) rfl ⟨⟨by omega, by omega⟩, ⟨by omega, by omega⟩, ⟨by omega, by omega⟩, ⟨?_, ?_⟩, by rw [hM.2.1 29 _ (by decide)]; exact hp _, fun z2 => ?_, fun _ => ⟨hO, hM, 3, rfl, by decide, fun h => absurd h (by decide)⟩⟩
    · show _ ≤ t.2 31 _ % 256; omega
    · show t.2 31 _ % 256 < _; omega
    refine n_at nb149_74 (by omega) rfl ?_
    refine n_iv (vs := [xR 25, xI f]) (r := []) nn150 (by simp) rfl nc150 (ng150 (s := t) hd ⟨by omega, by omega⟩ hO.2.2.2 hO.1) (fun r s' hr => ?_)
    rw [hr.1, hr.2]
    have hsb := n_lat_b (fun i => decide (t.2 52 i = f)) (t.1 43).toNat
    have hse : n_lat (fun i => decide (t.2 52 i = f)) (t.1 43).toNat = n_stands t f := rfl
    rw [hse] at hsb
    have hO1 := hO.1
    refine ⟨⟨by omega, by omega⟩, fun z3 => ?_, fun z3 => ?_⟩
    · exact h102 t hO ⟨fun _ _ => rfl, fun _ _ _ => rfl, Int.le_refl _, fun _ _ => rfl, fun _ h => h⟩ (hmet t ⟨fun _ _ => rfl, fun _ _ _ => rfl, Int.le_refl _, fun _ _ => rfl, fun _ h => h⟩ z z2 z3)
    · obtain ⟨g1, g2, g3⟩ := n_OI_ord hO (by omega) ⟨z, by omega⟩ (by omega)
      refine ⟨⟨hO1.1, g1⟩, ?_⟩
      refine h102 (n_ord t f) g2 g3 (hmet _ g3 z z2 ?_)
      rw [n_ord_st hO1.1, if_pos rfl]
      exact hO1.1
theorem ng149 (hd : 6 ≤ d) (hu : 0 ≤ u ∧ u < 16) (hun : 0 ≤ s.1 2 ∧ s.1 2 ≤ 16) (hs : ∀ i, n_rng (s.2 27 i) ∧ n_rng (s.2 28 i)) (hn : ∀ i, n_rng (s.2 34 i)) (hp : ∀ i, n_rng (s.2 29 i)) (hfx : 0 ≤ s.2 32 u.toNat ∧ s.2 32 u.toNat ≤ 50) (hat : ∀ k, 0 ≤ k → k < s.2 32 u.toNat → 0 ≤ s.2 33 (50 * u + k).toNat ∧ s.2 33 (50 * u + k).toNat ≤ 197) (hO : n_OI s) : NG Z (d + 1) 149 [xR 25, xI u] s (fun r s' => n_MP s u r s') := by
  refine n_G_of (L := [some (xR 25), some (xI u), none, none]) (by rw [nl149]; exact Nat.le_of_ble_eq_true rfl) (by rw [nl149]; rfl) ?_
  refine n_at nb149_0 (by omega) rfl ?_
  exact n_l149 hd hu hun hs hn hp hfx hat (s.2 32 u.toNat).toNat s 0 none (by omega) (by omega) hO ⟨fun _ _ => rfl, fun _ _ _ => rfl, Int.le_refl _, fun _ _ => rfl, fun _ h => h⟩ (fun k' h1 h2 => by omega)
end N34
end
section
/-! A MACRO'S LIST IS REPLACED -/
def n_push (s : nS) (t x y : Int) : nS := (n_upd s.1 29 (s.1 29 + 1), n_updA (n_updA (n_updA s.2 44 (s.1 29).toNat t) 45 (s.1 29).toNat x) 46 (s.1 29).toNat y)
section N35
variable {Z : Nat → List Int32} {d : Nat} {s : nS} {f m n B : Int} {Hb Ob : Nat → Int} {ys : List Int} {Post : nA → nS → Prop}
theorem ng133 (hd : 6 ≤ d) (hm : 0 ≤ m ∧ m < 16) (hn : 0 ≤ n ∧ n ≤ 2000) (hpm : 0 ≤ s.2 29 m.toNat ∧ s.2 29 m.toNat ≤ 4) (hr : 0 ≤ s.1 33 ∧ s.1 33 ≤ 12) (hf : 0 ≤ f ∧ f < 1300) (hv : 0 ≤ s.2 39 f.toNat ∧ s.2 39 f.toNat < 1300) (ht : 0 ≤ s.1 29 ∧ s.1 29 < 300)
    (hbad : Post none (n_upd (n_upd s.1 33 (s.1 33 + 1)) 28 1, s.2))
    (hgood : s.1 33 < 12 → n = s.2 29 m.toNat + 1 → n_CX (n_upd s.1 33 (s.1 33 + 1), s.2) Hb Ob m B (s.2 41 (s.2 39 f.toNat).toNat) ys ∧ n_FI (n_upd s.1 33 (s.1 33 + 1), s.2) Hb Ob ∧ n_read (n_upd s.1 33 (s.1 33 + 1), s.2) m = -1 ∧ (∀ s1 H O wh, n_RW (n_upd s.1 33 (s.1 33 + 1), s.2) Hb Ob B s1 H O → 0 ≤ wh → wh < s1.1 17 → H wh.toNat ≤ B + 8 → s1.1 17 - s.1 17 ≤ 95 → s1.1 18 - s.1 18 ≤ 95 → Post none (n_push s1 0 wh 0))) : NG Z (d + 3) 133 [xR 25, xI f, xI m, xI n] s Post := by
  have h31 : NP Z (d + 3) 133 31 [some (xR 25), some (xI f), some (xI m), some (xI n)] [] (n_upd s.1 33 (s.1 33 + 1), s.2) Post := n_at nb133_31 (by omega) rfl ⟨Or.inr rfl, rfl, hbad⟩
  refine n_G_of (L := [some (xR 25), some (xI f), some (xI m), some (xI n)]) (by rw [nl133]; exact Nat.le_of_ble_eq_true rfl) (by rw [nl133]; rfl) ?_
  refine n_at nb133_0 (by omega) rfl ⟨⟨by show _ ≤ s.1 33 + 1; omega, by show s.1 33 + 1 < _; omega⟩, ⟨by decide, by decide⟩, fun _ => h31, fun z => ⟨⟨by omega, by omega⟩, ⟨by omega, by omega⟩, ⟨by show _ ≤ s.2 29 m.toNat + 1; omega, by show s.2 29 m.toNat + 1 < _; omega⟩, fun z2 => ?_, fun _ => h31⟩⟩
  have z : ¬ 12 < s.1 33 + 1 := z
  obtain ⟨g1, g2, g3, g4⟩ := hgood (by omega) z2
  refine n_at nb133_37 (by omega) rfl ⟨⟨hf.1, hf.2⟩, ⟨hv.1, hv.2⟩, ?_⟩
  refine n_iv (d := d + 2) (vs := [xR 25, xI m, xI 0, xI (s.2 41 (s.2 39 f.toNat).toNat)]) (r := [xI 0, xR 25]) (P := fun r s1 => ∃ H O wh, n_RW (n_upd s.1 33 (s.1 33 + 1), s.2) Hb Ob B s1 H O ∧ r = some wh ∧ 0 ≤ wh ∧ wh < s1.1 17 ∧ H wh.toNat ≤ B + 8 ∧ s1.1 17 - s.1 17 ≤ 95 ∧ s1.1 18 - s.1 18 ≤ 95) nn111 (by simp) rfl nc111 (ng111 hd g1 g2 ?_) (fun r s1 hr1 => ?_)
  · rw [g3]
    refine ⟨fun _ s1 H O wh a1 a2 a3 a4 a5 a6 _ => ⟨H, O, wh, a1, rfl, a2, a3, a4, a5, a6⟩, fun h => absurd h (by decide)⟩
  · obtain ⟨H, O, wh, a1, a2, a3, a4, a5, a6, a7⟩ := hr1
    rw [a2]
    have e29 : s1.1 29 = s.1 29 := a1.1.1 29 (by decide)
    refine n_iv (vs := [xR 25, xI 0, xI wh, xI 0]) (r := []) nn129 (by simp) rfl nc129 (ng129 (s := s1) (d := d + 2) (by omega) (by rw [e29]; exact ht)) (fun r s' hr => ?_)
    rw [hr.1, hr.2]
    exact ⟨rfl, g4 s1 H O wh a1 a3 a4 a5 a6 a7⟩
end N35
end
section
/-! A LIST'S TASKS -/
section N36
variable {Z : Nat → List Int32} {d : Nat} {s : nS} {f : Int} {xs : List Int} {Post : nA → nS → Prop}
/-- what a list's tasks must give, by the list's cells -/
def n_LP (s : nS) (f : Int) (xs : List Int) (Post : nA → nS → Prop) : Prop :=
  (∀ a b c op, xs = [a, b, c] → 2 ≤ op ∧ op ≤ 6 → Post none (n_push (n_push (n_push s 2 op 0) 0 (s.2 40 c.toNat) 0) 0 (s.2 40 b.toNat) 0)) ∧
  (∀ a b c e, xs = [a, b, c, e] → Post none (n_push (n_push s 3 f 0) 0 (s.2 40 b.toNat) 0)) ∧
  (∀ a b c e, xs = [a, b, c, e] → s.2 38 (s.2 40 b.toNat).toNat = 1 → Post none (n_push (n_push s 6 f 0) 0 (s.2 40 c.toNat) 0)) ∧
  (∀ a b r, xs = a :: b :: r → Post none (n_push (n_push s 8 (s.2 41 b.toNat) 0) 0 (s.2 40 b.toNat) 0)) ∧
  (∀ a b c, xs = [a, b, c] → s.2 38 (s.2 40 b.toNat).toNat = 1 → Post none (n_push (n_push s 9 (s.2 40 b.toNat) 0) 0 (s.2 40 c.toNat) 0)) ∧
  (∀ a b c, xs = [a, b, c] → Post none (n_push (n_push s 10 f (s.1 30)) 0 (s.2 40 b.toNat) 0)) ∧
  (∀ a r v, xs = a :: r → n_rng v → Post none (n_push (n_push s 12 v r.length) 1 (s.2 41 a.toNat) 0)) ∧
  Post none (n_upd s.1 28 1, s.2)
theorem n_ischT {s t : nS} {f : Int} {xs : List Int} (h : n_isch s.2 (s.2 39 f.toNat) xs) (h1 : ∀ i, t.2 41 i = s.2 41 i) (h2 : t.2 39 f.toNat = s.2 39 f.toNat) : n_isch t.2 (t.2 39 f.toNat) xs := by
  rw [h2]
  exact n_isch_cg h1 _ _ h
theorem n_len3 {xs : List Int} (h : (xs.length : Int) = 3) : ∃ a b c, xs = [a, b, c] := by
  match xs, h with
  | [a, b, c], _ => exact ⟨a, b, c, rfl⟩
  | [], h => exact absurd h (by simp)
  | [_], h => exact absurd h (by simp)
  | [_, _], h => exact absurd h (by simp)
  | _ :: _ :: _ :: _ :: r, h => simp at h; omega
theorem n_len4 {xs : List Int} (h : (xs.length : Int) = 4) : ∃ a b c e, xs = [a, b, c, e] := by
  match xs, h with
  | [a, b, c, e], _ => exact ⟨a, b, c, e, rfl⟩
  | [], h => exact absurd h (by simp)
  | [_], h => exact absurd h (by simp)
  | [_, _], h => exact absurd h (by simp)
  | [_, _, _], h => exact absurd h (by simp)
  | _ :: _ :: _ :: _ :: _ :: r, h => simp at h; omega
/-- what a list is, for its tasks -/
def n_LX (s : nS) (f : Int) (xs : List Int) : Prop := (0 ≤ f ∧ f < 1300) ∧ s.2 38 f.toNat = 2 ∧ n_isch s.2 (s.2 39 f.toNat) xs ∧ xs.length ≤ 1300 ∧ (∀ x ∈ xs, (0 ≤ s.2 40 x.toNat ∧ s.2 40 x.toNat < 1300) ∧ n_rng (s.2 38 (s.2 40 x.toNat).toNat) ∧ (s.2 38 (s.2 40 x.toNat).toNat = 1 → n_rng (s.2 39 (s.2 40 x.toNat).toNat)))
def n_L6 (f n v m c : Int) : nL := [some (xR 25), some (xI f), some (xI n), some (xI v), some (xI m), some (xI c)]
theorem n_t392 (hd : 6 ≤ d) {t : nS} {L : nL} (h : Post none t) : NP Z d 131 392 L [] t Post := n_at nb131_392 hd rfl ⟨rfl, h⟩
theorem n_t387 (hd : 6 ≤ d) {n v m c : Int} (hP : n_LP s f xs Post) : NP Z d 131 387 (n_L6 f n v m c) [] s Post := n_at nb131_387 hd rfl ⟨Or.inr rfl, n_t392 hd hP.2.2.2.2.2.2.2⟩
theorem n_t348 (hd : 6 ≤ d) {v m c : Int} (hP : n_LP s f xs Post) (ht : 0 ≤ s.1 29 ∧ s.1 29 < 297) (hv : n_rng v) (hv0 : v = 0 ∨ xs ≠ []) (hx : n_LX s f xs) (hc : xs ≠ [] → c = s.2 41 (s.2 39 f.toNat).toNat) : NP Z (d + 2) 131 348 (n_L6 f xs.length v m c) [] s Post := by
  refine n_at nb131_348 (by omega) rfl ?_
  refine n_is (vs := [xI (v % 256)]) (r := []) nn114 (by simp) (ng114 (by omega) ⟨by omega, by omega⟩) (fun r s' hr => ?_)
  rw [hr.1, hr.2]
  refine ⟨n_rngT _, fun _ => n_t387 (by omega) hP, fun z => ?_⟩
  refine n_is (d := d + 1) (vs := [xI v]) (r := []) nn125 (by simp) (ng125 (by omega) hv) (fun r s' hr => ?_)
  obtain ⟨⟨q, hq⟩, hs⟩ := hr
  rw [hq, hs]
  refine ⟨n_rngT _, fun _ => n_t387 (by omega) hP, fun z2 => ?_⟩
  have hne : xs ≠ [] := by
    rcases hv0 with h0 | h0
    · have := n_T1 z
      rw [h0] at this
      exact absurd this (by decide)
    · exact h0
  obtain _ | ⟨a, r⟩ := xs
  · exact absurd rfl hne
  have hc := hc hne
  have ha := hx.2.2.1.1
  refine n_iv (vs := [xR 25, xI 12, xI v, xI (((a :: r).length : Nat) - 1)]) (r := []) nn129 (by simp) rfl nc129 (ng129 (s := s) (d := d + 1) (by omega) ⟨ht.1, by omega⟩) (fun r' s' hr => ?_)
  rw [hr.1, hr.2]
  refine n_iv (vs := [xR 25, xI 1, xI c, xI 0]) (r := []) nn129 (by simp) rfl nc129 (ng129 (s := n_push s 12 v (((a :: r).length : Nat) - 1)) (d := d + 1) (by omega) ⟨by show 0 ≤ s.1 29 + 1; omega, by show s.1 29 + 1 < 300; omega⟩) (fun r' s' hr => ?_)
  rw [hr.1, hr.2]
  refine n_t392 (by omega) ?_
  have := hP.2.2.2.2.2.2.1 a r v rfl hv
  have e : (((a :: r).length : Nat) : Int) - 1 = (r.length : Int) := by simp
  rw [hc, ha, e]
  exact this
theorem n_t304 (hd : 6 ≤ d) {v m c : Int} (hP : n_LP s f xs Post) (ht : 0 ≤ s.1 29 ∧ s.1 29 < 297) (hv : n_rng v) (hv0 : v = 0 ∨ xs ≠ []) (hx : n_LX s f xs) (hc : xs ≠ [] → c = s.2 41 (s.2 39 f.toNat).toNat) : NP Z (d + 2) 131 304 (n_L6 f xs.length v m c) [] s Post := by
  have h348 := n_t348 (Z := Z) (m := m) hd hP ht hv hv0 hx hc
  have hl := hx.2.2.2.1
  refine n_at nb131_304 (by omega) rfl ?_
  refine n_is (vs := [xI 114, xI 117, xI 110]) (r := [xI v]) nn123 (by simp) (ng123 (by omega)) (fun r s' hr => ?_)
  rw [hr.1, hr.2]
  refine ⟨hv, n_rng_word _ _ _, fun _ => h348, fun _ => ⟨⟨by omega, by omega⟩, ⟨by decide, by decide⟩, fun _ => h348, fun z => ?_⟩⟩
  obtain ⟨a, b, e, rfl⟩ := n_len3 z
  refine n_iv (vs := [xR 25, xI 10, xI f, xI (s.1 30)]) (r := []) nn129 (by simp) rfl nc129 (ng129 (s := s) (d := d + 1) (by omega) ⟨ht.1, by omega⟩) (fun r' s' hr => ?_)
  rw [hr.1, hr.2]
  refine n_iv (vs := [xR 25, xI f, xI 1]) (r := [xI 0, xR 25]) nn122 (by simp) rfl nc122 (ng122 (s := n_push s 10 f (s.1 30)) (d := d + 1) (y := b) (by omega) hx.1 ⟨by decide, by decide⟩ (n_ischT hx.2.2.1 (fun _ => rfl) rfl) rfl) (fun r' s' hr => ?_)
  rw [hr.1, hr.2]
  refine n_iv (vs := [xR 25, xI 0, xI (s.2 40 b.toNat), xI 0]) (r := []) nn129 (by simp) rfl nc129 (ng129 (s := n_push s 10 f (s.1 30)) (d := d + 1) (by omega) ⟨by show 0 ≤ s.1 29 + 1; omega, by show s.1 29 + 1 < 300; omega⟩) (fun r' s' hr => ?_)
  rw [hr.1, hr.2]
  exact n_t392 (by omega) (hP.2.2.2.2.2.1 a b e rfl)
theorem n_t245 (hd : 6 ≤ d) {v m c : Int} (hP : n_LP s f xs Post) (ht : 0 ≤ s.1 29 ∧ s.1 29 < 297) (hv : n_rng v) (hv0 : v = 0 ∨ xs ≠ []) (hx : n_LX s f xs) (hc : xs ≠ [] → c = s.2 41 (s.2 39 f.toNat).toNat) : NP Z (d + 2) 131 245 (n_L6 f xs.length v m c) [] s Post := by
  have h304 := n_t304 (Z := Z) (m := m) hd hP ht hv hv0 hx hc
  have hl := hx.2.2.2.1
  refine n_at nb131_245 (by omega) rfl ?_
  refine n_is (vs := [xI 115, xI 101, xI 116]) (r := [xI v]) nn123 (by simp) (ng123 (by omega)) (fun r s' hr => ?_)
  rw [hr.1, hr.2]
  refine ⟨hv, n_rng_word _ _ _, fun _ => h304, fun _ => ⟨⟨by omega, by omega⟩, ⟨by decide, by decide⟩, fun _ => h304, fun z => ?_⟩⟩
  obtain ⟨a, b, e, rfl⟩ := n_len3 z
  obtain ⟨b1, b2, b3⟩ := hx.2.2.2.2 b (by simp)
  refine n_iv (vs := [xR 25, xI f, xI 1]) (r := [xR 25]) nn122 (by simp) rfl nc122 (ng122 (s := s) (d := d + 1) (y := b) (by omega) hx.1 ⟨by decide, by decide⟩ hx.2.2.1 rfl) (fun r' s' hr => ?_)
  rw [hr.1, hr.2]
  refine n_iv (d := d + 1) (vs := [xR 25, xI (s.2 40 b.toNat)]) (r := []) nn124 (by simp) rfl nc124 (ng124 (by omega) b1 b2 b3) (fun r' s' hr => ?_)
  obtain ⟨⟨q, hq, hq1⟩, hs⟩ := hr
  rw [hq, hs]
  refine ⟨n_rngT _, fun _ => h304, fun z2 => ?_⟩
  refine n_iv (vs := [xR 25, xI f, xI 1]) (r := [xI 9, xR 25]) nn122 (by simp) rfl nc122 (ng122 (s := s) (d := d + 1) (y := b) (by omega) hx.1 ⟨by decide, by decide⟩ hx.2.2.1 rfl) (fun r' s' hr => ?_)
  rw [hr.1, hr.2]
  refine n_iv (vs := [xR 25, xI 9, xI (s.2 40 b.toNat), xI 0]) (r := []) nn129 (by simp) rfl nc129 (ng129 (s := s) (d := d + 1) (by omega) ⟨ht.1, by omega⟩) (fun r' s' hr => ?_)
  rw [hr.1, hr.2]
  refine n_iv (vs := [xR 25, xI f, xI 2]) (r := [xI 0, xR 25]) nn122 (by simp) rfl nc122 (ng122 (s := n_push s 9 (s.2 40 b.toNat) 0) (d := d + 1) (y := e) (by omega) hx.1 ⟨by decide, by decide⟩ (n_ischT hx.2.2.1 (fun _ => rfl) rfl) rfl) (fun r' s' hr => ?_)
  rw [hr.1, hr.2]
  refine n_iv (vs := [xR 25, xI 0, xI (s.2 40 e.toNat), xI 0]) (r := []) nn129 (by simp) rfl nc129 (ng129 (s := n_push s 9 (s.2 40 b.toNat) 0) (d := d + 1) (by omega) ⟨by show 0 ≤ s.1 29 + 1; omega, by show s.1 29 + 1 < 300; omega⟩) (fun r' s' hr => ?_)
  rw [hr.1, hr.2]
  exact n_t392 (by omega) (hP.2.2.2.2.1 a b e rfl (hq1 (n_T1 z2)))
theorem n_t198 (hd : 6 ≤ d) {v m c : Int} (hP : n_LP s f xs Post) (ht : 0 ≤ s.1 29 ∧ s.1 29 < 297) (hv : n_rng v) (hv0 : v = 0 ∨ xs ≠ []) (hx : n_LX s f xs) (hc : xs ≠ [] → c = s.2 41 (s.2 39 f.toNat).toNat) : NP Z (d + 2) 131 198 (n_L6 f xs.length v m c) [] s Post := by
  have h245 := n_t245 (Z := Z) (m := m) hd hP ht hv hv0 hx hc
  have hl := hx.2.2.2.1
  refine n_at nb131_198 (by omega) rfl ?_
  refine n_is (vs := [xI 0, xI 100, xI 111]) (r := [xI v]) nn123 (by simp) (ng123 (by omega)) (fun r s' hr => ?_)
  rw [hr.1, hr.2]
  refine ⟨hv, n_rng_word _ _ _, fun _ => h245, fun _ => ⟨⟨by omega, by omega⟩, ⟨by decide, by decide⟩, fun _ => h245, fun z => ?_⟩⟩
  obtain _ | ⟨a, _ | ⟨b, r⟩⟩ := xs
  · exact absurd (by decide : ((([] : List Int).length : Nat) : Int) ≤ 1) z
  · exact absurd (by simp : ((([a] : List Int).length : Nat) : Int) ≤ 1) z
  have hc := hc (by simp)
  obtain ⟨ha, -, -, hb, hb1, hb2, -⟩ := hx.2.2.1
  have hcb : c = b := by rw [hc, ha, hb]
  refine ⟨⟨by rw [hcb]; exact hb1, by rw [hcb]; exact hb2⟩, ?_⟩
  refine n_iv (vs := [xR 25, xI 8, xI (s.2 41 c.toNat), xI 0]) (r := []) nn129 (by simp) rfl nc129 (ng129 (s := s) (d := d + 1) (by omega) ⟨ht.1, by omega⟩) (fun r' s' hr => ?_)
  rw [hr.1, hr.2]
  refine ⟨⟨by rw [hcb]; exact hb1, by rw [hcb]; exact hb2⟩, ?_⟩
  refine n_iv (vs := [xR 25, xI 0, xI (s.2 40 c.toNat), xI 0]) (r := []) nn129 (by simp) rfl nc129 (ng129 (s := n_push s 8 (s.2 41 c.toNat) 0) (d := d + 1) (by omega) ⟨by show 0 ≤ s.1 29 + 1; omega, by show s.1 29 + 1 < 300; omega⟩) (fun r' s' hr => ?_)
  rw [hr.1, hr.2]
  rw [hcb]
  exact n_t392 (by omega) (hP.2.2.2.1 a b r rfl)
theorem n_t144 (hd : 6 ≤ d) {v m c : Int} (hP : n_LP s f xs Post) (ht : 0 ≤ s.1 29 ∧ s.1 29 < 297) (hv : n_rng v) (hv0 : v = 0 ∨ xs ≠ []) (hx : n_LX s f xs) (hc : xs ≠ [] → c = s.2 41 (s.2 39 f.toNat).toNat) : NP Z (d + 2) 131 144 (n_L6 f xs.length v m c) [] s Post := by
  have h198 := n_t198 (Z := Z) (m := m) hd hP ht hv hv0 hx hc
  have hl := hx.2.2.2.1
  refine n_at nb131_144 (by omega) rfl ?_
  refine n_is (vs := [xI 108, xI 101, xI 116]) (r := [xI v]) nn123 (by simp) (ng123 (by omega)) (fun r s' hr => ?_)
  rw [hr.1, hr.2]
  refine ⟨hv, n_rng_word _ _ _, fun _ => h198, fun _ => ⟨⟨by omega, by omega⟩, ⟨by decide, by decide⟩, fun _ => h198, fun z => ?_⟩⟩
  obtain ⟨a, b, e, g, rfl⟩ := n_len4 z
  obtain ⟨b1, b2, b3⟩ := hx.2.2.2.2 b (by simp)
  refine n_iv (vs := [xR 25, xI f, xI 1]) (r := [xR 25]) nn122 (by simp) rfl nc122 (ng122 (s := s) (d := d + 1) (y := b) (by omega) hx.1 ⟨by decide, by decide⟩ hx.2.2.1 rfl) (fun r' s' hr => ?_)
  rw [hr.1, hr.2]
  refine n_iv (d := d + 1) (vs := [xR 25, xI (s.2 40 b.toNat)]) (r := []) nn124 (by simp) rfl nc124 (ng124 (by omega) b1 b2 b3) (fun r' s' hr => ?_)
  obtain ⟨⟨q, hq, hq1⟩, hs⟩ := hr
  rw [hq, hs]
  refine ⟨n_rngT _, fun _ => h198, fun z2 => ?_⟩
  refine n_iv (vs := [xR 25, xI 6, xI f, xI 0]) (r := []) nn129 (by simp) rfl nc129 (ng129 (s := s) (d := d + 1) (by omega) ⟨ht.1, by omega⟩) (fun r' s' hr => ?_)
  rw [hr.1, hr.2]
  refine n_iv (vs := [xR 25, xI f, xI 2]) (r := [xI 0, xR 25]) nn122 (by simp) rfl nc122 (ng122 (s := n_push s 6 f 0) (d := d + 1) (y := e) (by omega) hx.1 ⟨by decide, by decide⟩ (n_ischT hx.2.2.1 (fun _ => rfl) rfl) rfl) (fun r' s' hr => ?_)
  rw [hr.1, hr.2]
  refine n_iv (vs := [xR 25, xI 0, xI (s.2 40 e.toNat), xI 0]) (r := []) nn129 (by simp) rfl nc129 (ng129 (s := n_push s 6 f 0) (d := d + 1) (by omega) ⟨by show 0 ≤ s.1 29 + 1; omega, by show s.1 29 + 1 < 300; omega⟩) (fun r' s' hr => ?_)
  rw [hr.1, hr.2]
  exact n_t392 (by omega) (hP.2.2.1 a b e g rfl (hq1 (n_T1 z2)))
theorem n_t105 (hd : 6 ≤ d) {v m c : Int} (hP : n_LP s f xs Post) (ht : 0 ≤ s.1 29 ∧ s.1 29 < 297) (hv : n_rng v) (hv0 : v = 0 ∨ xs ≠ []) (hx : n_LX s f xs) (hc : xs ≠ [] → c = s.2 41 (s.2 39 f.toNat).toNat) : NP Z (d + 2) 131 105 (n_L6 f xs.length v m c) [] s Post := by
  have h144 := n_t144 (Z := Z) (m := m) hd hP ht hv hv0 hx hc
  have hl := hx.2.2.2.1
  refine n_at nb131_105 (by omega) rfl ?_
  refine n_is (vs := [xI 0, xI 105, xI 102]) (r := [xI v]) nn123 (by simp) (ng123 (by omega)) (fun r s' hr => ?_)
  rw [hr.1, hr.2]
  refine ⟨hv, n_rng_word _ _ _, fun _ => h144, fun _ => ⟨⟨by omega, by omega⟩, ⟨by decide, by decide⟩, fun _ => h144, fun z => ?_⟩⟩
  obtain ⟨a, b, e, g, rfl⟩ := n_len4 z
  refine n_iv (vs := [xR 25, xI 3, xI f, xI 0]) (r := []) nn129 (by simp) rfl nc129 (ng129 (s := s) (d := d + 1) (by omega) ⟨ht.1, by omega⟩) (fun r' s' hr => ?_)
  rw [hr.1, hr.2]
  refine n_iv (vs := [xR 25, xI f, xI 1]) (r := [xI 0, xR 25]) nn122 (by simp) rfl nc122 (ng122 (s := n_push s 3 f 0) (d := d + 1) (y := b) (by omega) hx.1 ⟨by decide, by decide⟩ (n_ischT hx.2.2.1 (fun _ => rfl) rfl) rfl) (fun r' s' hr => ?_)
  rw [hr.1, hr.2]
  refine n_iv (vs := [xR 25, xI 0, xI (s.2 40 b.toNat), xI 0]) (r := []) nn129 (by simp) rfl nc129 (ng129 (s := n_push s 3 f 0) (d := d + 1) (by omega) ⟨by show 0 ≤ s.1 29 + 1; omega, by show s.1 29 + 1 < 300; omega⟩) (fun r' s' hr => ?_)
  rw [hr.1, hr.2]
  exact n_t392 (by omega) (hP.2.1 a b e g rfl)
theorem n_sign_b (v : Int) : n_sign v = 0 ∨ (2 ≤ n_sign v ∧ n_sign v ≤ 6) := by
  unfold n_sign
  split
  · right; decide
  · split
    · right; decide
    · split
      · right; decide
      · split
        · right; decide
        · split
          · right; decide
          · left; rfl
theorem n_t56 (hd : 6 ≤ d) {v m c : Int} (hP : n_LP s f xs Post) (ht : 0 ≤ s.1 29 ∧ s.1 29 < 297) (hv : n_rng v) (hv0 : v = 0 ∨ xs ≠ []) (hx : n_LX s f xs) (hc : xs ≠ [] → c = s.2 41 (s.2 39 f.toNat).toNat) : NP Z (d + 2) 131 56 (n_L6 f xs.length v m c) [] s Post := by
  have h105 := n_t105 (Z := Z) (m := m) hd hP ht hv hv0 hx hc
  have hl := hx.2.2.2.1
  have hsg := n_sign_b v
  refine n_at nb131_56 (by omega) rfl ?_
  refine n_is (vs := [xI v]) (r := []) nn134 (by simp) (ng134 (by omega) hv) (fun r s' hr => ?_)
  rw [hr.1, hr.2]
  refine ⟨⟨by omega, by omega⟩, fun _ => h105, fun z1 => ⟨⟨by omega, by omega⟩, ⟨by decide, by decide⟩, fun _ => h105, fun z => ?_⟩⟩
  have z1 : ¬ n_sign v ≤ 0 := z1
  obtain ⟨a, b, e, rfl⟩ := n_len3 z
  refine n_is (vs := [xI v]) (r := [xI 2, xR 25]) nn134 (by simp) (ng134 (by omega) hv) (fun r s' hr => ?_)
  rw [hr.1, hr.2]
  refine n_iv (vs := [xR 25, xI 2, xI (n_sign v), xI 0]) (r := []) nn129 (by simp) rfl nc129 (ng129 (s := s) (d := d + 1) (by omega) ⟨ht.1, by omega⟩) (fun r' s' hr => ?_)
  rw [hr.1, hr.2]
  refine n_iv (vs := [xR 25, xI f, xI 2]) (r := [xI 0, xR 25]) nn122 (by simp) rfl nc122 (ng122 (s := n_push s 2 (n_sign v) 0) (d := d + 1) (y := e) (by omega) hx.1 ⟨by decide, by decide⟩ (n_ischT hx.2.2.1 (fun _ => rfl) rfl) rfl) (fun r' s' hr => ?_)
  rw [hr.1, hr.2]
  refine n_iv (vs := [xR 25, xI 0, xI (s.2 40 e.toNat), xI 0]) (r := []) nn129 (by simp) rfl nc129 (ng129 (s := n_push s 2 (n_sign v) 0) (d := d + 1) (by omega) ⟨by show 0 ≤ s.1 29 + 1; omega, by show s.1 29 + 1 < 300; omega⟩) (fun r' s' hr => ?_)
  rw [hr.1, hr.2]
  refine n_iv (vs := [xR 25, xI f, xI 1]) (r := [xI 0, xR 25]) nn122 (by simp) rfl nc122 (ng122 (s := n_push (n_push s 2 (n_sign v) 0) 0 (s.2 40 e.toNat) 0) (d := d + 1) (y := b) (by omega) hx.1 ⟨by decide, by decide⟩ (n_ischT hx.2.2.1 (fun _ => rfl) rfl) rfl) (fun r' s' hr => ?_)
  rw [hr.1, hr.2]
  refine n_iv (vs := [xR 25, xI 0, xI (s.2 40 b.toNat), xI 0]) (r := []) nn129 (by simp) rfl nc129 (ng129 (s := n_push (n_push s 2 (n_sign v) 0) 0 (s.2 40 e.toNat) 0) (d := d + 1) (by omega) ⟨by show 0 ≤ s.1 29 + 1 + 1; omega, by show s.1 29 + 1 + 1 < 300; omega⟩) (fun r' s' hr => ?_)
  rw [hr.1, hr.2]
  exact n_t392 (by omega) (hP.1 a b e (n_sign v) rfl (by omega))
/-- a list -/
theorem ng131 (hd : 6 ≤ d) (hP : n_LP s f xs Post) (ht : 0 ≤ s.1 29 ∧ s.1 29 < 297) (hx : n_LX s f xs) (hs : ∀ i, n_rng (s.2 27 i) ∧ n_rng (s.2 28 i)) (hu : 0 ≤ s.1 2 ∧ s.1 2 ≤ 16) (hm : ∀ m : Int, 0 ≤ m → m < s.1 2 → s.2 27 m.toNat = 2 → xs ≠ [] → NG Z (d + 3) 133 [xR 25, xI f, xI m, xI xs.length] s (fun r s' => r = none ∧ Post none s')) : NG Z (d + 4) 131 [xR 25, xI f] s Post := by
  have hl := hx.2.2.2.1
  have hfst : n_fst s f = s.2 39 f.toNat := by unfold n_fst; rw [if_pos hx.2.1]
  have hx1 : n_isch s.2 (n_fst s f) xs := by rw [hfst]; exact hx.2.2.1
  have h38 : ∀ v m c : Int, n_rng v → (v = 0 ∨ xs ≠ []) → m = (if v = 0 then -1 else n_lat (fun i => decide (s.2 27 i = 2 ∧ s.2 28 i = v)) (s.1 2).toNat) → (xs ≠ [] → c = s.2 41 (s.2 39 f.toNat).toNat) → NP Z (d + 4) 131 38 [some (xR 25), some (xI f), some (xI xs.length), some (xI v), some (xI m), none] [xI c] s Post := by
    intro v m c hv hv0 hme hc
    have hmb : -1 ≤ m ∧ m < s.1 2 ∧ (0 ≤ m → s.2 27 m.toNat = 2 ∧ xs ≠ []) := by
      by_cases h0 : v = 0
      · rw [if_pos h0] at hme
        exact ⟨by omega, by omega, fun h => by omega⟩
      · rw [if_neg h0] at hme
        have h1 := n_lat_b (fun i => decide (s.2 27 i = 2 ∧ s.2 28 i = v)) (s.1 2).toNat
        have h2 := n_lat_p (fun i => decide (s.2 27 i = 2 ∧ s.2 28 i = v)) (s.1 2).toNat
        rw [← hme] at h1 h2
        refine ⟨by omega, by omega, fun h => ⟨(of_decide_eq_true (h2 h)).1, ?_⟩⟩
        rcases hv0 with h3 | h3
        · exact absurd h3 h0
        · exact h3
    refine n_at nb131_38 (by omega) rfl ⟨⟨by omega, by omega⟩, fun _ => n_t56 (d := d + 2) (by omega) hP ht hv hv0 hx hc, fun z => ?_⟩
    have z : ¬ m < 0 := z
    refine n_iv (d := d + 3) (vs := [xR 25, xI f, xI m, xI xs.length]) (r := []) nn133 (by simp) rfl nc133 (P := fun r s' => r = none ∧ Post none s') ?_ (fun r s' hr => ?_)
    · exact hm m (by omega) (by omega) (hmb.2.2 (by omega)).1 (hmb.2.2 (by omega)).2
    · rw [hr.1]
      exact n_t392 (by omega) hr.2
  have hk : n_rng (s.2 38 f.toNat) := by rw [hx.2.1]; exact ⟨by decide, by decide⟩
  refine n_G_of (L := [some (xR 25), some (xI f), none, none, none, none]) (by rw [nl131]; exact Nat.le_of_ble_eq_true rfl) (by rw [nl131]; rfl) ?_
  refine n_at nb131_0 (by omega) rfl ?_
  refine n_iv (d := d + 3) (vs := [xR 25, xI f]) (r := []) nn121 (by simp) rfl nc121 (ng121 (by omega) hx.1 hk hx1 (by omega)) (fun r s' hr => ?_)
  rw [hr.1, hr.2]
  refine n_iv (d := d + 3) (vs := [xR 25, xI f]) (r := []) nn120 (by simp) rfl nc120 (ng120 (d := d + 2) (by omega) hx.1 hk hx1 (by omega) hx.2.2.2.2) (fun r s' hr => ?_)
  obtain ⟨⟨v, hv, hvr, hv0⟩, hs'⟩ := hr
  rw [hv, hs']
  refine n_iv (d := d + 3) (vs := [xR 25, xI v]) (r := []) nn132 (by simp) rfl nc132 (ng132 (by omega) hvr hs hu) (fun r s' hr => ?_)
  rw [hr.1, hr.2]
  refine ⟨⟨by omega, by omega⟩, fun z => ?_, fun z => ?_⟩
  · refine n_at nb131_37 (by omega) rfl (h38 v _ _ hvr hv0 rfl (fun h => ?_))
    have z : (xs.length : Int) ≤ 0 := z
    exact absurd (List.length_eq_zero_iff.mp (by omega)) h
  · refine ⟨⟨hx.1.1, hx.1.2⟩, ?_⟩
    have z : ¬ (xs.length : Int) ≤ 0 := z
    obtain _ | ⟨a, r⟩ := xs
    · exact absurd (by decide : ((([] : List Int).length : Nat) : Int) ≤ 0) z
    have ha := hx.2.2.1
    refine ⟨⟨by rw [ha.1]; exact ha.2.1, by rw [ha.1]; exact ha.2.2.1⟩, h38 v _ _ hvr hv0 rfl (fun _ => rfl)⟩
end N36
end
section
/-! A TASK IS PERFORMED -/
def n_look (x : Int) (d : Nat) : List (Int × Int) → Nat
  | [] => d
  | (k, t) :: ps => if x = k then t.toNat else n_look x d ps
theorem n_sw_look {G : Nat → Prop} {d : Nat} {x : Int} : ∀ ps : List (Int × Int), (∀ kt ∈ ps, n_rng kt.1) → G (n_look x d ps) → n_sw G d x ps
  | [], _, h => h
  | (k, t) :: ps, hr, h => by
    refine ⟨hr (k, t) List.mem_cons_self, fun z => ?_, fun z => ?_⟩
    · unfold n_look at h
      rw [if_pos z] at h
      exact h
    · unfold n_look at h
      rw [if_neg z] at h
      exact n_sw_look ps (fun kt hkt => hr kt (List.mem_cons_of_mem _ hkt)) h
/-- a byte of code where there is room -/
def n_e (s : nS) (x : Int) : nS := (n_upd (n_upd s.1 30 (s.1 30 + 1)) 28 (n_T (decide (¬ s.1 28 = 0 ∨ 200 < s.1 30 + 1))), n_updA s.2 47 (s.1 30).toNat (n_by x))
theorem n_em_e {s : nS} {x : Int} (h : s.1 30 < 260) : n_em s x = n_e s x := by
  unfold n_em
  rw [if_pos h]
  rfl
/-- a field's number changes by x -/
def n_fd (s : nS) (k : Nat) (x : Int) : nS := (n_upd s.1 k (s.1 k + x), s.2)
section N37
variable {Z : Nat → List Int32} {d : Nat} {s : nS} {t x y : Int} {Post : nA → nS → Prop}
theorem ng136e {x : Int} (hd : 6 ≤ d) (hn : 0 ≤ s.1 30 ∧ s.1 30 < 260) (hb : s.1 28 = 0 ∨ s.1 28 = 1) : NG Z d 136 [xR 25, xI x] s (fun r s' => r = none ∧ s' = n_e s x) := by
  have := ng136 (Z := Z) (x := x) hd ⟨hn.1, by omega⟩ hb
  rw [n_em_e hn.2] at this
  exact this
theorem ng137e {x : Int} (hd : 6 ≤ d) (hn : 0 ≤ s.1 30 ∧ s.1 30 < 259) (hb : s.1 28 = 0 ∨ s.1 28 = 1) : NG Z (d + 1) 137 [xR 25, xI x] s (fun r s' => r = none ∧ s' = n_e (n_e s (n_shr x 8)) x) := by
  have := ng137 (Z := Z) (x := x) hd ⟨hn.1, by omega⟩ hb
  rw [n_em_e (s := s) (by omega), n_em_e (s := n_e s _) (by show s.1 30 + 1 < 260; omega)] at this
  exact this
theorem ng137z (hd : 6 ≤ d) (hn : 0 ≤ s.1 30 ∧ s.1 30 < 259) (hb : s.1 28 = 0 ∨ s.1 28 = 1) : NG Z (d + 1) 137 [xR 25, xI 0] s (fun r s' => r = none ∧ s' = n_e (n_e s 0) 0) := by
  have := ng137e (Z := Z) (x := 0) hd hn hb
  have e0 : n_shr 0 8 = 0 := by decide
  rw [e0] at this
  exact this
def n_Lp (t x y : Int) : nL := [some (xR 25), some (xI t), some (xI x), some (xI y)]
theorem n_p526 (hd : 6 ≤ d) {u : nS} (h : Post none u) : NP Z d 130 526 (n_Lp t x y) [] u Post := n_at nb130_526 hd rfl ⟨rfl, h⟩
theorem n_p0 (hd : 6 ≤ d) (pc : Nat) (ht : n_rng t) (hl : n_look t 465 [(0, 64), (1, 90), (2, 121), (3, 139), (4, 185), (5, 236), (6, 244), (7, 288), (8, 317), (9, 365), (10, 383), (11, 430)] = pc) (h : NP Z d 130 pc (n_Lp t x y) [] s Post) : NG Z d 130 [xR 25, xI t, xI x, xI y] s Post := by
  refine n_G_of (L := n_Lp t x y) (by rw [nl130]; exact Nat.le_of_ble_eq_true rfl) (by rw [nl130]; rfl) ?_
  refine n_at nb130_0 hd rfl ⟨ht, n_sw_look (G := fun pc => NP Z d 130 pc (n_Lp t x y) [] s Post) [(0, 64), (1, 90), (2, 121), (3, 139), (4, 185), (5, 236), (6, 244), (7, 288), (8, 317), (9, 365), (10, 383), (11, 430)] ?_ ?_⟩
  · intro kt hkt
    have : ∀ kt ∈ ([(0, 64), (1, 90), (2, 121), (3, 139), (4, 185), (5, 236), (6, 244), (7, 288), (8, 317), (9, 365), (10, 383), (11, 430)] : List (Int × Int)), -2147483648 ≤ kt.1 ∧ kt.1 < 2147483648 := by decide
    exact this kt hkt
  · show NP Z d 130 (n_look t 465 _) (n_Lp t x y) [] s Post
    rw [hl]
    exact h
/-- an atom -/
theorem n_pfA (hd : 6 ≤ d) (hf : 0 ≤ x ∧ x < 1300) (hk : n_rng (s.2 38 x.toNat)) (hk2 : ¬ s.2 38 x.toNat = 2) (hv : s.2 38 x.toNat = 1 → n_rng (s.2 39 x.toNat)) (hs : ∀ i : Nat, (i : Int) < s.1 32 → n_rng (s.2 48 i)) (hn : 0 ≤ s.1 32 ∧ s.1 32 ≤ 120) (hb : s.1 28 = 0 ∨ s.1 28 = 1) (hz : 0 ≤ s.1 30 ∧ s.1 30 ≤ 260) (hP : Post none (n_upd (n_atS s x).1 31 (s.1 31 + 1), (n_atS s x).2)) : NG Z (d + 3) 130 [xR 25, xI 0, xI x, xI y] s Post := by
  refine n_p0 (by omega) 64 ⟨by decide, by decide⟩ rfl ?_
  refine n_at nb130_64 (by omega) rfl ⟨hf, hk, ⟨by decide, by decide⟩, fun _ => ?_, fun z => absurd z hk2⟩
  refine n_at nb130_82 (by omega) rfl ?_
  refine n_iv (d := d + 2) (vs := [xR 25, xI x]) (r := []) nn135 (by simp) rfl nc135 (ng135 hd hf hk hv hs hn hb hz) (fun r s' hr => ?_)
  rw [hr.1, hr.2]
  exact n_p526 (by omega) hP
/-- a list -/
theorem n_pfL (hd : 6 ≤ d) (hf : 0 ≤ x ∧ x < 1300) (hk : s.2 38 x.toNat = 2) (h : NG Z d 131 [xR 25, xI x] s (fun r s' => r = none ∧ Post none s')) : NG Z (d + 1) 130 [xR 25, xI 0, xI x, xI y] s Post := by
  refine n_p0 (by omega) 64 ⟨by decide, by decide⟩ rfl ?_
  refine n_at nb130_64 (by omega) rfl ⟨hf, by rw [hk]; exact ⟨by decide, by decide⟩, ⟨by decide, by decide⟩, fun z => absurd hk z, fun _ => ?_⟩
  refine n_iv (d := d) (vs := [xR 25, xI x]) (r := []) nn131 (by simp) rfl nc131 h (fun r s' hr => ?_)
  rw [hr.1]
  exact n_p526 (by omega) hr.2
/-- the rest of a call's forms -/
theorem n_pf1 (hd : 6 ≤ d) (hx : x = -1 ∨ (0 ≤ x ∧ x < 1300)) (ht : 0 ≤ s.1 29 ∧ s.1 29 < 298) (h0 : x = -1 → Post none s) (h1 : 0 ≤ x → Post none (n_push (n_push s 1 (s.2 41 x.toNat) 0) 0 (s.2 40 x.toNat) 0)) : NG Z (d + 1) 130 [xR 25, xI 1, xI x, xI y] s Post := by
  refine n_p0 (by omega) 90 ⟨by decide, by decide⟩ rfl ?_
  refine n_at nb130_90 (by omega) rfl ⟨⟨by omega, by omega⟩, fun z => n_p526 (by omega) (h0 ?_), fun z => ?_⟩
  · have z : x < 0 := z
    omega
  have z : ¬ x < 0 := z
  refine ⟨⟨by omega, by omega⟩, ?_⟩
  refine n_iv (vs := [xR 25, xI 1, xI (s.2 41 x.toNat), xI 0]) (r := []) nn129 (by simp) rfl nc129 (ng129 (s := s) (d := d) (by omega) ⟨ht.1, by omega⟩) (fun r' s' hr => ?_)
  rw [hr.1, hr.2]
  refine ⟨⟨by omega, by omega⟩, ?_⟩
  refine n_iv (vs := [xR 25, xI 0, xI (s.2 40 x.toNat), xI 0]) (r := []) nn129 (by simp) rfl nc129 (ng129 (s := n_push s 1 (s.2 41 x.toNat) 0) (d := d) (by omega) ⟨by show 0 ≤ s.1 29 + 1; omega, by show s.1 29 + 1 < 300; omega⟩) (fun r' s' hr => ?_)
  rw [hr.1, hr.2]
  exact n_p526 (by omega) (h1 (by omega))
/-- a step of code, one shallower -/
theorem n_pf2 (hd : 6 ≤ d) (hz : 0 ≤ s.1 30 ∧ s.1 30 < 240) (hb : s.1 28 = 0 ∨ s.1 28 = 1) (hP : Post none (n_fd (n_e s x) 31 (-1))) : NG Z (d + 1) 130 [xR 25, xI 2, xI x, xI y] s Post := by
  refine n_p0 (by omega) 121 ⟨by decide, by decide⟩ rfl ?_
  refine n_at nb130_121 (by omega) rfl ?_
  refine n_iv (vs := [xR 25, xI x]) (r := []) nn136 (by simp) rfl nc136 (ng136e hd ⟨hz.1, by omega⟩ hb) (fun r s' hr => ?_)
  rw [hr.1, hr.2]
  exact n_p526 (by omega) hP
/-- a branch: the jump ahead, its place open -/
theorem n_pf3 (hd : 6 ≤ d) (hf : 0 ≤ x ∧ x < 1300) {xs : List Int} {c : Int} (hx : n_isch s.2 (s.2 39 x.toNat) xs) (hc : xs[2]? = some c) (ht : 0 ≤ s.1 29 ∧ s.1 29 < 298) (hz : 0 ≤ s.1 30 ∧ s.1 30 < 240) (hb : s.1 28 = 0 ∨ s.1 28 = 1) (hP : Post none (n_push (n_fd (n_e (n_e (n_push (n_e s 8) 4 x (s.1 30 + 1)) 0) 0) 31 (-1)) 0 (s.2 40 c.toNat) 0)) : NG Z (d + 2) 130 [xR 25, xI 3, xI x, xI y] s Post := by
  refine n_p0 (by omega) 139 ⟨by decide, by decide⟩ rfl ?_
  refine n_at nb130_139 (by omega) rfl ?_
  refine n_iv (d := d + 1) (vs := [xR 25, xI 8]) (r := []) nn136 (by simp) rfl nc136 (ng136e (by omega) ⟨hz.1, by omega⟩ hb) (fun r s' hr => ?_)
  rw [hr.1, hr.2]
  refine n_iv (d := d + 1) (vs := [xR 25, xI 4, xI (x), xI ((s.1 30 + 1))]) (r := []) nn129 (by simp) rfl nc129 (ng129 (s := (n_e s 8)) (by omega) ⟨ht.1, by show s.1 29 < 300; omega⟩) (fun r' s' hr => ?_)
  rw [hr.1, hr.2]
  refine n_iv (d := d + 1) (vs := [xR 25, xI 0]) (r := []) nn137 (by simp) rfl nc137 (ng137z (s := (n_push (n_e s 8) 4 x (s.1 30 + 1))) (by omega) ⟨by show 0 ≤ s.1 30 + 1; omega, by show s.1 30 + 1 < 259; omega⟩ (n_T01 _)) (fun r s' hr => ?_)
  rw [hr.1, hr.2]
  refine n_iv (d := d + 1) (vs := [xR 25, xI x, xI 2]) (r := [xI 0, xR 25]) nn122 (by simp) rfl nc122 (ng122 (s := (n_fd (n_e (n_e (n_push (n_e s 8) 4 x (s.1 30 + 1)) 0) 0) 31 (-1))) (xs := xs) (y := c) (by omega) hf ⟨by decide, by decide⟩ (n_ischT hx (fun _ => rfl) rfl) hc) (fun r' s' hr => ?_)
  rw [hr.1, hr.2]
  refine n_iv (d := d + 1) (vs := [xR 25, xI 0, xI (s.2 40 c.toNat), xI 0]) (r := []) nn129 (by simp) rfl nc129 (ng129 (s := (n_fd (n_e (n_e (n_push (n_e s 8) 4 x (s.1 30 + 1)) 0) 0) 31 (-1))) (by omega) ⟨by show 0 ≤ s.1 29 + 1; omega, by show s.1 29 + 1 < 300; omega⟩) (fun r' s' hr => ?_)
  rw [hr.1, hr.2]
  exact n_p526 (by omega) hP
/-- the other way -/
theorem n_pf4 (hd : 6 ≤ d) (hf : 0 ≤ x ∧ x < 1300) {xs : List Int} {c : Int} (hx : n_isch s.2 (s.2 39 x.toNat) xs) (hc : xs[3]? = some c) (ht : 0 ≤ s.1 29 ∧ s.1 29 < 298) (hz : 0 ≤ s.1 30 ∧ s.1 30 < 240) (hb : s.1 28 = 0 ∨ s.1 28 = 1) (hy : 0 ≤ y ∧ y < 250) (hP : Post none (n_push (n_fd (n_aim (n_e (n_e (n_push (n_e s 7) 5 (s.1 30 + 1) 0) 0) 0) y) 31 (-1)) 0 (s.2 40 c.toNat) 0)) : NG Z (d + 2) 130 [xR 25, xI 4, xI x, xI y] s Post := by
  refine n_p0 (by omega) 185 ⟨by decide, by decide⟩ rfl ?_
  refine n_at nb130_185 (by omega) rfl ?_
  refine n_iv (d := d + 1) (vs := [xR 25, xI 7]) (r := []) nn136 (by simp) rfl nc136 (ng136e (by omega) ⟨hz.1, by omega⟩ hb) (fun r s' hr => ?_)
  rw [hr.1, hr.2]
  refine n_iv (d := d + 1) (vs := [xR 25, xI 5, xI ((s.1 30 + 1)), xI (0)]) (r := []) nn129 (by simp) rfl nc129 (ng129 (s := (n_e s 7)) (by omega) ⟨ht.1, by show s.1 29 < 300; omega⟩) (fun r' s' hr => ?_)
  rw [hr.1, hr.2]
  refine n_iv (d := d + 1) (vs := [xR 25, xI 0]) (r := []) nn137 (by simp) rfl nc137 (ng137z (s := (n_push (n_e s 7) 5 (s.1 30 + 1) 0)) (by omega) ⟨by show 0 ≤ s.1 30 + 1; omega, by show s.1 30 + 1 < 259; omega⟩ (n_T01 _)) (fun r s' hr => ?_)
  rw [hr.1, hr.2]
  refine n_iv (d := d + 1) (vs := [xR 25, xI y]) (r := []) nn139 (by simp) rfl nc139 (ng139 (s := (n_e (n_e (n_push (n_e s 7) 5 (s.1 30 + 1) 0) 0) 0)) (by omega) ⟨hy.1, by omega⟩) (fun r s' hr => ?_)
  rw [hr.1, hr.2]
  refine n_iv (d := d + 1) (vs := [xR 25, xI x, xI 3]) (r := [xI 0, xR 25]) nn122 (by simp) rfl nc122 (ng122 (s := (n_fd (n_aim (n_e (n_e (n_push (n_e s 7) 5 (s.1 30 + 1) 0) 0) 0) y) 31 (-1))) (xs := xs) (y := c) (by omega) hf ⟨by decide, by decide⟩ (n_ischT hx (fun _ => rfl) rfl) hc) (fun r' s' hr => ?_)
  rw [hr.1, hr.2]
  refine n_iv (d := d + 1) (vs := [xR 25, xI 0, xI (s.2 40 c.toNat), xI 0]) (r := []) nn129 (by simp) rfl nc129 (ng129 (s := (n_fd (n_aim (n_e (n_e (n_push (n_e s 7) 5 (s.1 30 + 1) 0) 0) 0) y) 31 (-1))) (by omega) ⟨by show 0 ≤ s.1 29 + 1; omega, by show s.1 29 + 1 < 300; omega⟩) (fun r' s' hr => ?_)
  rw [hr.1, hr.2]
  exact n_p526 (by omega) hP
/-- a turn of a run -/
theorem n_pf10 (hd : 6 ≤ d) (hf : 0 ≤ x ∧ x < 1300) {xs : List Int} {c : Int} (hx : n_isch s.2 (s.2 39 x.toNat) xs) (hc : xs[2]? = some c) (ht : 0 ≤ s.1 29 ∧ s.1 29 < 298) (hz : 0 ≤ s.1 30 ∧ s.1 30 < 240) (hb : s.1 28 = 0 ∨ s.1 28 = 1) (hP : Post none (n_push (n_fd (n_e (n_e (n_push (n_e s 8) 11 (s.1 30 + 1) y) 0) 0) 31 (-1)) 0 (s.2 40 c.toNat) 0)) : NG Z (d + 2) 130 [xR 25, xI 10, xI x, xI y] s Post := by
  refine n_p0 (by omega) 383 ⟨by decide, by decide⟩ rfl ?_
  refine n_at nb130_383 (by omega) rfl ?_
  refine n_iv (d := d + 1) (vs := [xR 25, xI 8]) (r := []) nn136 (by simp) rfl nc136 (ng136e (by omega) ⟨hz.1, by omega⟩ hb) (fun r s' hr => ?_)
  rw [hr.1, hr.2]
  refine n_iv (d := d + 1) (vs := [xR 25, xI 11, xI ((s.1 30 + 1)), xI (y)]) (r := []) nn129 (by simp) rfl nc129 (ng129 (s := (n_e s 8)) (by omega) ⟨ht.1, by show s.1 29 < 300; omega⟩) (fun r' s' hr => ?_)
  rw [hr.1, hr.2]
  refine n_iv (d := d + 1) (vs := [xR 25, xI 0]) (r := []) nn137 (by simp) rfl nc137 (ng137z (s := (n_push (n_e s 8) 11 (s.1 30 + 1) y)) (by omega) ⟨by show 0 ≤ s.1 30 + 1; omega, by show s.1 30 + 1 < 259; omega⟩ (n_T01 _)) (fun r s' hr => ?_)
  rw [hr.1, hr.2]
  refine n_iv (d := d + 1) (vs := [xR 25, xI x, xI 2]) (r := [xI 0, xR 25]) nn122 (by simp) rfl nc122 (ng122 (s := (n_fd (n_e (n_e (n_push (n_e s 8) 11 (s.1 30 + 1) y) 0) 0) 31 (-1))) (xs := xs) (y := c) (by omega) hf ⟨by decide, by decide⟩ (n_ischT hx (fun _ => rfl) rfl) hc) (fun r' s' hr => ?_)
  rw [hr.1, hr.2]
  refine n_iv (d := d + 1) (vs := [xR 25, xI 0, xI (s.2 40 c.toNat), xI 0]) (r := []) nn129 (by simp) rfl nc129 (ng129 (s := (n_fd (n_e (n_e (n_push (n_e s 8) 11 (s.1 30 + 1) y) 0) 0) 31 (-1))) (by omega) ⟨by show 0 ≤ s.1 29 + 1; omega, by show s.1 29 + 1 < 300; omega⟩) (fun r' s' hr => ?_)
  rw [hr.1, hr.2]
  exact n_p526 (by omega) hP
/-- behind a branch -/
theorem n_pf5 (hd : 6 ≤ d) (hx : 0 ≤ x ∧ x < 250) (hP : Post none (n_aim s x)) : NG Z (d + 1) 130 [xR 25, xI 5, xI x, xI y] s Post := by
  refine n_p0 (by omega) 236 ⟨by decide, by decide⟩ rfl ?_
  refine n_at nb130_236 (by omega) rfl ?_
  refine n_iv (vs := [xR 25, xI x]) (r := []) nn139 (by simp) rfl nc139 (ng139 hd ⟨hx.1, by omega⟩) (fun r s' hr => ?_)
  rw [hr.1, hr.2]
  exact n_p526 (by omega) hP
def n_kn (s : nS) (v sl : Int) : nS := (n_upd s.1 32 (s.1 32 + 1), n_updA (n_updA s.2 48 (s.1 32).toNat v) 49 (s.1 32).toNat sl)
/-- a name for the number on top -/
theorem n_pf6 (hd : 6 ≤ d) (hf : 0 ≤ x ∧ x < 1300) {xs : List Int} {b c : Int} (hx : n_isch s.2 (s.2 39 x.toNat) xs) (hb : xs[1]? = some b) (hc : xs[3]? = some c) (hbr : 0 ≤ s.2 40 b.toNat ∧ s.2 40 b.toNat < 1300) (ht : 0 ≤ s.1 29 ∧ s.1 29 < 298) (hn : 0 ≤ s.1 32 ∧ s.1 32 < 120) (hP : Post none (n_push (n_push (n_kn s (s.2 39 (s.2 40 b.toNat).toNat) (s.1 31 - 1)) 7 0 0) 0 (s.2 40 c.toNat) 0)) : NG Z (d + 1) 130 [xR 25, xI 6, xI x, xI y] s Post := by
  refine n_p0 (by omega) 244 ⟨by decide, by decide⟩ rfl ?_
  refine n_at nb130_244 (by omega) rfl ?_
  refine n_iv (vs := [xR 25, xI x, xI 1]) (r := [xR 39, xR 25]) nn122 (by simp) rfl nc122 (ng122 (s := s) (xs := xs) (y := b) hd hf ⟨by decide, by decide⟩ hx hb) (fun r' s' hr => ?_)
  rw [hr.1, hr.2]
  refine ⟨hbr, ?_⟩
  refine n_iv (vs := [xR 25, xI (s.2 39 (s.2 40 b.toNat).toNat), xI (s.1 31 - 1)]) (r := []) nn127 (by simp) rfl nc127 (ng127 (s := s) hd hn) (fun r' s' hr => ?_)
  rw [hr.1, hr.2]
  refine n_iv (vs := [xR 25, xI 7, xI 0, xI 0]) (r := []) nn129 (by simp) rfl nc129 (ng129 (s := n_kn s (s.2 39 (s.2 40 b.toNat).toNat) (s.1 31 - 1)) hd ⟨ht.1, by show s.1 29 < 300; omega⟩) (fun r' s' hr => ?_)
  rw [hr.1, hr.2]
  refine n_iv (vs := [xR 25, xI x, xI 3]) (r := [xI 0, xR 25]) nn122 (by simp) rfl nc122 (ng122 (s := n_push (n_kn s (s.2 39 (s.2 40 b.toNat).toNat) (s.1 31 - 1)) 7 0 0) (xs := xs) (y := c) hd hf ⟨by decide, by decide⟩ (n_ischT hx (fun _ => rfl) rfl) hc) (fun r' s' hr => ?_)
  rw [hr.1, hr.2]
  refine n_iv (vs := [xR 25, xI 0, xI (s.2 40 c.toNat), xI 0]) (r := []) nn129 (by simp) rfl nc129 (ng129 (s := n_push (n_kn s (s.2 39 (s.2 40 b.toNat).toNat) (s.1 31 - 1)) 7 0 0) hd ⟨by show 0 ≤ s.1 29 + 1; omega, by show s.1 29 + 1 < 300; omega⟩) (fun r' s' hr => ?_)
  rw [hr.1, hr.2]
  exact n_p526 (by omega) hP
/-- the name is gone -/
theorem n_pf7 (hd : 6 ≤ d) (hz : 0 ≤ s.1 30 ∧ s.1 30 < 240) (hb : s.1 28 = 0 ∨ s.1 28 = 1) (hP : Post none (n_fd (n_fd (n_e s 9) 31 (-1)) 32 (-1))) : NG Z (d + 1) 130 [xR 25, xI 7, xI x, xI y] s Post := by
  refine n_p0 (by omega) 288 ⟨by decide, by decide⟩ rfl ?_
  refine n_at nb130_288 (by omega) rfl ?_
  refine n_iv (vs := [xR 25, xI 9]) (r := []) nn136 (by simp) rfl nc136 (ng136e hd ⟨hz.1, by omega⟩ hb) (fun r s' hr => ?_)
  rw [hr.1, hr.2]
  exact n_p526 (by omega) hP
/-- many forms, one behind the other -/
theorem n_pf8 (hd : 6 ≤ d) (hx : x = -1 ∨ (0 ≤ x ∧ x < 1300)) (ht : 0 ≤ s.1 29 ∧ s.1 29 < 298) (hz : 0 ≤ s.1 30 ∧ s.1 30 < 240) (hb : s.1 28 = 0 ∨ s.1 28 = 1) (h0 : x = -1 → Post none s) (h1 : 0 ≤ x → Post none (n_push (n_push (n_fd (n_e s 10) 31 (-1)) 8 (s.2 41 x.toNat) 0) 0 (s.2 40 x.toNat) 0)) : NG Z (d + 1) 130 [xR 25, xI 8, xI x, xI y] s Post := by
  refine n_p0 (by omega) 317 ⟨by decide, by decide⟩ rfl ?_
  refine n_at nb130_317 (by omega) rfl ⟨⟨by omega, by omega⟩, fun z => n_p526 (by omega) (h0 ?_), fun z => ?_⟩
  · have z : x < 0 := z
    omega
  have z : ¬ x < 0 := z
  refine n_iv (vs := [xR 25, xI 10]) (r := []) nn136 (by simp) rfl nc136 (ng136e hd ⟨hz.1, by omega⟩ hb) (fun r s' hr => ?_)
  rw [hr.1, hr.2]
  refine ⟨⟨by omega, by omega⟩, ?_⟩
  refine n_iv (vs := [xR 25, xI 8, xI (s.2 41 x.toNat), xI 0]) (r := []) nn129 (by simp) rfl nc129 (ng129 (s := n_fd (n_e s 10) 31 (-1)) hd ⟨ht.1, by show s.1 29 < 300; omega⟩) (fun r' s' hr => ?_)
  rw [hr.1, hr.2]
  refine ⟨⟨by omega, by omega⟩, ?_⟩
  refine n_iv (vs := [xR 25, xI 0, xI (s.2 40 x.toNat), xI 0]) (r := []) nn129 (by simp) rfl nc129 (ng129 (s := n_push (n_fd (n_e s 10) 31 (-1)) 8 (s.2 41 x.toNat) 0) hd ⟨by show 0 ≤ s.1 29 + 1; omega, by show s.1 29 + 1 < 300; omega⟩) (fun r' s' hr => ?_)
  rw [hr.1, hr.2]
  exact n_p526 (by omega) (h1 (by omega))
/-- a number goes into a slot -/
theorem n_pf9 (hd : 6 ≤ d) (hf : 0 ≤ x ∧ x < 1300) (hk : n_rng (s.2 38 x.toNat)) (hv : s.2 38 x.toNat = 1 → n_rng (s.2 39 x.toNat)) (hs : ∀ i : Nat, (i : Int) < s.1 32 → n_rng (s.2 48 i)) (hn : 0 ≤ s.1 32 ∧ s.1 32 ≤ 120) (hz : 0 ≤ s.1 30 ∧ s.1 30 < 240) (hb : s.1 28 = 0 ∨ s.1 28 = 1) (hP : Post none (n_e (n_slotS (n_e s 11) x) (if n_slotK s x < 0 then 0 else s.2 49 (n_slotK s x).toNat))) : NG Z (d + 1) 130 [xR 25, xI 9, xI x, xI y] s Post := by
  refine n_p0 (by omega) 365 ⟨by decide, by decide⟩ rfl ?_
  refine n_at nb130_365 (by omega) rfl ?_
  refine n_iv (vs := [xR 25, xI 11]) (r := []) nn136 (by simp) rfl nc136 (ng136e hd ⟨hz.1, by omega⟩ hb) (fun r s' hr => ?_)
  rw [hr.1, hr.2]
  refine n_iv (vs := [xR 25, xI x]) (r := [xR 25]) nn138 (by simp) rfl nc138 (ng138 (s := n_e s 11) hd hf hk hv hs hn (n_T01 _)) (fun r s' hr => ?_)
  rw [hr.1, hr.2]
  refine n_iv (vs := [xR 25, xI (if n_slotK s x < 0 then 0 else s.2 49 (n_slotK s x).toNat)]) (r := []) nn136 (by simp) rfl nc136 (ng136e (s := n_slotS (n_e s 11) x) hd ⟨by show 0 ≤ s.1 30 + 1; omega, by show s.1 30 + 1 < 260; omega⟩ (n_T01 _)) (fun r s' hr => ?_)
  rw [hr.1, hr.2]
  exact n_p526 (by omega) hP
/-- back to a run's beginning -/
theorem n_pf11 (hd : 6 ≤ d) (hx : 0 ≤ x ∧ x < 250) (hz : 0 ≤ s.1 30 ∧ s.1 30 < 240) (hb : s.1 28 = 0 ∨ s.1 28 = 1) (hP : Post none (n_e (n_e (n_e (n_aim (n_e (n_e (n_e (n_e s 10) 7) (n_shr y 8)) y) x) 0) 0) 0)) : NG Z (d + 2) 130 [xR 25, xI 11, xI x, xI y] s Post := by
  refine n_p0 (by omega) 430 ⟨by decide, by decide⟩ rfl ?_
  refine n_at nb130_430 (by omega) rfl ?_
  refine n_iv (d := d + 1) (vs := [xR 25, xI 10]) (r := []) nn136 (by simp) rfl nc136 (ng136e (by omega) ⟨hz.1, by omega⟩ hb) (fun r s' hr => ?_)
  rw [hr.1, hr.2]
  refine n_iv (d := d + 1) (vs := [xR 25, xI 7]) (r := []) nn136 (by simp) rfl nc136 (ng136e (s := n_e s 10) (by omega) ⟨by show 0 ≤ s.1 30 + 1; omega, by show s.1 30 + 1 < 260; omega⟩ (n_T01 _)) (fun r s' hr => ?_)
  rw [hr.1, hr.2]
  refine n_iv (d := d + 1) (vs := [xR 25, xI y]) (r := []) nn137 (by simp) rfl nc137 (ng137e (s := n_e (n_e s 10) 7) (by omega) ⟨by show 0 ≤ s.1 30 + 1 + 1; omega, by show s.1 30 + 1 + 1 < 259; omega⟩ (n_T01 _)) (fun r s' hr => ?_)
  rw [hr.1, hr.2]
  refine n_iv (d := d + 1) (vs := [xR 25, xI x]) (r := []) nn139 (by simp) rfl nc139 (ng139 (s := n_e (n_e (n_e (n_e s 10) 7) (n_shr y 8)) y) (by omega) ⟨hx.1, by omega⟩) (fun r s' hr => ?_)
  rw [hr.1, hr.2]
  refine n_iv (d := d + 1) (vs := [xR 25, xI 0]) (r := []) nn136 (by simp) rfl nc136 (ng136e (s := n_aim (n_e (n_e (n_e (n_e s 10) 7) (n_shr y 8)) y) x) (by omega) ⟨by show 0 ≤ s.1 30 + 1 + 1 + 1 + 1; omega, by show s.1 30 + 1 + 1 + 1 + 1 < 260; omega⟩ (n_T01 _)) (fun r s' hr => ?_)
  rw [hr.1, hr.2]
  refine n_iv (d := d + 1) (vs := [xR 25, xI 0]) (r := []) nn137 (by simp) rfl nc137 (ng137z (s := n_e (n_aim (n_e (n_e (n_e (n_e s 10) 7) (n_shr y 8)) y) x) 0) (by omega) ⟨by show 0 ≤ s.1 30 + 1 + 1 + 1 + 1 + 1; omega, by show s.1 30 + 1 + 1 + 1 + 1 + 1 < 259; omega⟩ (n_T01 _)) (fun r s' hr => ?_)
  rw [hr.1, hr.2]
  exact n_p526 (by omega) hP
def n_mark (s : nS) (x : Int) : nS := (n_upd s.1 34 (s.1 34 + 1), n_updA (n_updA s.2 50 (s.1 34).toNat (s.1 30)) 51 (s.1 34).toNat x)
/-- a call -/
theorem n_pf12 (hd : 6 ≤ d) (hm : 0 ≤ s.1 34 ∧ s.1 34 < 70) (hz : 0 ≤ s.1 30 ∧ s.1 30 < 240) (hb : s.1 28 = 0 ∨ s.1 28 = 1) (hP : Post none (n_fd (n_e (n_e (n_e (n_mark (n_e s 12) x) 0) 0) y) 31 (1 - y))) : NG Z (d + 2) 130 [xR 25, xI 12, xI x, xI y] s Post := by
  refine n_p0 (by omega) 465 ⟨by decide, by decide⟩ rfl ?_
  refine n_at nb130_465 (by omega) rfl ?_
  refine n_iv (d := d + 1) (vs := [xR 25, xI 12]) (r := []) nn136 (by simp) rfl nc136 (ng136e (by omega) ⟨hz.1, by omega⟩ hb) (fun r s' hr => ?_)
  rw [hr.1, hr.2]
  refine ⟨hm, hm, ?_⟩
  refine n_iv (d := d + 1) (vs := [xR 25, xI 0]) (r := []) nn137 (by simp) rfl nc137 (ng137z (s := n_mark (n_e s 12) x) (by omega) ⟨by show 0 ≤ s.1 30 + 1; omega, by show s.1 30 + 1 < 259; omega⟩ (n_T01 _)) (fun r s' hr => ?_)
  rw [hr.1, hr.2]
  refine n_iv (d := d + 1) (vs := [xR 25, xI y]) (r := []) nn136 (by simp) rfl nc136 (ng136e (s := n_e (n_e (n_mark (n_e s 12) x) 0) 0) (by omega) ⟨by show 0 ≤ s.1 30 + 1 + 1 + 1; omega, by show s.1 30 + 1 + 1 + 1 < 260; omega⟩ (n_T01 _)) (fun r s' hr => ?_)
  rw [hr.1, hr.2]
  exact n_p526 (by omega) hP
end N37
end
section
/-! CODE THAT IS MADE. c: its bytes; z: its length; D: how deep where a step begins (below 0: none begins there); Q: the jumps' places that are still open; M: the calls' places that are marked -/
def n_tg (c : Nat → Int) (q : Nat) : Int := n_or (n_shl (c q % 256) 8) (c (q + 1) % 256)
theorem n_tg_w : ∀ x : Nat, x < 1024 → n_or (n_shl (n_by (n_shr (x : Int) 8) % 256) 8) (n_by (x : Int) % 256) = (x : Int) := by decide +kernel
theorem n_by_s : ∀ x : Nat, x < 256 → n_by (x : Int) % 256 = (x : Int) := by decide +kernel
theorem n_by_o : ∀ x : Nat, x < 128 → n_by (x : Int) = (x : Int) := by decide +kernel
theorem n_tg_put {c : Nat → Int} {q : Nat} {x : Int} (h : 0 ≤ x ∧ x < 1024) (h1 : c q = n_by (n_shr x 8)) (h2 : c (q + 1) = n_by x) : n_tg c q = x := by
  unfold n_tg
  rw [h1, h2]
  have := n_tg_w x.toNat (by omega)
  rw [show ((x.toNat : Nat) : Int) = x from by omega] at this
  exact this
theorem n_by_small {x : Int} (h : 0 ≤ x ∧ x < 256) : n_by x % 256 = x := by
  have := n_by_s x.toNat (by omega)
  rw [show ((x.toNat : Nat) : Int) = x from by omega] at this
  exact this
def n_cv (c : Nat → Int) (z : Nat) (D : Nat → Int) (Q M : Nat → Prop) (p : Nat) : Prop :=
  (c p = 0 ∧ p + 3 ≤ z ∧ D (p + 3) = D p + 1 ∧ D (p + 1) < 0 ∧ D (p + 2) < 0) ∨
  (c p = 1 ∧ p + 2 ≤ z ∧ D (p + 2) = D p + 1 ∧ D (p + 1) < 0 ∧ c (p + 1) % 256 < D p) ∨
  ((2 ≤ c p ∧ c p ≤ 6) ∧ p + 1 ≤ z ∧ D (p + 1) = D p - 1 ∧ 2 ≤ D p) ∨
  (c p = 7 ∧ p + 3 ≤ z ∧ 0 ≤ D (p + 3) ∧ D (p + 1) < 0 ∧ D (p + 2) < 0 ∧ (Q (p + 1) ∨ ((0 ≤ n_tg c (p + 1) ∧ n_tg c (p + 1) ≤ z) ∧ D (n_tg c (p + 1)).toNat = D p))) ∨
  (c p = 8 ∧ p + 3 ≤ z ∧ D (p + 3) = D p - 1 ∧ D (p + 1) < 0 ∧ D (p + 2) < 0 ∧ 1 ≤ D p ∧ (Q (p + 1) ∨ ((0 ≤ n_tg c (p + 1) ∧ n_tg c (p + 1) ≤ z) ∧ D (n_tg c (p + 1)).toNat = D p - 1))) ∨
  (c p = 9 ∧ p + 1 ≤ z ∧ D (p + 1) = D p - 1 ∧ 2 ≤ D p) ∨
  (c p = 10 ∧ p + 1 ≤ z ∧ D (p + 1) = D p - 1 ∧ 1 ≤ D p) ∨
  (c p = 11 ∧ p + 2 ≤ z ∧ D (p + 2) = D p ∧ D (p + 1) < 0 ∧ 1 ≤ D p ∧ c (p + 1) % 256 < D p) ∨
  (c p = 12 ∧ p + 4 ≤ z ∧ D (p + 4) = D p + 1 - c (p + 3) % 256 ∧ D (p + 1) < 0 ∧ D (p + 2) < 0 ∧ D (p + 3) < 0 ∧ c (p + 3) % 256 ≤ D p ∧ M (p + 1))
def n_BC (c : Nat → Int) (z : Nat) (D : Nat → Int) (Q M : Nat → Prop) : Prop := 0 ≤ D 0 ∧ (∀ p, z < p → D p < 0) ∧ (∀ p, p < z → 0 ≤ D p → n_cv c z D Q M p)
section N38
variable {c c' : Nat → Int} {z w p : Nat} {D D' : Nat → Int} {Q Q' M M' : Nat → Prop} {e : Int}
theorem n_cv_app (h : n_cv c z D Q M p) (hz : z ≤ w) (hc : ∀ j, j < z → c' j = c j) (hD : ∀ j, j ≤ z → D' j = D j) (hQ : ∀ q, Q q → Q' q) (hM : ∀ q, M q → M' q) : n_cv c' w D' Q' M' p := by
  unfold n_cv n_tg at *
  rcases h with h | h | h | h | h | h | h | h | h
  · left
    rw [hc p (by omega), hD p (by omega), hD (p + 1) (by omega), hD (p + 2) (by omega), hD (p + 3) (by omega)]
    exact ⟨h.1, by omega, h.2.2⟩
  · right; left
    rw [hc p (by omega), hc (p + 1) (by omega), hD p (by omega), hD (p + 1) (by omega), hD (p + 2) (by omega)]
    exact ⟨h.1, by omega, h.2.2⟩
  · right; right; left
    rw [hc p (by omega), hD p (by omega), hD (p + 1) (by omega)]
    exact ⟨h.1, by omega, h.2.2⟩
  · right; right; right; left
    rw [hc p (by omega), hc (p + 1) (by omega), hc (p + 1 + 1) (by omega), hD p (by omega), hD (p + 1) (by omega), hD (p + 2) (by omega), hD (p + 3) (by omega)]
    refine ⟨h.1, by omega, h.2.2.1, h.2.2.2.1, h.2.2.2.2.1, ?_⟩
    rcases h.2.2.2.2.2 with g | g
    · exact Or.inl (hQ _ g)
    · refine Or.inr ⟨⟨g.1.1, by omega⟩, ?_⟩
      rw [hD _ (by omega)]
      exact g.2
  · right; right; right; right; left
    rw [hc p (by omega), hc (p + 1) (by omega), hc (p + 1 + 1) (by omega), hD p (by omega), hD (p + 1) (by omega), hD (p + 2) (by omega), hD (p + 3) (by omega)]
    refine ⟨h.1, by omega, h.2.2.1, h.2.2.2.1, h.2.2.2.2.1, h.2.2.2.2.2.1, ?_⟩
    rcases h.2.2.2.2.2.2 with g | g
    · exact Or.inl (hQ _ g)
    · refine Or.inr ⟨⟨g.1.1, by omega⟩, ?_⟩
      rw [hD _ (by omega)]
      exact g.2
  · right; right; right; right; right; left
    rw [hc p (by omega), hD p (by omega), hD (p + 1) (by omega)]
    exact ⟨h.1, by omega, h.2.2⟩
  · right; right; right; right; right; right; left
    rw [hc p (by omega), hD p (by omega), hD (p + 1) (by omega)]
    exact ⟨h.1, by omega, h.2.2⟩
  · right; right; right; right; right; right; right; left
    rw [hc p (by omega), hc (p + 1) (by omega), hD p (by omega), hD (p + 1) (by omega), hD (p + 2) (by omega)]
    exact ⟨h.1, by omega, h.2.2⟩
  · right; right; right; right; right; right; right; right
    rw [hc p (by omega), hc (p + 3) (by omega), hD p (by omega), hD (p + 1) (by omega), hD (p + 2) (by omega), hD (p + 3) (by omega), hD (p + 4) (by omega)]
    exact ⟨h.1, by omega, h.2.2.1, h.2.2.2.1, h.2.2.2.2.1, h.2.2.2.2.2.1, h.2.2.2.2.2.2.1, hM _ h.2.2.2.2.2.2.2⟩
/-- a step of code is put behind -/
theorem n_BC_app (h : n_BC c z D Q M) (hw : 1 ≤ w) (hc : ∀ j, j < z → c' j = c j) (hQ : ∀ q, Q q → Q' q) (hM : ∀ q, M q → M' q) (hn : n_cv c' (z + w) (n_upd D (z + w) e) Q' M' z) : n_BC c' (z + w) (n_upd D (z + w) e) Q' M' := by
  obtain ⟨h1, h2, h3⟩ := h
  refine ⟨?_, fun p hp => ?_, fun p hp hd => ?_⟩
  · rw [n_u_ne (by omega)]
    exact h1
  · rw [n_u_ne (by omega)]
    exact h2 p (by omega)
  · by_cases hpz : p < z
    · rw [n_u_ne (by omega)] at hd
      exact n_cv_app (h3 p hpz hd) (by omega) hc (fun j hj => n_u_ne (by omega)) hQ hM
    · by_cases hpe : p = z
      · rw [hpe]
        exact hn
      · rw [n_u_ne (by omega)] at hd
        have := h2 p (by omega)
        omega
/-- a jump's place is set -/
theorem n_BC_fill (h : n_BC c z D Q M) (hp : 0 ≤ D p) (hpz : p + 3 ≤ z) (hop : (c p = 7 ∧ D z = D p) ∨ (c p = 8 ∧ D z = D p - 1)) (hc : ∀ j, j ≠ p + 1 → j ≠ p + 2 → c' j = c j) (ht : n_tg c' (p + 1) = z) (hQ : ∀ q, Q q → q ≠ p + 1 → Q' q) : n_BC c' z D Q' M := by
  obtain ⟨h1, h2, h3⟩ := h
  have hin : D (p + 1) < 0 ∧ D (p + 2) < 0 := by
    have := h3 p (by omega) hp
    unfold n_cv at this
    omega
  refine ⟨h1, h2, fun p' hp' hd => ?_⟩
  have g := h3 p' hp' hd
  by_cases hpe : p' = p
  · subst hpe
    have e0 := hc p' (by omega) (by omega)
    unfold n_cv at *
    rcases hop with ⟨o1, o2⟩ | ⟨o1, o2⟩
    · right; right; right; left
      rw [e0]
      refine ⟨o1, by omega, ?_, hin.1, hin.2, Or.inr ⟨by rw [ht]; omega, by rw [ht]; simpa using o2⟩⟩
      omega
    · right; right; right; right; left
      rw [e0]
      refine ⟨o1, by omega, ?_, hin.1, hin.2, ?_, Or.inr ⟨by rw [ht]; omega, by rw [ht]; simpa using o2⟩⟩
      · omega
      · omega
  · have ne1 : ¬ p' = p + 1 := fun h => by rw [h] at hd; omega
    have ne2 : ¬ p' = p + 2 := fun h => by rw [h] at hd; omega
    have q1 : p' + 1 = p → 0 ≤ D (p' + 1) := fun h => by rw [h]; exact hp
    have q2 : p' + 2 = p → 0 ≤ D (p' + 2) := fun h => by rw [h]; exact hp
    have q3 : p' + 3 = p → 0 ≤ D (p' + 3) := fun h => by rw [h]; exact hp
    have e0 := hc p' (by omega) (by omega)
    unfold n_cv n_tg at *
    rcases g with g | g | g | g | g | g | g | g | g
    · left
      rw [e0]
      exact g
    · right; left
      rw [e0, hc (p' + 1) (by omega) (by omega)]
      exact g
    · right; right; left
      rw [e0]
      exact g
    · right; right; right; left
      rw [e0, hc (p' + 1) (by omega) (by omega), hc (p' + 1 + 1) (by omega) (by omega)]
      refine ⟨g.1, g.2.1, g.2.2.1, g.2.2.2.1, g.2.2.2.2.1, ?_⟩
      rcases g.2.2.2.2.2 with k | k
      · exact Or.inl (hQ _ k (by omega))
      · exact Or.inr k
    · right; right; right; right; left
      rw [e0, hc (p' + 1) (by omega) (by omega), hc (p' + 1 + 1) (by omega) (by omega)]
      refine ⟨g.1, g.2.1, g.2.2.1, g.2.2.2.1, g.2.2.2.2.1, g.2.2.2.2.2.1, ?_⟩
      rcases g.2.2.2.2.2.2 with k | k
      · exact Or.inl (hQ _ k (by omega))
      · exact Or.inr k
    · right; right; right; right; right; left
      rw [e0]
      exact g
    · right; right; right; right; right; right; left
      rw [e0]
      exact g
    · right; right; right; right; right; right; right; left
      rw [e0, hc (p' + 1) (by omega) (by omega)]
      exact g
    · right; right; right; right; right; right; right; right
      rw [e0, hc (p' + 3) (by omega) (by omega)]
      exact g
end N38
end
section
/-! THE TASK MACHINE: what stands while a body is made -/
def n_bf (b s : nS) : Prop := (∀ k, ¬ (k = 17 ∨ k = 18 ∨ (23 ≤ k ∧ k ≤ 25) ∨ (28 ≤ k ∧ k ≤ 34)) → s.1 k = b.1 k) ∧ (∀ a i, ¬ (38 ≤ a ∧ a ≤ 51) → s.2 a i = b.2 a i)
def n_M (s : nS) (q : Nat) : Prop := ∃ j : Nat, (j : Int) < s.1 34 ∧ s.2 50 j = (q : Int)
def n_MK (s : nS) (D : Nat → Int) : Prop := (0 ≤ s.1 34 ∧ 4 * s.1 34 ≤ s.1 30) ∧ (∀ j : Nat, (j : Int) < s.1 34 → n_rng (s.2 51 j) ∧ ∃ p : Nat, s.2 50 j = (p : Int) + 1 ∧ (p : Int) + 4 ≤ s.1 30 ∧ 0 ≤ D p ∧ s.2 47 p = 12)
def n_GF (s : nS) (H O : Nat → Int) : Prop := n_FI s H O ∧ (0 ≤ s.1 33 ∧ s.1 33 ≤ 12) ∧ s.1 17 ≤ 95 * (s.1 33 + 1) ∧ s.1 18 ≤ 95 * (s.1 33 + 1)
def n_GN (s : nS) : Prop := (0 ≤ s.1 32 ∧ s.1 32 ≤ 110) ∧ (∀ k : Nat, (k : Int) < s.1 32 → n_rng (s.2 48 k))
def n_GD (s : nS) (D : Nat → Int) (z : Nat) : Prop := D z = s.1 31 ∧ 0 ≤ s.1 31 ∧ 2 * s.1 31 ≤ 8 + s.1 30
def n_GZ (s : nS) (z : Nat) : Prop := s.1 30 = (z : Int) ∧ z ≤ 200 ∧ s.1 28 = 0
def n_BI (b s : nS) (D H O : Nat → Int) (Q : Nat → Prop) (z : Nat) : Prop := n_bf b s ∧ n_GZ s z ∧ n_GF s H O ∧ n_GN s ∧ n_GD s D z ∧ n_BC (s.2 47) z D Q (n_M s) ∧ n_MK s D
/-- what stays: tasks below i, slots below v, code below z -/
def n_E (i v : Int) (z : Nat) (s : nS) (D H O : Nat → Int) (s' : nS) (D' H' O' : Nat → Int) : Prop := n_old s H O s' H' O' ∧ s.1 33 ≤ s'.1 33 ∧ (∀ j, j < z → s'.2 47 j = s.2 47 j) ∧ (∀ j, j ≤ z → D' j = D j) ∧ (∀ j : Nat, (j : Int) < i → s'.2 44 j = s.2 44 j ∧ s'.2 45 j = s.2 45 j ∧ s'.2 46 j = s.2 46 j) ∧ (∀ k : Nat, (k : Int) < v → s'.2 49 k = s.2 49 k)
/-- only other fields and arrays differ -/
def n_sm (s t : nS) : Prop := (t.1 17 = s.1 17 ∧ t.1 18 = s.1 18 ∧ t.1 33 = s.1 33) ∧ (∀ a i, 38 ≤ a ∧ a ≤ 41 → t.2 a i = s.2 a i)
section N39
variable {b s t : nS} {D H O D' H' O' D2 H2 O2 : Nat → Int} {Q Q' : Nat → Prop} {z z' w i : Nat} {v : Int}
theorem n_sm_old (h : n_sm s t) : n_old s H O t H O := ⟨by rw [h.1.1]; exact Int.le_refl _, by rw [h.1.2.1]; exact Int.le_refl _, fun i _ => ⟨h.2 38 i (by decide), h.2 39 i (by decide), rfl⟩, fun j _ => ⟨h.2 40 j (by decide), h.2 41 j (by decide), rfl⟩⟩
theorem n_sm_FI (h : n_sm s t) (hF : n_FI s H O) : n_FI t H O := by
  obtain ⟨⟨h1, h2, h3⟩, h4⟩ := h
  obtain ⟨f1, f2, f3, f4⟩ := hF
  refine ⟨by rw [h1]; exact f1, by rw [h2]; exact f2, fun i hi => ?_, fun j hj => ?_⟩
  · have := f3 i (by rw [← h1]; exact hi)
    unfold n_FIf at this ⊢
    rw [h4 38 i (by decide), h4 39 i (by decide), h2]
    exact this
  · have := f4 j (by rw [← h2]; exact hj)
    unfold n_FIc at this ⊢
    rw [h4 40 j (by decide), h4 41 j (by decide), h1, h2]
    exact this
theorem n_sm_GF (h : n_sm s t) (hF : n_GF s H O) : n_GF t H O := by
  obtain ⟨f1, f2, f3, f4⟩ := hF
  refine ⟨n_sm_FI h f1, ?_, ?_, ?_⟩
  · rw [h.1.2.2]; exact f2
  · rw [h.1.1, h.1.2.2]; exact f3
  · rw [h.1.2.1, h.1.2.2]; exact f4
theorem n_old_tr {c : nS} {Hc Oc : Nat → Int} (h1 : n_old s H O t H' O') (h2 : n_old t H' O' c Hc Oc) : n_old s H O c Hc Oc := by
  obtain ⟨a1, a2, a3, a4⟩ := h1
  obtain ⟨c1, c2, c3, c4⟩ := h2
  refine ⟨by omega, by omega, fun i hi => ?_, fun j hj => ?_⟩
  · obtain ⟨p1, p2, p3⟩ := a3 i hi
    obtain ⟨q1, q2, q3⟩ := c3 i (by omega)
    exact ⟨by rw [q1, p1], by rw [q2, p2], by rw [q3, p3]⟩
  · obtain ⟨p1, p2, p3⟩ := a4 j hj
    obtain ⟨q1, q2, q3⟩ := c4 j (by omega)
    exact ⟨by rw [q1, p1], by rw [q2, p2], by rw [q3, p3]⟩
theorem n_E_tr {i j v v' : Int} {c : nS} (h1 : n_E i v z s D H O t D' H' O') (h2 : n_E j v' w t D' H' O' c D2 H2 O2) (hi : i ≤ j) (hv : v ≤ v') (hz : z ≤ w) : n_E i v z s D H O c D2 H2 O2 := by
  obtain ⟨a1, a2, a3, a4, a5, a6⟩ := h1
  obtain ⟨c1, c2, c3, c4, c5, c6⟩ := h2
  refine ⟨n_old_tr a1 c1, by omega, fun j hj => ?_, fun j hj => ?_, fun j hj => ?_, fun k hk => ?_⟩
  · rw [c3 j (by omega), a3 j hj]
  · rw [c4 j (by omega), a4 j hj]
  · obtain ⟨p1, p2, p3⟩ := a5 j hj
    obtain ⟨q1, q2, q3⟩ := c5 j (by omega)
    exact ⟨by rw [q1, p1], by rw [q2, p2], by rw [q3, p3]⟩
  · rw [c6 k (by omega), a6 k hk]
/-- frames of the small changes -/
theorem n_bf_push {x y k : Int} (h : n_bf b s) : n_bf b (n_push s k x y) := by
  refine ⟨fun j hj => ?_, fun a i ha => ?_⟩
  · show n_upd s.1 29 _ j = _
    rw [n_u_ne (by omega)]
    exact h.1 j hj
  · show n_updA (n_updA (n_updA s.2 44 _ _) 45 _ _) 46 _ _ a i = _
    rw [n_ua_ne (by omega), n_ua_ne (by omega), n_ua_ne (by omega)]
    exact h.2 a i ha
theorem n_bf_pop {x : Int} (h : n_bf b s) : n_bf b (n_upd s.1 29 x, s.2) := by
  refine ⟨fun j hj => ?_, h.2⟩
  show n_upd s.1 29 _ j = _
  rw [n_u_ne (by omega)]
  exact h.1 j hj
theorem n_bf_e {x : Int} (h : n_bf b s) : n_bf b (n_e s x) := by
  refine ⟨fun j hj => ?_, fun a i ha => ?_⟩
  · show n_upd (n_upd s.1 30 _) 28 _ j = _
    rw [n_u_ne (by omega), n_u_ne (by omega)]
    exact h.1 j hj
  · show n_updA s.2 47 _ _ a i = _
    rw [n_ua_ne (by omega)]
    exact h.2 a i ha
theorem n_bf_fd {k : Nat} {x : Int} (h : n_bf b s) (hk : 28 ≤ k ∧ k ≤ 34) : n_bf b (n_fd s k x) := by
  refine ⟨fun j hj => ?_, h.2⟩
  show n_upd s.1 k _ j = _
  rw [n_u_ne (by omega)]
  exact h.1 j hj
theorem n_bf_28 {x : Int} (h : n_bf b s) : n_bf b (n_upd s.1 28 x, s.2) := by
  refine ⟨fun j hj => ?_, h.2⟩
  show n_upd s.1 28 _ j = _
  rw [n_u_ne (by omega)]
  exact h.1 j hj
theorem n_bf_aim {k : Int} (h : n_bf b s) : n_bf b (n_aim s k) := by
  refine ⟨h.1, fun a i ha => ?_⟩
  show n_updA (n_updA s.2 47 _ _) 47 _ _ a i = _
  rw [n_ua_ne (by omega), n_ua_ne (by omega)]
  exact h.2 a i ha
theorem n_bf_kn {x y : Int} (h : n_bf b s) : n_bf b (n_kn s x y) := by
  refine ⟨fun j hj => ?_, fun a i ha => ?_⟩
  · show n_upd s.1 32 _ j = _
    rw [n_u_ne (by omega)]
    exact h.1 j hj
  · show n_updA (n_updA s.2 48 _ _) 49 _ _ a i = _
    rw [n_ua_ne (by omega), n_ua_ne (by omega)]
    exact h.2 a i ha
theorem n_bf_mark {x : Int} (h : n_bf b s) : n_bf b (n_mark s x) := by
  refine ⟨fun j hj => ?_, fun a i ha => ?_⟩
  · show n_upd s.1 34 _ j = _
    rw [n_u_ne (by omega)]
    exact h.1 j hj
  · show n_updA (n_updA s.2 50 _ _) 51 _ _ a i = _
    rw [n_ua_ne (by omega), n_ua_ne (by omega)]
    exact h.2 a i ha
/-- bytes of code -/
theorem n_e47 {x : Int} {j : Nat} (hz : s.1 30 = (z : Int)) : (n_e s x).2 47 j = if j = z then n_by x else s.2 47 j := by
  show n_updA s.2 47 (s.1 30).toNat (n_by x) 47 j = _
  rw [n_ua_eq, show (s.1 30).toNat = z from by omega]
theorem n_e30 {x : Int} (hz : s.1 30 = (z : Int)) : (n_e s x).1 30 = ((z + 1 : Nat) : Int) := by
  show s.1 30 + 1 = _
  omega
theorem n_e28 {x : Int} : (n_e s x).1 28 = n_T (decide (¬ s.1 28 = 0 ∨ 200 < s.1 30 + 1)) := rfl
theorem n_T00 {q : Prop} {dq : Decidable q} (h : n_T (@decide q dq) = 0) : ¬ q := of_decide_eq_false (n_T0 h)
theorem n_e28_0 {x : Int} (h : (n_e s x).1 28 = 0) : s.1 28 = 0 ∧ s.1 30 + 1 ≤ 200 := by
  have := n_T00 h
  omega
/-- a task is laid down, or taken: the rest stays -/
theorem n_BI_t (h : n_BI b s D H O Q z) (hb : n_bf b t) (h1 : ∀ k, ¬ k = 29 → t.1 k = s.1 k) (h2 : ∀ a i, ¬ (44 ≤ a ∧ a ≤ 46) → t.2 a i = s.2 a i) : n_BI b t D H O Q z := by
  obtain ⟨a0, a1, a2, a3, a4, a5, a6⟩ := h
  have e47 : t.2 47 = s.2 47 := funext (fun i => h2 47 i (by decide))
  have eM : n_M t = n_M s := by
    funext q
    unfold n_M
    rw [h1 34 (by decide), show t.2 50 = s.2 50 from funext (fun i => h2 50 i (by decide))]
  refine ⟨hb, ?_, n_sm_GF ⟨⟨h1 17 (by decide), h1 18 (by decide), h1 33 (by decide)⟩, fun a i ha => h2 a i (by omega)⟩ a2, ?_, ?_, ?_, ?_⟩
  · unfold n_GZ at *
    rw [h1 30 (by decide), h1 28 (by decide)]
    exact a1
  · unfold n_GN at *
    rw [h1 32 (by decide), show t.2 48 = s.2 48 from funext (fun i => h2 48 i (by decide))]
    exact a3
  · unfold n_GD at *
    rw [h1 31 (by decide), h1 30 (by decide)]
    exact a4
  · rw [e47, eM]
    exact a5
  · unfold n_MK at *
    rw [h1 34 (by decide), h1 30 (by decide), e47, show t.2 50 = s.2 50 from funext (fun i => h2 50 i (by decide)), show t.2 51 = s.2 51 from funext (fun i => h2 51 i (by decide))]
    exact a6
theorem n_BI_push {x y k : Int} (h : n_BI b s D H O Q z) : n_BI b (n_push s k x y) D H O Q z := by
  refine n_BI_t h (n_bf_push h.1) (fun j hj => ?_) (fun a i ha => ?_)
  · show n_upd s.1 29 _ j = _
    rw [n_u_ne hj]
  · show n_updA (n_updA (n_updA s.2 44 _ _) 45 _ _) 46 _ _ a i = _
    rw [n_ua_ne (by omega), n_ua_ne (by omega), n_ua_ne (by omega)]
theorem n_BI_pop {x : Int} (h : n_BI b s D H O Q z) : n_BI b (n_upd s.1 29 x, s.2) D H O Q z := n_BI_t h (n_bf_pop h.1) (fun j hj => n_u_ne hj) (fun _ _ _ => rfl)
theorem n_E_push {x y k i v : Int} {w : Nat} (hi : i ≤ s.1 29) (h0 : 0 ≤ s.1 29) : n_E i v w s D H O (n_push s k x y) D H O := by
  have e : ∀ a j, ¬ (44 ≤ a ∧ a ≤ 46) → (n_push s k x y).2 a j = s.2 a j := fun a j ha => by
    show n_updA (n_updA (n_updA s.2 44 _ _) 45 _ _) 46 _ _ a j = _
    rw [n_ua_ne (by omega), n_ua_ne (by omega), n_ua_ne (by omega)]
  refine ⟨n_sm_old ⟨⟨rfl, rfl, rfl⟩, fun a j ha => e a j (by omega)⟩, Int.le_refl _, fun j _ => e 47 j (by decide), fun _ _ => rfl, fun j hj => ⟨?_, ?_, ?_⟩, fun k _ => e 49 k (by decide)⟩
  · show n_updA s.2 44 (s.1 29).toNat k 44 j = _
    rw [n_ua_eq, if_neg (by omega)]
  · show n_updA s.2 45 (s.1 29).toNat x 45 j = _
    rw [n_ua_eq, if_neg (by omega)]
  · show n_updA s.2 46 (s.1 29).toNat y 46 j = _
    rw [n_ua_eq, if_neg (by omega)]
theorem n_E_pop {x i v : Int} {w : Nat} : n_E i v w s D H O (n_upd s.1 29 x, s.2) D H O := ⟨n_sm_old ⟨⟨rfl, rfl, rfl⟩, fun _ _ _ => rfl⟩, Int.le_refl _, fun _ _ => rfl, fun _ _ => rfl, fun _ _ => ⟨rfl, rfl, rfl⟩, fun _ _ => rfl⟩
theorem n_pushed {x y k : Int} (hi : s.1 29 = (i : Int)) : (n_push s k x y).1 29 = (i : Int) + 1 ∧ (n_push s k x y).2 44 i = k ∧ (n_push s k x y).2 45 i = x ∧ (n_push s k x y).2 46 i = y := by
  refine ⟨?_, ?_, ?_, ?_⟩
  · show s.1 29 + 1 = _
    omega
  · show n_updA s.2 44 (s.1 29).toNat k 44 i = _
    rw [n_ua_eq, if_pos (by omega)]
  · show n_updA s.2 45 (s.1 29).toNat x 45 i = _
    rw [n_ua_eq, if_pos (by omega)]
  · show n_updA s.2 46 (s.1 29).toNat y 46 i = _
    rw [n_ua_eq, if_pos (by omega)]
/-- a step of code is put behind: the whole -/
theorem n_BI_app {e : Int} (h : n_BI b s D H O Q z) (hb : n_bf b t) (hw : 1 ≤ w) (h30 : t.1 30 = ((z + w : Nat) : Int)) (hzw : z + w ≤ 200) (h28 : t.1 28 = 0) (h31 : t.1 31 = e) (he : 0 ≤ e) (h2e : 2 * e ≤ 8 + ((z + w : Nat) : Int)) (h1 : ∀ k, ¬ (28 ≤ k ∧ k ≤ 31) → t.1 k = s.1 k) (h2 : ∀ a i, ¬ (44 ≤ a ∧ a ≤ 47) → t.2 a i = s.2 a i) (hc : ∀ j, j < z → t.2 47 j = s.2 47 j) (hQ : ∀ q, Q q → Q' q) (hn : n_cv (t.2 47) (z + w) (n_upd D (z + w) e) Q' (n_M s) z) : n_BI b t (n_upd D (z + w) e) H O Q' (z + w) := by
  obtain ⟨a0, a1, a2, a3, a4, a5, a6⟩ := h
  have eM : n_M t = n_M s := by
    funext q
    unfold n_M
    rw [h1 34 (by decide), show t.2 50 = s.2 50 from funext (fun i => h2 50 i (by decide))]
  refine ⟨hb, ⟨h30, hzw, h28⟩, n_sm_GF ⟨⟨h1 17 (by decide), h1 18 (by decide), h1 33 (by decide)⟩, fun a i ha => h2 a i (by omega)⟩ a2, ?_, ⟨?_, ?_, ?_⟩, ?_, ?_⟩
  · unfold n_GN at *
    rw [h1 32 (by decide), show t.2 48 = s.2 48 from funext (fun i => h2 48 i (by decide))]
    exact a3
  · rw [h31, n_u_eq]
  · rw [h31]; exact he
  · rw [h31, h30]; exact h2e
  · rw [eM]
    exact n_BC_app a5 hw hc hQ (fun _ h => h) hn
  · obtain ⟨m1, m2⟩ := a6
    have hz := a1.1
    refine ⟨?_, fun j hj => ?_⟩
    · rw [h1 34 (by decide), h30]
      omega
    · rw [h1 34 (by decide)] at hj
      obtain ⟨n1, p, n2, n3, n4, n5⟩ := m2 j hj
      refine ⟨by rw [h2 51 _ (by decide)]; exact n1, p, by rw [h2 50 _ (by decide)]; exact n2, by rw [h30]; omega, ?_, ?_⟩
      · rw [n_u_ne (by omega)]
        exact n4
      · rw [hc p (by omega)]
        exact n5
/-- and what stays then -/
theorem n_E_app {e i v : Int} {y : Nat} (h1 : ∀ k, ¬ (28 ≤ k ∧ k ≤ 31) → t.1 k = s.1 k) (h2 : ∀ a i, ¬ (44 ≤ a ∧ a ≤ 47) → t.2 a i = s.2 a i) (hc : ∀ j, j < z → t.2 47 j = s.2 47 j) (hw : 1 ≤ w) (hy : y ≤ z) (ht : ∀ j : Nat, (j : Int) < i → t.2 44 j = s.2 44 j ∧ t.2 45 j = s.2 45 j ∧ t.2 46 j = s.2 46 j) : n_E i v y s D H O t (n_upd D (z + w) e) H O := by
  refine ⟨n_sm_old ⟨⟨h1 17 (by decide), h1 18 (by decide), h1 33 (by decide)⟩, fun a i ha => h2 a i (by omega)⟩, by rw [h1 33 (by decide)]; exact Int.le_refl _, fun j hj => hc j (by omega), fun j hj => n_u_ne (by omega), ht, fun k _ => h2 49 k (by decide)⟩
end N39
end
section
/-! THE TASK MACHINE: a form is made, whatever comes behind -/
/-- the loop, as far as tasks need to know it -/
def n_LO (Z : Nat → List Int32) (d : Nat) (b : nS) (P : nS → Prop) : Prop := (∀ s, n_bf b s → (0 ≤ s.1 30 ∧ s.1 30 ≤ 260) → (0 ≤ s.1 29 ∧ s.1 29 ≤ 300) → s.1 28 = 1 → P s) ∧ (∀ (s : nS) (i : Nat), s.1 29 = (i : Int) + 1 → i < 300 → s.1 28 = 0 → NG Z (d + 5) 130 [xR 25, xI (s.2 44 i), xI (s.2 45 i), xI (s.2 46 i)] (n_upd s.1 29 i, s.2) (fun r s' => r = none ∧ P s') → P s)
/-- the known names' slots lie below e -/
def n_SB (s : nS) (e : Int) : Prop := ∀ k : Nat, (k : Int) < s.1 32 → 0 ≤ s.2 49 k ∧ s.2 49 k < e
/-- what comes behind a form -/
def n_KF (P : nS → Prop) (b s : nS) (D H O : Nat → Int) (Q : Nat → Prop) (z i : Nat) : Prop := ∀ (s' : nS) (D' H' O' : Nat → Int) (z' : Nat), n_BI b s' D' H' O' Q z' → n_E i (s.1 32) z s D H O s' D' H' O' → z ≤ z' → s'.1 29 = (i : Int) → s'.1 31 = s.1 31 + 1 → s'.1 32 = s.1 32 → P s'
def n_RM (i : Nat) (v : Int) (r h : Nat) : Prop := (i : Int) + 2 * (h + 7 * r) ≤ 190 ∧ v + h + 7 * r ≤ 96
def n_FC (P : nS → Prop) (b : nS) (r h : Nat) : Prop := ∀ (s : nS) (D H O : Nat → Int) (Q : Nat → Prop) (z i : Nat) (f : Int), n_BI b s D H O Q z → s.1 29 = (i : Int) + 1 → s.2 44 i = 0 → s.2 45 i = f → (0 ≤ f ∧ f < s.1 17) → H f.toNat ≤ h → 12 - s.1 33 ≤ r → n_RM i (s.1 32) r h → n_SB s (s.1 31) → n_KF P b s D H O Q z i → P s
/-- a chain of a list's cells -/
def n_ch (s : nS) (O : Nat → Int) (c f : Int) (xs : List Int) : Prop := n_isch s.2 c xs ∧ ∀ x ∈ xs, (0 ≤ x ∧ x < s.1 18) ∧ O x.toNat = f
section N40
variable {Z : Nat → List Int32} {d r h : Nat} {P : nS → Prop} {b s t : nS} {D H O D' H' O' : Nat → Int} {Q Q' : Nat → Prop} {z z' w i : Nat} {f c v : Int} {xs : List Int}
theorem n_ch_old (hc : n_ch s O c f xs) (ho : n_old s H O t H' O') : n_ch t O' c f xs := by
  refine ⟨n_isch_old ho _ _ hc.1 (fun y hy => (hc.2 y hy).1), fun x hx => ?_⟩
  obtain ⟨h1, h2⟩ := hc.2 x hx
  have := ho.2.1
  refine ⟨⟨h1.1, by omega⟩, ?_⟩
  rw [(ho.2.2.2 x.toNat (by omega)).2.2]
  exact h2
/-- a cell's form -/
theorem n_cell1 (hF : n_FI s H O) {x : Int} (hx : (0 ≤ x ∧ x < s.1 18) ∧ O x.toNat = f) (hf : 0 ≤ f) : (0 ≤ s.2 40 x.toNat ∧ s.2 40 x.toNat < s.1 17) ∧ H (s.2 40 x.toNat).toNat < H f.toNat := by
  obtain ⟨⟨h1, h2⟩, h3⟩ := hx
  obtain ⟨g1, g2, g3, g4⟩ := hF.2.2.2 x.toNat (by omega)
  rw [h3] at g3
  exact ⟨g1, g3⟩
theorem n_form1 (hF : n_FI s H O) (hf : 0 ≤ f ∧ f < s.1 17) : (0 ≤ f ∧ f < 1300) ∧ n_rng (s.2 38 f.toNat) ∧ (s.2 38 f.toNat = 1 → n_rng (s.2 39 f.toNat)) ∧ 0 ≤ H f.toNat := by
  obtain ⟨g1, g2, g3, g4⟩ := hF.2.2.1 f.toNat (by omega)
  have := hF.1
  refine ⟨⟨hf.1, by omega⟩, ?_, fun h => g3 (by omega), g2⟩
  rcases g1 with g | g | g <;> rw [g] <;> exact ⟨by decide, by decide⟩
/-- a form's task is laid down -/
theorem n_sub (IH : n_FC P b r h) (hB : n_BI b s D H O Q z) (hi : s.1 29 = (i : Int)) (hf : 0 ≤ f ∧ f < s.1 17) (hH : H f.toNat ≤ h) (hr : 12 - s.1 33 ≤ r) (hm : n_RM i (s.1 32) r h) (hs : n_SB s (s.1 31)) (K : n_KF P b s D H O Q z i) : P (n_push s 0 f 0) := by
  obtain ⟨p1, p2, p3, p4⟩ := n_pushed (s := s) (k := 0) (x := f) (y := 0) hi
  refine IH (n_push s 0 f 0) D H O Q z i f (n_BI_push hB) p1 p2 p3 hf hH hr hm hs ?_
  intro s' D' H' O' z' k1 k2 k3 k4 k5 k6
  exact K s' D' H' O' z' k1 (n_E_tr (n_E_push (by omega) (by omega)) k2 (Int.le_refl _) (Int.le_refl _) (Nat.le_refl _)) k3 k4 k5 k6
/-- the next task -/
theorem n_go (hL : n_LO Z d b P) {k x y : Int} (hi : s.1 29 = (i : Int) + 1) (h3 : i < 300) (hb : s.1 28 = 0) (h44 : s.2 44 i = k) (h45 : s.2 45 i = x) (h46 : s.2 46 i = y) (hG : NG Z (d + 5) 130 [xR 25, xI k, xI x, xI y] (n_upd s.1 29 i, s.2) (fun r s' => r = none ∧ P s')) : P s := by
  refine hL.2 s i hi h3 hb ?_
  rw [h44, h45, h46]
  exact hG
/-- a wrong body ends at once -/
theorem n_bad (hL : n_LO Z d b P) (hb : n_bf b s) (h30 : 0 ≤ s.1 30 ∧ s.1 30 ≤ 260) (h29 : 0 ≤ s.1 29 ∧ s.1 29 ≤ 300) (h28 : s.1 28 = 0 ∨ s.1 28 = 1) (h : s.1 28 = 0 → P s) : P s := by
  rcases h28 with h1 | h1
  · exact h h1
  · exact hL.1 s hb h30 h29 h1
/-- an atom of one number: three bytes -/
theorem n_aN (hL : n_LO Z d b P) (hd : 6 ≤ d) (hB : n_BI b s D H O Q z) (hi : s.1 29 = (i : Int)) (hi2 : i < 300) {x : Int} (K : n_KF P b s D H O Q z i) : P (n_fd (n_e (n_e (n_e s 0) (n_shr x 8)) x) 31 1) := by
  obtain ⟨a0, ⟨g1, g2, g3⟩, a2, a3, ⟨d1, d2, d3⟩, a5, a6⟩ := hB
  refine n_bad hL (n_bf_fd (n_bf_e (n_bf_e (n_bf_e a0))) (by decide)) ⟨by show 0 ≤ s.1 30 + 1 + 1 + 1; omega, by show s.1 30 + 1 + 1 + 1 ≤ 260; omega⟩ ⟨by show 0 ≤ s.1 29; omega, by show s.1 29 ≤ 300; omega⟩ (n_T01 _) (fun h0 => ?_)
  have hz := (n_e28_0 (s := n_e (n_e s 0) (n_shr x 8)) (x := x) h0).2
  have hz : s.1 30 + 1 + 1 + 1 ≤ 200 := hz
  have e1 := n_e30 (s := s) (x := 0) g1
  have e2 := n_e30 (s := n_e s 0) (x := n_shr x 8) e1
  have hc : ∀ j, (n_fd (n_e (n_e (n_e s 0) (n_shr x 8)) x) 31 1).2 47 j = if j = z + 1 + 1 then n_by x else if j = z + 1 then n_by (n_shr x 8) else if j = z then n_by 0 else s.2 47 j := fun j => by
    show (n_e (n_e (n_e s 0) (n_shr x 8)) x).2 47 j = _
    rw [n_e47 e2, n_e47 e1, n_e47 g1]
  have q1 : ∀ k, ¬ (28 ≤ k ∧ k ≤ 31) → (n_fd (n_e (n_e (n_e s 0) (n_shr x 8)) x) 31 1).1 k = s.1 k := fun k hk => by
    show n_upd (n_upd (n_upd (n_upd (n_upd (n_upd (n_upd s.1 30 _) 28 _) 30 _) 28 _) 30 _) 28 _) 31 _ k = _
    rw [n_u_ne (by omega), n_u_ne (by omega), n_u_ne (by omega), n_u_ne (by omega), n_u_ne (by omega), n_u_ne (by omega), n_u_ne (by omega)]
  have q2 : ∀ a i, ¬ (44 ≤ a ∧ a ≤ 47) → (n_fd (n_e (n_e (n_e s 0) (n_shr x 8)) x) 31 1).2 a i = s.2 a i := fun a i ha => by
    show n_updA (n_updA (n_updA s.2 47 _ _) 47 _ _) 47 _ _ a i = _
    rw [n_ua_ne (by omega), n_ua_ne (by omega), n_ua_ne (by omega)]
  have hz1 := a5.2.1
  have hcb : ∀ j, j < z → (n_fd (n_e (n_e (n_e s 0) (n_shr x 8)) x) 31 1).2 47 j = s.2 47 j := fun j hj => by
    rw [hc, if_neg (by omega), if_neg (by omega), if_neg (by omega)]
  have hBI := n_BI_app (w := 3) (e := s.1 31 + 1) (Q' := Q) ⟨a0, ⟨g1, g2, g3⟩, a2, a3, ⟨d1, d2, d3⟩, a5, a6⟩ (n_bf_fd (n_bf_e (n_bf_e (n_bf_e a0))) (by decide)) (by decide) (t := n_fd (n_e (n_e (n_e s 0) (n_shr x 8)) x) 31 1) (by show s.1 30 + 1 + 1 + 1 = _; omega) (by omega) h0 rfl (by omega) (by omega) q1 q2 hcb (fun _ h => h) (Or.inl ⟨by rw [hc, if_neg (by omega), if_neg (by omega), if_pos rfl]; decide, by omega, by rw [n_u_eq, n_u_ne (by omega), d1], by rw [n_u_ne (by omega)]; exact hz1 _ (by omega), by rw [n_u_ne (by omega)]; exact hz1 _ (by omega)⟩)
  exact K _ _ _ _ _ hBI (n_E_app q1 q2 hcb (by decide) (Nat.le_refl _) (fun _ _ => ⟨rfl, rfl, rfl⟩)) (by omega) hi rfl rfl
/-- an atom that is a name: two bytes -/
theorem n_aS (hL : n_LO Z d b P) (hd : 6 ≤ d) (hB : n_BI b s D H O Q z) (hi : s.1 29 = (i : Int)) (hi2 : i < 300) (hs : n_SB s (s.1 31)) {x : Int} (K : n_KF P b s D H O Q z i) : P (n_fd (n_e (n_e (n_slotS s x) 1) (if n_slotK s x < 0 then 0 else s.2 49 (n_slotK s x).toNat)) 31 1) := by
  obtain ⟨a0, ⟨g1, g2, g3⟩, a2, a3, ⟨d1, d2, d3⟩, a5, a6⟩ := hB
  generalize hsl : (if n_slotK s x < 0 then 0 else s.2 49 (n_slotK s x).toNat) = sl
  refine n_bad hL (n_bf_fd (n_bf_e (n_bf_e (n_bf_28 a0))) (by decide)) ⟨by show 0 ≤ s.1 30 + 1 + 1; omega, by show s.1 30 + 1 + 1 ≤ 260; omega⟩ ⟨by show 0 ≤ s.1 29; omega, by show s.1 29 ≤ 300; omega⟩ (n_T01 _) (fun h0 => ?_)
  have h01 := n_e28_0 (s := n_e (n_slotS s x) 1) (x := sl) h0
  have hz : s.1 30 + 1 + 1 ≤ 200 := h01.2
  have h02 := n_T00 (n_e28_0 (s := n_slotS s x) (x := 1) h01.1).1
  have hk0 : 0 ≤ n_slotK s x := by omega
  have hkb := n_lat_b (fun i => decide (s.2 38 x.toNat = 1 ∧ s.2 48 i = s.2 39 x.toNat)) (s.1 32).toNat
  have hkb : n_slotK s x < ((s.1 32).toNat : Nat) := hkb.2
  rw [if_neg (by omega)] at hsl
  have hsb := hs (n_slotK s x).toNat (by have := a3.1; omega)
  rw [hsl] at hsb
  have e1 := n_e30 (s := n_slotS s x) (z := z) (x := 1) g1
  have hc : ∀ j, (n_fd (n_e (n_e (n_slotS s x) 1) sl) 31 1).2 47 j = if j = z + 1 then n_by sl else if j = z then n_by 1 else s.2 47 j := fun j => by
    show (n_e (n_e (n_slotS s x) 1) sl).2 47 j = _
    rw [n_e47 e1, n_e47 (s := n_slotS s x) (z := z) g1]
    rfl
  have q1 : ∀ k, ¬ (28 ≤ k ∧ k ≤ 31) → (n_fd (n_e (n_e (n_slotS s x) 1) sl) 31 1).1 k = s.1 k := fun k hk => by
    show n_upd (n_upd (n_upd (n_upd (n_upd (n_upd s.1 28 _) 30 _) 28 _) 30 _) 28 _) 31 _ k = _
    rw [n_u_ne (by omega), n_u_ne (by omega), n_u_ne (by omega), n_u_ne (by omega), n_u_ne (by omega), n_u_ne (by omega)]
  have q2 : ∀ a i, ¬ (44 ≤ a ∧ a ≤ 47) → (n_fd (n_e (n_e (n_slotS s x) 1) sl) 31 1).2 a i = s.2 a i := fun a i ha => by
    show n_updA (n_updA s.2 47 _ _) 47 _ _ a i = _
    rw [n_ua_ne (by omega), n_ua_ne (by omega)]
  have hz1 := a5.2.1
  have hcb : ∀ j, j < z → (n_fd (n_e (n_e (n_slotS s x) 1) sl) 31 1).2 47 j = s.2 47 j := fun j hj => by
    rw [hc, if_neg (by omega), if_neg (by omega)]
  have hBI := n_BI_app (w := 2) (e := s.1 31 + 1) (Q' := Q) ⟨a0, ⟨g1, g2, g3⟩, a2, a3, ⟨d1, d2, d3⟩, a5, a6⟩ (n_bf_fd (n_bf_e (n_bf_e (n_bf_28 a0))) (by decide)) (by decide) (t := n_fd (n_e (n_e (n_slotS s x) 1) sl) 31 1) (by show s.1 30 + 1 + 1 = _; omega) (by omega) h0 rfl (by omega) (by omega) q1 q2 hcb (fun _ h => h) (Or.inr (Or.inl ⟨by rw [hc, if_neg (by omega), if_pos rfl]; decide, by omega, by rw [n_u_eq, n_u_ne (by omega), d1], by rw [n_u_ne (by omega)]; exact hz1 _ (by omega), by rw [hc, if_pos rfl, n_u_ne (by omega), d1, n_by_small ⟨hsb.1, by omega⟩]; exact hsb.2⟩))
  exact K _ _ _ _ _ hBI (n_E_app q1 q2 hcb (by decide) (Nat.le_refl _) (fun _ _ => ⟨rfl, rfl, rfl⟩)) (by omega) hi rfl rfl
/-- an atom's task -/
theorem n_at0 (hL : n_LO Z d b P) (hd : 6 ≤ d) (hB : n_BI b s D H O Q z) (hi : s.1 29 = (i : Int) + 1) (hi2 : i < 300) (h44 : s.2 44 i = 0) (h45 : s.2 45 i = f) (hf : 0 ≤ f ∧ f < s.1 17) (hk : ¬ s.2 38 f.toNat = 2) (hs : n_SB s (s.1 31)) (K : n_KF P b s D H O Q z i) : P s := by
  have hF := hB.2.2.1.1
  obtain ⟨f1, f2, f3, f4⟩ := n_form1 hF hf
  have hN := hB.2.2.2.1
  have hN1 := hN.1.2
  obtain ⟨g1, g2, g3⟩ := hB.2.1
  have K1 : n_KF P b (n_upd s.1 29 i, s.2) D H O Q z i := by
    intro s' D' H' O' z' k1 k2 k3 k4 k5 k6
    exact K s' D' H' O' z' k1 (n_E_tr n_E_pop k2 (Int.le_refl _) (Int.le_refl _) (Nat.le_refl _)) k3 k4 k5 k6
  refine n_go hL hi hi2 g3 h44 h45 rfl ?_
  refine n_pfA (d := d + 2) (s := (n_upd s.1 29 i, s.2)) (by omega) f1 f2 hk f3 hN.2 ⟨hN.1.1, by show s.1 32 ≤ 120; omega⟩ (Or.inl g3) ⟨by show 0 ≤ s.1 30; omega, by show s.1 30 ≤ 260; omega⟩ ⟨rfl, ?_⟩
  have hB1 := n_BI_pop (x := (i : Int)) hB
  by_cases h0 : s.2 38 f.toNat = 0
  · have := n_aN (x := s.2 39 f.toNat) hL hd hB1 (i := i) rfl hi2 K1
    have e : n_atS (n_upd s.1 29 i, s.2) f = n_e (n_e (n_e (n_upd s.1 29 i, s.2) 0) (n_shr (s.2 39 f.toNat) 8)) (s.2 39 f.toNat) := by
      unfold n_atS
      rw [if_pos h0, n_em_e (s := (n_upd s.1 29 i, s.2)) (by show s.1 30 < 260; omega), n_em_e (s := n_e (n_upd s.1 29 i, s.2) 0) (by show s.1 30 + 1 < 260; omega), n_em_e (by show s.1 30 + 1 + 1 < 260; omega)]
    rw [e]
    exact this
  · have := n_aS (x := f) hL hd hB1 (i := i) rfl hi2 hs K1
    have e : n_atS (n_upd s.1 29 i, s.2) f = n_e (n_e (n_slotS (n_upd s.1 29 i, s.2) f) 1) (if n_slotK (n_upd s.1 29 i, s.2) f < 0 then 0 else s.2 49 (n_slotK (n_upd s.1 29 i, s.2) f).toNat) := by
      unfold n_atS
      rw [if_neg h0, n_em_e (s := n_slotS (n_upd s.1 29 i, s.2) f) (by show s.1 30 < 260; omega), n_em_e (by show s.1 30 + 1 < 260; omega)]
    rw [e]
    exact this
end N40
end
section
/-! THE TASK MACHINE: steps of code, as tasks put them -/
section N41
variable {Z : Nat → List Int32} {d r h : Nat} {P : nS → Prop} {b s t : nS} {D H O D' H' O' : Nat → Int} {Q Q' : Nat → Prop} {z z' w i : Nat} {f c v : Int} {xs : List Int}
theorem n_SB_E {e e' j : Int} (hs : n_SB s e) (hE : n_E j (s.1 32) w s D H O t D' H' O') (hv : t.1 32 = s.1 32) (he : e ≤ e') : n_SB t e' := by
  intro k hk
  rw [hv] at hk
  have := hs k hk
  rw [hE.2.2.2.2.2 k hk]
  omega
/-- a step of one byte, one shallower -/
theorem n_op1 {op : Int} (hB : n_BI b s D H O Q z) (hop : (op = 10 ∧ 1 ≤ s.1 31) ∨ (((2 ≤ op ∧ op ≤ 6) ∨ op = 9) ∧ 2 ≤ s.1 31)) (h0 : (n_fd (n_e s op) 31 (-1)).1 28 = 0) (hw : w ≤ z) : n_BI b (n_fd (n_e s op) 31 (-1)) (n_upd D (z + 1) (s.1 31 - 1)) H O Q (z + 1) ∧ n_E f v w s D H O (n_fd (n_e s op) 31 (-1)) (n_upd D (z + 1) (s.1 31 - 1)) H O := by
  obtain ⟨a0, ⟨g1, g2, g3⟩, a2, a3, ⟨d1, d2, d3⟩, a5, a6⟩ := hB
  have hz : s.1 30 + 1 ≤ 200 := (n_e28_0 (s := s) (x := op) h0).2
  have hc : ∀ j, (n_fd (n_e s op) 31 (-1)).2 47 j = if j = z then n_by op else s.2 47 j := fun j => n_e47 g1
  have q1 : ∀ k, ¬ (28 ≤ k ∧ k ≤ 31) → (n_fd (n_e s op) 31 (-1)).1 k = s.1 k := fun k hk => by
    show n_upd (n_upd (n_upd s.1 30 _) 28 _) 31 _ k = _
    rw [n_u_ne (by omega), n_u_ne (by omega), n_u_ne (by omega)]
  have q2 : ∀ a i, ¬ (44 ≤ a ∧ a ≤ 47) → (n_fd (n_e s op) 31 (-1)).2 a i = s.2 a i := fun a i ha => by
    show n_updA s.2 47 _ _ a i = _
    rw [n_ua_ne (by omega)]
  have hcb : ∀ j, j < z → (n_fd (n_e s op) 31 (-1)).2 47 j = s.2 47 j := fun j hj => by
    rw [hc, if_neg (by omega)]
  have hop2 : n_by op = op := by
    have := n_by_o op.toNat (by omega)
    rw [show ((op.toNat : Nat) : Int) = op from by omega] at this
    exact this
  have hcz : (n_fd (n_e s op) 31 (-1)).2 47 z = op := by rw [hc, if_pos rfl, hop2]
  refine ⟨n_BI_app (w := 1) (e := s.1 31 - 1) (Q' := Q) ⟨a0, ⟨g1, g2, g3⟩, a2, a3, ⟨d1, d2, d3⟩, a5, a6⟩ (n_bf_fd (n_bf_e a0) (by decide)) (by decide) (by show s.1 30 + 1 = _; omega) (by omega) h0 rfl (by omega) (by omega) q1 q2 hcb (fun _ h => h) ?_, n_E_app q1 q2 hcb (by decide) hw (fun _ _ => ⟨rfl, rfl, rfl⟩)⟩
  unfold n_cv
  rw [hcz, n_u_eq, n_u_ne (show z ≠ z + 1 by omega), d1]
  rcases hop with ⟨o1, o2⟩ | ⟨o1 | o1, o2⟩
  · right; right; right; right; right; right; left
    exact ⟨o1, by omega, rfl, o2⟩
  · right; right; left
    exact ⟨o1, by omega, rfl, o2⟩
  · right; right; right; right; right; left
    exact ⟨o1, by omega, rfl, o2⟩
/-- a jump whose place stays open -/
theorem n_jmp {op k x y : Int} (hB : n_BI b s D H O Q z) (hi : s.1 29 = (i : Int)) (hop : op = 7 ∨ op = 8) (h31 : 1 ≤ s.1 31) (h0 : (n_fd (n_e (n_e (n_push (n_e s op) k x y) 0) 0) 31 (-1)).1 28 = 0) (hw : w ≤ z) : n_BI b (n_fd (n_e (n_e (n_push (n_e s op) k x y) 0) 0) 31 (-1)) (n_upd D (z + 3) (s.1 31 - 1)) H O (fun q => Q q ∨ q = z + 1) (z + 3) ∧ n_E i v w s D H O (n_fd (n_e (n_e (n_push (n_e s op) k x y) 0) 0) 31 (-1)) (n_upd D (z + 3) (s.1 31 - 1)) H O ∧ ((n_fd (n_e (n_e (n_push (n_e s op) k x y) 0) 0) 31 (-1)).2 44 i = k ∧ (n_fd (n_e (n_e (n_push (n_e s op) k x y) 0) 0) 31 (-1)).2 45 i = x ∧ (n_fd (n_e (n_e (n_push (n_e s op) k x y) 0) 0) 31 (-1)).2 46 i = y) ∧ z + 3 ≤ 200 ∧ (n_fd (n_e (n_e (n_push (n_e s op) k x y) 0) 0) 31 (-1)).2 47 z = op := by
  obtain ⟨a0, ⟨g1, g2, g3⟩, a2, a3, ⟨d1, d2, d3⟩, a5, a6⟩ := hB
  have hz : s.1 30 + 1 + 1 + 1 ≤ 200 := (n_e28_0 (s := n_e (n_push (n_e s op) k x y) 0) (x := 0) h0).2
  have e1 : (n_push (n_e s op) k x y).1 30 = ((z + 1 : Nat) : Int) := n_e30 (s := s) (x := op) g1
  have e2 := n_e30 (s := n_push (n_e s op) k x y) (x := 0) e1
  have hc : ∀ j, (n_fd (n_e (n_e (n_push (n_e s op) k x y) 0) 0) 31 (-1)).2 47 j = if j = z + 1 + 1 then n_by 0 else if j = z + 1 then n_by 0 else if j = z then n_by op else s.2 47 j := fun j => by
    show (n_e (n_e (n_push (n_e s op) k x y) 0) 0).2 47 j = _
    rw [n_e47 e2, n_e47 e1]
    show (if j = z + 1 + 1 then n_by 0 else if j = z + 1 then n_by 0 else (n_e s op).2 47 j) = _
    rw [n_e47 g1]
  have q1 : ∀ q, ¬ (28 ≤ q ∧ q ≤ 31) → (n_fd (n_e (n_e (n_push (n_e s op) k x y) 0) 0) 31 (-1)).1 q = s.1 q := fun q hk => by
    show n_upd (n_upd (n_upd (n_upd (n_upd (n_upd (n_upd (n_upd s.1 30 _) 28 _) 29 _) 30 _) 28 _) 30 _) 28 _) 31 _ q = _
    rw [n_u_ne (by omega), n_u_ne (by omega), n_u_ne (by omega), n_u_ne (by omega), n_u_ne (by omega), n_u_ne (by omega), n_u_ne (by omega), n_u_ne (by omega)]
  have q2 : ∀ a i, ¬ (44 ≤ a ∧ a ≤ 47) → (n_fd (n_e (n_e (n_push (n_e s op) k x y) 0) 0) 31 (-1)).2 a i = s.2 a i := fun a i ha => by
    show n_updA (n_updA (n_updA (n_updA (n_updA (n_updA s.2 47 _ _) 44 _ _) 45 _ _) 46 _ _) 47 _ _) 47 _ _ a i = _
    rw [n_ua_ne (by omega), n_ua_ne (by omega), n_ua_ne (by omega), n_ua_ne (by omega), n_ua_ne (by omega), n_ua_ne (by omega)]
  have hcb : ∀ j, j < z → (n_fd (n_e (n_e (n_push (n_e s op) k x y) 0) 0) 31 (-1)).2 47 j = s.2 47 j := fun j hj => by
    rw [hc, if_neg (by omega), if_neg (by omega), if_neg (by omega)]
  have hop2 : n_by op = op := by rcases hop with rfl | rfl <;> decide
  have hcz : (n_fd (n_e (n_e (n_push (n_e s op) k x y) 0) 0) 31 (-1)).2 47 z = op := by rw [hc, if_neg (by omega), if_neg (by omega), if_pos rfl, hop2]
  obtain ⟨p1, p2, p3, p4⟩ := n_pushed (s := n_e s op) (k := k) (x := x) (y := y) (i := i) hi
  have ht : ∀ j : Nat, (j : Int) < (i : Int) → (n_fd (n_e (n_e (n_push (n_e s op) k x y) 0) 0) 31 (-1)).2 44 j = s.2 44 j ∧ (n_fd (n_e (n_e (n_push (n_e s op) k x y) 0) 0) 31 (-1)).2 45 j = s.2 45 j ∧ (n_fd (n_e (n_e (n_push (n_e s op) k x y) 0) 0) 31 (-1)).2 46 j = s.2 46 j := fun j hj => by
    refine ⟨?_, ?_, ?_⟩
    · show n_updA s.2 44 (s.1 29).toNat k 44 j = _
      rw [n_ua_eq, if_neg (by omega)]
    · show n_updA s.2 45 (s.1 29).toNat x 45 j = _
      rw [n_ua_eq, if_neg (by omega)]
    · show n_updA s.2 46 (s.1 29).toNat y 46 j = _
      rw [n_ua_eq, if_neg (by omega)]
  have hz1 := a5.2.1
  refine ⟨n_BI_app (w := 3) (e := s.1 31 - 1) ⟨a0, ⟨g1, g2, g3⟩, a2, a3, ⟨d1, d2, d3⟩, a5, a6⟩ (n_bf_fd (n_bf_e (n_bf_e (n_bf_push (n_bf_e a0)))) (by decide)) (by decide) (by show s.1 30 + 1 + 1 + 1 = _; omega) (by omega) h0 rfl (by omega) (by omega) q1 q2 hcb (fun _ h => Or.inl h) ?_, n_E_app q1 q2 hcb (by decide) hw ht, ⟨p2, p3, p4⟩, by omega, hcz⟩
  unfold n_cv
  rw [hcz, n_u_eq, n_u_ne (show z ≠ z + 3 by omega), n_u_ne (show z + 1 ≠ z + 3 by omega), n_u_ne (show z + 2 ≠ z + 3 by omega), d1]
  rcases hop with o | o
  · right; right; right; left
    exact ⟨o, by omega, by omega, hz1 _ (by omega), hz1 _ (by omega), Or.inl (Or.inr rfl)⟩
  · right; right; right; right; left
    exact ⟨o, by omega, rfl, hz1 _ (by omega), hz1 _ (by omega), h31, Or.inl (Or.inr rfl)⟩
/-- a place is aimed at the end of the code -/
theorem n_BI_aim {p : Nat} (hB : n_BI b s D H O Q z) (hp : 0 ≤ D p) (hpz : p + 3 ≤ z) (hop : (s.2 47 p = 7 ∧ s.1 31 = D p) ∨ (s.2 47 p = 8 ∧ s.1 31 = D p - 1)) (hQ : ∀ q, Q q → q ≠ p + 1 → Q' q) : n_BI b (n_aim s ((p : Int) + 1)) D H O Q' z := by
  obtain ⟨a0, ⟨g1, g2, g3⟩, a2, a3, ⟨d1, d2, d3⟩, a5, a6⟩ := hB
  have hc : ∀ j, (n_aim s ((p : Int) + 1)).2 47 j = if j = p + 2 then n_by (s.1 30) else if j = p + 1 then n_by (n_shr (s.1 30) 8) else s.2 47 j := fun j => by
    show n_updA (n_updA s.2 47 ((p : Int) + 1).toNat _) 47 ((p : Int) + 1 + 1).toNat _ 47 j = _
    rw [n_ua_eq, n_ua_eq, show ((p : Int) + 1 + 1).toNat = p + 2 from by omega, show ((p : Int) + 1).toNat = p + 1 from by omega]
  have hin : D (p + 1) < 0 ∧ D (p + 2) < 0 := by
    have := a5.2.2 p (by omega) hp
    unfold n_cv at this
    omega
  refine ⟨n_bf_aim a0, ⟨g1, g2, g3⟩, n_sm_GF (s := s) (t := n_aim s ((p : Int) + 1)) ⟨⟨rfl, rfl, rfl⟩, fun a i ha => ?_⟩ a2, a3, ⟨d1, d2, d3⟩, ?_, ?_⟩
  · show n_updA (n_updA s.2 47 _ _) 47 _ _ a i = _
    rw [n_ua_ne (by omega), n_ua_ne (by omega)]
  · refine n_BC_fill (p := p) a5 hp hpz ?_ (fun j h1 h2 => ?_) ?_ hQ
    · rw [d1]; exact hop
    · rw [hc, if_neg (by omega), if_neg (by omega)]
    · rw [← g1]
      refine n_tg_put ⟨by omega, by omega⟩ ?_ ?_
      · rw [hc, if_neg (by omega), if_pos rfl]
      · rw [hc, if_pos rfl]
  · refine ⟨a6.1, fun j hj => ?_⟩
    obtain ⟨n1, q, n2, n3, n4, n5⟩ := a6.2 j hj
    refine ⟨n1, q, n2, n3, n4, ?_⟩
    rw [hc, if_neg (fun h => by rw [h] at n4; omega), if_neg (fun h => by rw [h] at n4; omega)]
    exact n5
theorem n_E_aim {p : Nat} {j : Int} (hw : w ≤ p) : n_E j v w s D H O (n_aim s ((p : Int) + 1)) D H O := by
  have hc : ∀ a j, a ≠ 47 → (n_aim s ((p : Int) + 1)).2 a j = s.2 a j := fun a j ha => by
    show n_updA (n_updA s.2 47 _ _) 47 _ _ a j = _
    rw [n_ua_ne ha, n_ua_ne ha]
  refine ⟨n_sm_old ⟨⟨rfl, rfl, rfl⟩, fun a i ha => hc a i (by omega)⟩, Int.le_refl _, fun j hj => ?_, fun _ _ => rfl, fun j _ => ⟨hc _ _ (by decide), hc _ _ (by decide), hc _ _ (by decide)⟩, fun k _ => hc _ _ (by decide)⟩
  show n_updA (n_updA s.2 47 ((p : Int) + 1).toNat _) 47 ((p : Int) + 1 + 1).toNat _ 47 j = _
  rw [n_ua_eq, n_ua_eq, if_neg (by omega), if_neg (by omega)]
theorem n_aim47 {p j : Nat} (h1 : j ≠ p + 1) (h2 : j ≠ p + 2) : (n_aim s ((p : Int) + 1)).2 47 j = s.2 47 j := by
  show n_updA (n_updA s.2 47 ((p : Int) + 1).toNat _) 47 ((p : Int) + 1 + 1).toNat _ 47 j = _
  rw [n_ua_eq, n_ua_eq, if_neg (by omega), if_neg (by omega)]
end N41
end
section
/-! THE TASK MACHINE: the kinds of lists. All begin with the list's own task taken off -/
/-- what is known of a list -/
def n_IH (P : nS → Prop) (b : nS) (r h i : Nat) (s : nS) (D H O : Nat → Int) (Q : Nat → Prop) (z : Nat) (f : Int) : Prop := n_FC P b r h ∧ n_BI b s D H O Q z ∧ s.1 29 = (i : Int) ∧ (0 ≤ f ∧ f < s.1 17) ∧ H f.toNat ≤ h + 1 ∧ 12 - s.1 33 ≤ r ∧ n_RM i (s.1 32) r (h + 1) ∧ n_SB s (s.1 31) ∧ n_KF P b s D H O Q z i
section N42
variable {Z : Nat → List Int32} {d r h : Nat} {P : nS → Prop} {b s t : nS} {D H O D' H' O' : Nat → Int} {Q Q' : Nat → Prop} {z z' w i : Nat} {f c v : Int} {xs : List Int}
theorem n_RM_1 (hm : n_RM i v r (h + 1)) : n_RM (i + 1) v r h ∧ n_RM (i + 2) v r h ∧ n_RM (i + 1) (v + 1) r h ∧ i < 290 := by
  unfold n_RM at *
  omega
/-- a cell's form, later -/
theorem n_cl {x : Int} (hF : n_FI s H O) (hc : n_ch s O c f xs) (hx : x ∈ xs) (hf : 0 ≤ f ∧ f < s.1 17) (hH : H f.toNat ≤ h + 1) (ho : n_old s H O t H' O') : (0 ≤ s.2 40 x.toNat ∧ s.2 40 x.toNat < s.1 17) ∧ s.2 40 x.toNat < t.1 17 ∧ H' (s.2 40 x.toNat).toNat ≤ h ∧ t.2 40 x.toNat = s.2 40 x.toNat ∧ t.2 41 x.toNat = s.2 41 x.toNat := by
  obtain ⟨g1, g2⟩ := n_cell1 hF (hc.2 x hx) hf.1
  have hx2 := (hc.2 x hx).1
  have h17 := ho.1
  have e := (ho.2.2.1 (s.2 40 x.toNat).toNat (by omega)).2.2
  obtain ⟨e1, e2, e3⟩ := ho.2.2.2 x.toNat (by omega)
  refine ⟨g1, by omega, ?_, e1, e2⟩
  rw [e]
  omega
theorem n_old_rf : n_old s H O s H O := n_sm_old ⟨⟨rfl, rfl, rfl⟩, fun _ _ _ => rfl⟩
/-- two forms and a step -/
theorem n_kPair {a x y op : Int} (hL : n_LO Z d b P) (hd : 6 ≤ d) (hI : n_IH P b r h i s D H O Q z f) (hc : n_ch s O c f [a, x, y]) (hop : 2 ≤ op ∧ op ≤ 6) : P (n_push (n_push (n_push s 2 op 0) 0 (s.2 40 y.toNat) 0) 0 (s.2 40 x.toNat) 0) := by
  obtain ⟨IH, hB, hi, hf, hH, hr, hm, hs, K⟩ := hI
  obtain ⟨m1, m2, m3, m4⟩ := n_RM_1 hm
  have hF := hB.2.2.1.1
  obtain ⟨x1, x2, x3, -, -⟩ := n_cl (x := x) hF hc (by simp) hf hH n_old_rf
  obtain ⟨u1, u2, u3, u4⟩ := n_pushed (s := s) (k := 2) (x := op) (y := 0) hi
  have u1' : (n_push s 2 op 0).1 29 = ((i + 1 : Nat) : Int) := by rw [u1]; omega
  obtain ⟨v1, v2, v3, v4⟩ := n_pushed (s := n_push s 2 op 0) (k := 0) (x := s.2 40 y.toNat) (y := 0) u1'
  have E0 : n_E i (s.1 32) z s D H O (n_push s 2 op 0) D H O := n_E_push (by omega) (by omega)
  have E1 : n_E ((i + 1 : Nat) : Int) (s.1 32) z (n_push s 2 op 0) D H O (n_push (n_push s 2 op 0) 0 (s.2 40 y.toNat) 0) D H O := n_E_push (by rw [u1']; exact Int.le_refl _) (by rw [u1']; omega)
  refine n_sub (i := i + 2) IH (n_BI_push (n_BI_push hB)) (by rw [v1]; omega) x1 x3 hr m2 hs ?_
  intro s' D' H' O' z' k1 k2 k3 k4 k5 k6
  obtain ⟨w1, w2, w3⟩ := k2.2.2.2.2.1 (i + 1) (by omega)
  have hE : n_E i (s.1 32) z s D H O s' D' H' O' := n_E_tr (n_E_tr E0 E1 (by omega) (Int.le_refl _) (Nat.le_refl _)) k2 (by omega) (Int.le_refl _) (Nat.le_refl _)
  obtain ⟨y1, y2, y3, -, -⟩ := n_cl (x := y) hF hc (by simp) hf hH hE.1
  have k5' : s'.1 31 = s.1 31 + 1 := k5
  have k6' : s'.1 32 = s.1 32 := k6
  refine IH s' D' H' O' Q z' (i + 1) (s.2 40 y.toNat) k1 (by rw [k4]; omega) (by rw [w1]; exact v2) (by rw [w2]; exact v3) ⟨y1.1, y2⟩ y3 (by have := hE.2.1; omega) (by rw [k6']; exact m1) (n_SB_E hs hE k6' (by omega)) ?_
  intro s2 D2 H2 O2 z2 j1 j2 j3 j4 j5 j6
  have hE2 : n_E i (s.1 32) z s D H O s2 D2 H2 O2 := n_E_tr hE j2 (by omega) (by omega) k3
  have t1 := (k2.2.2.2.2.1 i (by omega))
  have t2 := (j2.2.2.2.2.1 i (by omega))
  have t0 := (E1.2.2.2.2.1 i (by omega))
  refine n_go hL (i := i) (by rw [j4]; omega) (by omega) j1.2.1.2.2 (k := 2) (x := op) (y := 0) (by rw [t2.1, t1.1, t0.1]; exact u2) (by rw [t2.2.1, t1.2.1, t0.2.1]; exact u3) (by rw [t2.2.2, t1.2.2, t0.2.2]; exact u4) ?_
  have hB3 := n_BI_pop (x := (i : Int)) j1
  have hz := hB3.2.1.1
  have hz2 := hB3.2.1.2.1
  refine n_pf2 (d := d + 4) (by omega) ⟨by omega, by omega⟩ (Or.inl hB3.2.1.2.2) ⟨rfl, ?_⟩
  refine n_bad hL (n_bf_fd (n_bf_e hB3.1) (by decide)) ⟨by show 0 ≤ s2.1 30 + 1; have : s2.1 30 = z2 := hz; omega, by show s2.1 30 + 1 ≤ 260; have : s2.1 30 = z2 := hz; omega⟩ ⟨by show 0 ≤ (i : Int); omega, by show (i : Int) ≤ 300; omega⟩ (n_T01 _) (fun h0 => ?_)
  have hdd : s2.1 31 = s.1 31 + 2 := by rw [j5, k5']; omega
  have hd0 := hB.2.2.2.2.1.2.1
  obtain ⟨o1, o2⟩ := n_op1 (f := (i : Int)) (v := s.1 32) hB3 (Or.inr ⟨Or.inl hop, by show 2 ≤ s2.1 31; omega⟩) h0 (Nat.le_trans k3 j3)
  refine K _ _ _ _ _ o1 (n_E_tr (n_E_tr hE2 n_E_pop (Int.le_refl _) (Int.le_refl _) (Nat.le_refl _)) o2 (Int.le_refl _) (Int.le_refl _) (Nat.le_refl _)) (by omega) rfl ?_ ?_
  · show s2.1 31 + -1 = _
    omega
  · show s2.1 32 = _
    rw [j6, k6']
/-- a branch -/
theorem n_kIf {a x y g : Int} (hL : n_LO Z d b P) (hd : 6 ≤ d) (hI : n_IH P b r h i s D H O Q z f) (hk : s.2 38 f.toNat = 2) (hc : n_ch s O (s.2 39 f.toNat) f [a, x, y, g]) : P (n_push (n_push s 3 f 0) 0 (s.2 40 x.toNat) 0) := by
  obtain ⟨IH, hB, hi, hf, hH, hr, hm, hs, K⟩ := hI
  obtain ⟨m1, m2, m3, m4⟩ := n_RM_1 hm
  have hF := hB.2.2.1.1
  have hd0 := hB.2.2.2.2.1.2.1
  obtain ⟨ff, -, -, -⟩ := n_form1 hF hf
  obtain ⟨x1, x2, x3, -, -⟩ := n_cl (x := x) hF hc (by simp) hf hH n_old_rf
  obtain ⟨u1, u2, u3, u4⟩ := n_pushed (s := s) (k := 3) (x := f) (y := 0) hi
  have E0 : n_E i (s.1 32) z s D H O (n_push s 3 f 0) D H O := n_E_push (by omega) (by omega)
  refine n_sub (i := i + 1) IH (n_BI_push hB) (by rw [u1]; omega) x1 x3 hr m1 hs ?_
  intro s1 D1 H1 O1 z1 k1 k2 k3 k4 k5 k6
  obtain ⟨w1, w2, w3⟩ := k2.2.2.2.2.1 i (by omega)
  have k5 : s1.1 31 = s.1 31 + 1 := k5
  have k6 : s1.1 32 = s.1 32 := k6
  have hE : n_E i (s.1 32) z s D H O s1 D1 H1 O1 := n_E_tr E0 k2 (by omega) (Int.le_refl _) (Nat.le_refl _)
  obtain ⟨y1, y2, y3, y4, -⟩ := n_cl (x := y) hF hc (by simp) hf hH hE.1
  have e39 := (hE.1.2.2.1 f.toNat (by omega)).2.1
  have c1 := n_ch_old hc hE.1
  have hB1 := n_BI_pop (x := (i : Int)) k1
  have hz1 : s1.1 30 = (z1 : Int) := k1.2.1.1
  have hz2 := k1.2.1.2.1
  refine n_go hL (i := i) (by rw [k4]; omega) (by omega) k1.2.1.2.2 (k := 3) (x := f) (y := 0) (by rw [w1]; exact u2) (by rw [w2]; exact u3) (by rw [w3]; exact u4) ?_
  refine n_pf3 (d := d + 3) (s := (n_upd s1.1 29 i, s1.2)) (xs := [a, x, y, g]) (c := y) (by omega) ff (by show n_isch s1.2 (s1.2 39 f.toNat) _; rw [e39]; exact c1.1) rfl ⟨by show 0 ≤ (i : Int); omega, by show (i : Int) < 298; omega⟩ ⟨by show 0 ≤ s1.1 30; omega, by show s1.1 30 < 240; omega⟩ (Or.inl k1.2.1.2.2) ⟨rfl, ?_⟩
  refine n_bad hL (n_bf_push (n_bf_fd (n_bf_e (n_bf_e (n_bf_push (n_bf_e hB1.1)))) (by decide))) ⟨by show 0 ≤ s1.1 30 + 1 + 1 + 1; omega, by show s1.1 30 + 1 + 1 + 1 ≤ 260; omega⟩ ⟨by show 0 ≤ (i : Int) + 1 + 1; omega, by show (i : Int) + 1 + 1 ≤ 300; omega⟩ (n_T01 _) (fun h0 => ?_)
  have e30 : (n_upd s1.1 29 (i : Int), s1.2).1 30 + 1 = (z1 : Int) + 1 := by show s1.1 30 + 1 = _; omega
  rw [e30] at h0 ⊢
  obtain ⟨o1, o2, o3, o4, o5⟩ := n_jmp (i := i) (v := s.1 32) (w := z1) (op := 8) (k := 4) (x := f) (y := (z1 : Int) + 1) hB1 rfl (Or.inr rfl) (by show 1 ≤ s1.1 31; omega) h0 (Nat.le_refl _)
  have hEu := n_E_tr (n_E_tr hE (n_E_pop (x := (i : Int)) (i := (i : Int)) (v := s.1 32) (w := z)) (Int.le_refl _) (Int.le_refl _) (Nat.le_refl _)) o2 (Int.le_refl _) (Int.le_refl _) k3
  obtain ⟨y1, y2, y3, y4, -⟩ := n_cl (x := y) hF hc (by simp) hf hH hEu.1
  show P (n_push _ 0 (s1.2 40 y.toNat) 0)
  rw [(n_cl (x := y) hF hc (by simp) hf hH hE.1).2.2.2.1]
  have D1z : D1 z1 = s1.1 31 := k1.2.2.2.2.1.1
  refine n_sub (i := i + 1) IH o1 (by show (i : Int) + 1 = _; omega) ⟨y1.1, y2⟩ y3 (by have := hEu.2.1; omega) (by show n_RM (i + 1) (s1.1 32) r h; rw [k6]; exact m1) (n_SB_E hs hEu k6 (by show s.1 31 ≤ s1.1 31 + -1; omega)) ?_
  intro s2 D2 H2 O2 z2 j1 j2 j3 j4 j5 j6
  obtain ⟨w1, w2, w3⟩ := j2.2.2.2.2.1 i (by omega)
  have j5 : s2.1 31 = s1.1 31 + -1 + 1 := j5
  have j6 : s2.1 32 = s1.1 32 := j6
  have hE2 : n_E i (s.1 32) z s D H O s2 D2 H2 O2 := n_E_tr hEu j2 (by omega) (by rw [← k6]; exact Int.le_refl _) (by omega)
  have e39 := (hE2.1.2.2.1 f.toNat (by omega)).2.1
  have c2 := n_ch_old hc hE2.1
  have hB2 := n_BI_pop (x := (i : Int)) j1
  have hz3 : s2.1 30 = (z2 : Int) := j1.2.1.1
  have hz4 := j1.2.1.2.1
  have D2z1 : D2 z1 = s1.1 31 := by rw [j2.2.2.2.1 z1 (by omega), n_u_ne (by omega)]; exact D1z
  have c2z1 : s2.2 47 z1 = 8 := by rw [j2.2.2.1 z1 (by omega)]; exact o5
  refine n_go hL (i := i) (by rw [j4]; omega) (by omega) j1.2.1.2.2 (k := 4) (x := f) (y := (z1 : Int) + 1) (by rw [w1]; exact o3.1) (by rw [w2]; exact o3.2.1) (by rw [w3]; exact o3.2.2) ?_
  refine n_pf4 (d := d + 3) (s := (n_upd s2.1 29 i, s2.2)) (xs := [a, x, y, g]) (c := g) (by omega) ff (by show n_isch s2.2 (s2.2 39 f.toNat) _; rw [e39]; exact c2.1) rfl ⟨by show 0 ≤ (i : Int); omega, by show (i : Int) < 298; omega⟩ ⟨by show 0 ≤ s2.1 30; omega, by show s2.1 30 < 240; omega⟩ (Or.inl j1.2.1.2.2) ⟨by omega, by omega⟩ ⟨rfl, ?_⟩
  refine n_bad hL (n_bf_push (n_bf_fd (n_bf_aim (n_bf_e (n_bf_e (n_bf_push (n_bf_e hB2.1))))) (by decide))) ⟨by show 0 ≤ s2.1 30 + 1 + 1 + 1; omega, by show s2.1 30 + 1 + 1 + 1 ≤ 260; omega⟩ ⟨by show 0 ≤ (i : Int) + 1 + 1; omega, by show (i : Int) + 1 + 1 ≤ 300; omega⟩ (n_T01 _) (fun h0 => ?_)
  have e30 : (n_upd s2.1 29 (i : Int), s2.2).1 30 + 1 = (z2 : Int) + 1 := by show s2.1 30 + 1 = _; omega
  rw [e30] at h0 ⊢
  obtain ⟨p1, p2, p3, p4, p5⟩ := n_jmp (i := i) (v := s.1 32) (w := z2) (op := 7) (k := 5) (x := (z2 : Int) + 1) (y := 0) hB2 rfl (Or.inl rfl) (by show 1 ≤ s2.1 31; omega) h0 (Nat.le_refl _)
  have q1 := n_BI_aim (p := z1) (Q' := fun q => Q q ∨ q = z2 + 1) p1 (by rw [n_u_ne (by omega), D2z1]; omega) (by omega) (Or.inr ⟨by rw [p2.2.2.1 z1 (by omega)]; exact c2z1, by rw [n_u_ne (by omega), D2z1]; show s2.1 31 + -1 = _; omega⟩) (fun q hq hn => by
    rcases hq with (hq | hq) | hq
    · exact Or.inl hq
    · exact absurd hq hn
    · exact Or.inr hq)
  have hEv := n_E_tr (n_E_tr (n_E_tr hE2 (n_E_pop (x := (i : Int)) (i := (i : Int)) (v := s.1 32) (w := z)) (Int.le_refl _) (Int.le_refl _) (Nat.le_refl _)) p2 (Int.le_refl _) (Int.le_refl _) (by omega)) (n_E_aim (p := z1) (w := z) (j := (i : Int)) (v := s.1 32) k3) (Int.le_refl _) (Int.le_refl _) (Nat.le_refl _)
  obtain ⟨g1, g2, g3, -, -⟩ := n_cl (x := g) hF hc (by simp) hf hH hEv.1
  show P (n_push (n_aim (n_fd (n_e (n_e (n_push (n_e (n_upd s2.1 29 i, s2.2) 7) 5 ((z2 : Int) + 1) 0) 0) 0) 31 (-1)) ((z1 : Int) + 1)) 0 (s2.2 40 g.toNat) 0)
  rw [(n_cl (x := g) hF hc (by simp) hf hH hE2.1).2.2.2.1]
  refine n_sub (i := i + 1) IH q1 (by show (i : Int) + 1 = _; omega) ⟨g1.1, g2⟩ g3 (by have := hEv.2.1; omega) (by show n_RM (i + 1) (s2.1 32) r h; rw [j6, k6]; exact m1) (n_SB_E hs hEv (by show s2.1 32 = _; rw [j6, k6]) (by show s.1 31 ≤ s2.1 31 + -1; omega)) ?_
  intro s3 D3 H3 O3 z3 l1 l2 l3 l4 l5 l6
  have l5 : s3.1 31 = s2.1 31 + -1 + 1 := l5
  have l6 : s3.1 32 = s2.1 32 := l6
  obtain ⟨w1, w2, w3⟩ := l2.2.2.2.2.1 i (by omega)
  have hE3 : n_E i (s.1 32) z s D H O s3 D3 H3 O3 := n_E_tr hEv l2 (by omega) (by show s.1 32 ≤ s2.1 32; omega) (by omega)
  have hB3 := n_BI_pop (x := (i : Int)) l1
  have hz5 : s3.1 30 = (z3 : Int) := l1.2.1.1
  have hz6 := l1.2.1.2.1
  have D2z2 : D2 z2 = s2.1 31 := j1.2.2.2.2.1.1
  have D3z2 : D3 z2 = s2.1 31 := by rw [l2.2.2.2.1 z2 (by omega), n_u_ne (by omega)]; exact D2z2
  have c3z2 : s3.2 47 z2 = 7 := by
    rw [l2.2.2.1 z2 (by omega), n_aim47 (by omega) (by omega)]
    exact p5
  refine n_go hL (i := i) (by rw [l4]; omega) (by omega) l1.2.1.2.2 (k := 5) (x := (z2 : Int) + 1) (y := 0) (by rw [w1]; exact p3.1) (by rw [w2]; exact p3.2.1) (by rw [w3]; exact p3.2.2) ?_
  refine n_pf5 (d := d + 4) (by omega) ⟨by omega, by omega⟩ ⟨rfl, ?_⟩
  have q2 := n_BI_aim (p := z2) (Q' := Q) hB3 (by rw [D3z2]; omega) (by omega) (Or.inl ⟨c3z2, by rw [D3z2]; show s3.1 31 = _; omega⟩) (fun q hq hn => by
    rcases hq with hq | hq
    · exact hq
    · exact absurd hq hn)
  refine K _ _ _ _ _ q2 (n_E_tr (n_E_tr hE3 (n_E_pop (x := (i : Int)) (i := (i : Int)) (v := s.1 32) (w := z)) (Int.le_refl _) (Int.le_refl _) (Nat.le_refl _)) (n_E_aim (p := z2) (w := z) (j := (i : Int)) (v := s.1 32) (by omega)) (Int.le_refl _) (Int.le_refl _) (Nat.le_refl _)) (by omega) rfl ?_ ?_
  · show s3.1 31 = _
    omega
  · show s3.1 32 = _
    omega
end N42
end
section
/-! THE TASK MACHINE: names, many forms, slots, runs -/
section N43
variable {Z : Nat → List Int32} {d r h : Nat} {P : nS → Prop} {b s t : nS} {D H O D' H' O' : Nat → Int} {Q Q' : Nat → Prop} {z z' w i : Nat} {f c v : Int} {xs : List Int}
theorem n_BI_kn {x y : Int} (hB : n_BI b s D H O Q z) (hv : s.1 32 < 110) (hx : n_rng x) : n_BI b (n_kn s x y) D H O Q z := by
  obtain ⟨a0, a1, a2, a3, a4, a5, a6⟩ := hB
  have e : ∀ a i, ¬ (a = 48 ∨ a = 49) → (n_kn s x y).2 a i = s.2 a i := fun a i ha => by
    show n_updA (n_updA s.2 48 _ _) 49 _ _ a i = _
    rw [n_ua_ne (by omega), n_ua_ne (by omega)]
  refine ⟨n_bf_kn a0, a1, n_sm_GF (s := s) (t := n_kn s x y) ⟨⟨rfl, rfl, rfl⟩, fun a i ha => e a i (by omega)⟩ a2, ⟨⟨?_, ?_⟩, fun k hk => ?_⟩, a4, a5, a6⟩
  · show 0 ≤ s.1 32 + 1
    have := a3.1
    omega
  · show s.1 32 + 1 ≤ 110
    omega
  · show n_rng (n_updA s.2 48 (s.1 32).toNat x 48 k)
    have hk : (k : Int) < s.1 32 + 1 := hk
    rw [n_ua_eq]
    split
    · exact hx
    · exact a3.2 k (by have := a3.1; omega)
theorem n_E_kn {x y j : Int} (hv : v ≤ s.1 32) (h0 : 0 ≤ s.1 32) : n_E j v w s D H O (n_kn s x y) D H O := by
  have e : ∀ a i, ¬ (a = 48 ∨ a = 49) → (n_kn s x y).2 a i = s.2 a i := fun a i ha => by
    show n_updA (n_updA s.2 48 _ _) 49 _ _ a i = _
    rw [n_ua_ne (by omega), n_ua_ne (by omega)]
  refine ⟨n_sm_old ⟨⟨rfl, rfl, rfl⟩, fun a i ha => e a i (by omega)⟩, Int.le_refl _, fun j _ => e 47 j (by decide), fun _ _ => rfl, fun j _ => ⟨e _ _ (by decide), e _ _ (by decide), e _ _ (by decide)⟩, fun k hk => ?_⟩
  show n_updA s.2 49 (s.1 32).toNat y 49 k = _
  rw [n_ua_eq, if_neg (by omega)]
theorem n_BI_un (hB : n_BI b s D H O Q z) (hv : 1 ≤ s.1 32) : n_BI b (n_fd s 32 (-1)) D H O Q z := by
  obtain ⟨a0, a1, a2, a3, a4, a5, a6⟩ := hB
  refine ⟨n_bf_fd a0 (by decide), a1, n_sm_GF (s := s) (t := n_fd s 32 (-1)) ⟨⟨rfl, rfl, rfl⟩, fun _ _ _ => rfl⟩ a2, ⟨⟨?_, ?_⟩, fun k hk => ?_⟩, a4, a5, a6⟩
  · show 0 ≤ s.1 32 + -1
    omega
  · show s.1 32 + -1 ≤ 110
    have := a3.1
    omega
  · have hk : (k : Int) < s.1 32 + -1 := hk
    exact a3.2 k (by omega)
/-- a let -/
theorem n_kLet {a x y g : Int} (hL : n_LO Z d b P) (hd : 6 ≤ d) (hI : n_IH P b r h i s D H O Q z f) (hk1 : s.2 38 (s.2 40 x.toNat).toNat = 1) (hc : n_ch s O (s.2 39 f.toNat) f [a, x, y, g]) : P (n_push (n_push s 6 f 0) 0 (s.2 40 y.toNat) 0) := by
  obtain ⟨IH, hB, hi, hf, hH, hr, hm, hs, K⟩ := hI
  obtain ⟨m1, m2, m3, m4⟩ := n_RM_1 hm
  have hF := hB.2.2.1.1
  have hd0 := hB.2.2.2.2.1.2.1
  obtain ⟨ff, -, -, -⟩ := n_form1 hF hf
  obtain ⟨y1, y2, y3, -, -⟩ := n_cl (x := y) hF hc (by simp) hf hH n_old_rf
  obtain ⟨u1, u2, u3, u4⟩ := n_pushed (s := s) (k := 6) (x := f) (y := 0) hi
  have E0 : n_E i (s.1 32) z s D H O (n_push s 6 f 0) D H O := n_E_push (by omega) (by omega)
  refine n_sub (i := i + 1) IH (n_BI_push hB) (by rw [u1]; omega) y1 y3 hr m1 hs ?_
  intro s1 D1 H1 O1 z1 k1 k2 k3 k4 k5 k6
  obtain ⟨w1, w2, w3⟩ := k2.2.2.2.2.1 i (by omega)
  have k5 : s1.1 31 = s.1 31 + 1 := k5
  have k6 : s1.1 32 = s.1 32 := k6
  have hE : n_E i (s.1 32) z s D H O s1 D1 H1 O1 := n_E_tr E0 k2 (by omega) (Int.le_refl _) (Nat.le_refl _)
  obtain ⟨x1, x2, x3, x4, -⟩ := n_cl (x := x) hF hc (by simp) hf hH hE.1
  obtain ⟨g1, g2, g3, g4, -⟩ := n_cl (x := g) hF hc (by simp) hf hH hE.1
  have e39 := (hE.1.2.2.1 f.toNat (by omega)).2.1
  have c1 := n_ch_old hc hE.1
  have hB1 := n_BI_pop (x := (i : Int)) k1
  have hF1 := k1.2.2.1.1
  have hsy : n_rng (s1.2 39 (s1.2 40 x.toNat).toNat) := by
    rw [x4]
    refine (n_form1 hF1 ⟨x1.1, x2⟩).2.2.1 ?_
    rw [(hE.1.2.2.1 (s.2 40 x.toNat).toNat (by omega)).1]
    exact hk1
  have hfr := (n_form1 hF1 ⟨x1.1, x2⟩).1
  have hvm : s.1 32 < 100 := by unfold n_RM at hm; omega
  have hv0 := hB.2.2.2.1.1.1
  refine n_go hL (i := i) (by rw [k4]; omega) (by omega) k1.2.1.2.2 (k := 6) (x := f) (y := 0) (by rw [w1]; exact u2) (by rw [w2]; exact u3) (by rw [w3]; exact u4) ?_
  refine n_pf6 (d := d + 4) (s := (n_upd s1.1 29 i, s1.2)) (xs := [a, x, y, g]) (b := x) (c := g) (by omega) ff (by show n_isch s1.2 (s1.2 39 f.toNat) _; rw [e39]; exact c1.1) rfl rfl (by show 0 ≤ s1.2 40 x.toNat ∧ s1.2 40 x.toNat < 1300; rw [x4]; exact hfr) ⟨by show 0 ≤ (i : Int); omega, by show (i : Int) < 298; omega⟩ ⟨by show 0 ≤ s1.1 32; omega, by show s1.1 32 < 120; omega⟩ ⟨rfl, ?_⟩
  show P (n_push (n_push (n_kn (n_upd s1.1 29 i, s1.2) (s1.2 39 (s1.2 40 x.toNat).toNat) (s1.1 31 - 1)) 7 0 0) 0 (s1.2 40 g.toNat) 0)
  rw [g4]
  have B2 := n_BI_kn (y := s1.1 31 - 1) hB1 (by show s1.1 32 < 110; omega) hsy
  obtain ⟨q1, q2, q3, q4⟩ := n_pushed (s := n_kn (n_upd s1.1 29 i, s1.2) (s1.2 39 (s1.2 40 x.toNat).toNat) (s1.1 31 - 1)) (k := 7) (x := 0) (y := 0) (i := i) rfl
  have E1 : n_E i (s.1 32) z s D H O (n_push (n_kn (n_upd s1.1 29 i, s1.2) (s1.2 39 (s1.2 40 x.toNat).toNat) (s1.1 31 - 1)) 7 0 0) D1 H1 O1 := n_E_tr (n_E_tr (n_E_tr hE (n_E_pop (x := (i : Int)) (i := (i : Int)) (v := s.1 32) (w := z)) (Int.le_refl _) (Int.le_refl _) (Nat.le_refl _)) (n_E_kn (j := (i : Int)) (v := s.1 32) (w := z) (by show s.1 32 ≤ s1.1 32; omega) (by show 0 ≤ s1.1 32; omega)) (Int.le_refl _) (Int.le_refl _) (Nat.le_refl _)) (n_E_push (i := (i : Int)) (v := s.1 32) (w := z) (Int.le_refl _) (by show 0 ≤ (i : Int); omega)) (Int.le_refl _) (Int.le_refl _) (Nat.le_refl _)
  refine n_sub (i := i + 1) IH (n_BI_push B2) (by rw [q1]; omega) ⟨g1.1, g2⟩ g3 (by show 12 - s1.1 33 ≤ _; have := hE.2.1; omega) (by show n_RM (i + 1) (s1.1 32 + 1) r h; rw [k6]; exact m3) ?_ ?_
  · intro k hk
    have hk : (k : Int) < s1.1 32 + 1 := hk
    show 0 ≤ n_updA s1.2 49 (s1.1 32).toNat (s1.1 31 - 1) 49 k ∧ n_updA s1.2 49 (s1.1 32).toNat (s1.1 31 - 1) 49 k < s1.1 31
    rw [n_ua_eq]
    split
    · omega
    · have := hs k (by omega)
      rw [hE.2.2.2.2.2 k (by omega)]
      omega
  intro s2 D2 H2 O2 z2 j1 j2 j3 j4 j5 j6
  obtain ⟨w1, w2, w3⟩ := j2.2.2.2.2.1 i (by omega)
  have j5 : s2.1 31 = s1.1 31 + 1 := j5
  have j6 : s2.1 32 = s1.1 32 + 1 := j6
  have hE2 : n_E i (s.1 32) z s D H O s2 D2 H2 O2 := n_E_tr E1 j2 (by omega) (by show s.1 32 ≤ s1.1 32 + 1; omega) k3
  have hB2 := n_BI_pop (x := (i : Int)) j1
  have hz3 : s2.1 30 = (z2 : Int) := j1.2.1.1
  have hz4 := j1.2.1.2.1
  refine n_go hL (i := i) (by rw [j4]; omega) (by omega) j1.2.1.2.2 (k := 7) (x := 0) (y := 0) (by rw [w1]; exact q2) (by rw [w2]; exact q3) (by rw [w3]; exact q4) ?_
  refine n_pf7 (d := d + 4) (by omega) ⟨by show 0 ≤ s2.1 30; omega, by show s2.1 30 < 240; omega⟩ (Or.inl j1.2.1.2.2) ⟨rfl, ?_⟩
  refine n_bad hL (n_bf_fd (n_bf_fd (n_bf_e hB2.1) (by decide)) (by decide)) ⟨by show 0 ≤ s2.1 30 + 1; omega, by show s2.1 30 + 1 ≤ 260; omega⟩ ⟨by show 0 ≤ (i : Int); omega, by show (i : Int) ≤ 300; omega⟩ (n_T01 _) (fun h0 => ?_)
  obtain ⟨o1, o2⟩ := n_op1 (f := (i : Int)) (v := s.1 32) (w := z) hB2 (Or.inr ⟨Or.inr rfl, by show 2 ≤ s2.1 31; omega⟩) h0 (by omega)
  have E3 : n_E i (s.1 32) z s D H O (n_fd (n_fd (n_e (n_upd s2.1 29 i, s2.2) 9) 31 (-1)) 32 (-1)) (n_upd D2 (z2 + 1) (s2.1 31 - 1)) H2 O2 := n_E_tr (n_E_tr hE2 (n_E_pop (x := (i : Int)) (i := (i : Int)) (v := s.1 32) (w := z)) (Int.le_refl _) (Int.le_refl _) (Nat.le_refl _)) o2 (Int.le_refl _) (Int.le_refl _) (Nat.le_refl _)
  refine K _ _ _ _ _ (n_BI_un o1 (by show 1 ≤ s2.1 32; omega)) E3 (by omega) rfl ?_ ?_
  · show s2.1 31 + -1 = _
    omega
  · show s2.1 32 + -1 = _
    omega
/-- forms one behind the other: the rest of them -/
theorem n_many (hL : n_LO Z d b P) (hd : 6 ≤ d) (IH : n_FC P b r h) (hm : n_RM (i + 1) v r h) : ∀ (xs : List Int) (s : nS) (D H O : Nat → Int) (z : Nat) (c : Int), n_BI b s D H O Q z → s.1 29 = (i : Int) + 1 → s.2 44 i = 8 → s.2 45 i = c → n_ch s O c f xs → (0 ≤ f ∧ f < s.1 17) → H f.toNat ≤ h + 1 → 12 - s.1 33 ≤ r → s.1 32 = v → 1 ≤ s.1 31 → n_SB s (s.1 31 - 1) → (∀ (s' : nS) (D' H' O' : Nat → Int) (z' : Nat), n_BI b s' D' H' O' Q z' → n_E i (s.1 32) z s D H O s' D' H' O' → z ≤ z' → s'.1 29 = (i : Int) → s'.1 31 = s.1 31 → s'.1 32 = s.1 32 → P s') → P s
  | [], s, D, H, O, z, c, hB, hi, h44, h45, hc, hf, hH, hr, hv, h31, hs, K => by
    have hi3 : i < 290 := by unfold n_RM at hm; omega
    have hB1 := n_BI_pop (x := (i : Int)) hB
    have hz : s.1 30 = (z : Int) := hB.2.1.1
    have hz2 := hB.2.1.2.1
    refine n_go hL hi (by omega) hB.2.1.2.2 h44 h45 rfl ?_
    have hcm : c = -1 := hc.1
    refine n_pf8 (d := d + 4) (s := (n_upd s.1 29 i, s.2)) (by omega) (Or.inl hcm) ⟨by show 0 ≤ (i : Int); omega, by show (i : Int) < 298; omega⟩ ⟨by show 0 ≤ s.1 30; omega, by show s.1 30 < 240; omega⟩ (Or.inl hB.2.1.2.2) (fun _ => ⟨rfl, ?_⟩) (fun h => by omega)
    exact K _ _ _ _ _ hB1 n_E_pop (Nat.le_refl _) rfl rfl rfl
  | x :: xs, s, D, H, O, z, c, hB, hi, h44, h45, hc, hf, hH, hr, hv, h31, hs, K => by
    have hi3 : i < 290 := by unfold n_RM at hm; omega
    have hB1 := n_BI_pop (x := (i : Int)) hB
    have hz : s.1 30 = (z : Int) := hB.2.1.1
    have hz2 := hB.2.1.2.1
    have hF := hB.2.2.1.1
    have hcx : c = x := hc.1.1
    have hxb : 0 ≤ x ∧ x < 1300 := ⟨hc.1.2.1, hc.1.2.2.1⟩
    refine n_go hL hi (by omega) hB.2.1.2.2 h44 h45 rfl ?_
    refine n_pf8 (d := d + 4) (s := (n_upd s.1 29 i, s.2)) (by omega) (Or.inr (by omega)) ⟨by show 0 ≤ (i : Int); omega, by show (i : Int) < 298; omega⟩ ⟨by show 0 ≤ s.1 30; omega, by show s.1 30 < 240; omega⟩ (Or.inl hB.2.1.2.2) (fun h => by omega) (fun _ => ⟨rfl, ?_⟩)
    rw [hcx]
    refine n_bad hL (n_bf_push (n_bf_push (n_bf_fd (n_bf_e hB1.1) (by decide)))) ⟨by show 0 ≤ s.1 30 + 1; omega, by show s.1 30 + 1 ≤ 260; omega⟩ ⟨by show 0 ≤ (i : Int) + 1 + 1; omega, by show (i : Int) + 1 + 1 ≤ 300; omega⟩ (n_T01 _) (fun h0 => ?_)
    obtain ⟨o1, o2⟩ := n_op1 (f := (i : Int)) (v := s.1 32) (w := z) hB1 (Or.inl ⟨rfl, h31⟩) h0 (Nat.le_refl _)
    have E0 : n_E i (s.1 32) z s D H O (n_fd (n_e (n_upd s.1 29 i, s.2) 10) 31 (-1)) (n_upd D (z + 1) (s.1 31 - 1)) H O := n_E_tr (n_E_pop (x := (i : Int)) (i := (i : Int)) (v := s.1 32) (w := z)) o2 (Int.le_refl _) (Int.le_refl _) (Nat.le_refl _)
    have E1 : n_E i (s.1 32) z s D H O (n_push (n_fd (n_e (n_upd s.1 29 i, s.2) 10) 31 (-1)) 8 (s.2 41 x.toNat) 0) (n_upd D (z + 1) (s.1 31 - 1)) H O := n_E_tr E0 (n_E_push (i := (i : Int)) (v := s.1 32) (w := z) (Int.le_refl _) (by show 0 ≤ (i : Int); omega)) (Int.le_refl _) (Int.le_refl _) (Nat.le_refl _)
    obtain ⟨x1, x2, x3, x4, x5⟩ := n_cl (x := x) hF hc (by simp) hf hH E1.1
    obtain ⟨q1, q2, q3, q4⟩ := n_pushed (s := n_fd (n_e (n_upd s.1 29 i, s.2) 10) 31 (-1)) (k := 8) (x := s.2 41 x.toNat) (y := 0) (i := i) rfl
    refine n_sub (i := i + 1) IH (n_BI_push o1) (by rw [q1]; omega) ⟨x1.1, x2⟩ x3 hr (by show n_RM (i + 1) (s.1 32) r h; rw [hv]; exact hm) (n_SB_E hs E1 rfl (by show s.1 31 - 1 ≤ s.1 31 + -1; omega)) ?_
    intro s1 D1 H1 O1 z1 k1 k2 k3 k4 k5 k6
    obtain ⟨w1, w2, w3⟩ := k2.2.2.2.2.1 i (by omega)
    have k5 : s1.1 31 = s.1 31 + -1 + 1 := k5
    have k6 : s1.1 32 = s.1 32 := k6
    have hE : n_E i (s.1 32) z s D H O s1 D1 H1 O1 := n_E_tr E1 k2 (by omega) (Int.le_refl _) (by omega)
    have c1 := n_ch_old hc hE.1
    have e41 : s1.2 41 x.toNat = s.2 41 x.toNat := (n_cl (x := x) hF hc (by simp) hf hH hE.1).2.2.2.2
    have hc2 : n_ch s1 O1 (s.2 41 x.toNat) f xs := ⟨by rw [← e41]; exact c1.1.2.2.2, fun y hy => c1.2 y (List.mem_cons_of_mem _ hy)⟩
    have h17 := hE.1.1
    have hHf := (hE.1.2.2.1 f.toNat (by omega)).2.2
    refine n_many hL hd IH hm xs s1 D1 H1 O1 z1 (s.2 41 x.toNat) k1 (by rw [k4]; omega) (by rw [w1]; exact q2) (by rw [w2]; exact q3) hc2 ⟨hf.1, by omega⟩ (by rw [hHf]; exact hH) (by have := hE.2.1; omega) (by rw [k6]; exact hv) (by omega) (n_SB_E hs hE k6 (by omega)) ?_
    intro s2 D2 H2 O2 z2 j1 j2 j3 j4 j5 j6
    exact K s2 D2 H2 O2 z2 j1 (n_E_tr hE j2 (Int.le_refl _) (by omega) (by omega)) (by omega) j4 (by omega) (by omega)
/-- a do -/
theorem n_kDo {a x : Int} (hL : n_LO Z d b P) (hd : 6 ≤ d) (hI : n_IH P b r h i s D H O Q z f) (hc : n_ch s O c f (a :: x :: xs)) : P (n_push (n_push s 8 (s.2 41 x.toNat) 0) 0 (s.2 40 x.toNat) 0) := by
  obtain ⟨IH, hB, hi, hf, hH, hr, hm, hs, K⟩ := hI
  obtain ⟨m1, m2, m3, m4⟩ := n_RM_1 hm
  have hF := hB.2.2.1.1
  have hd0 := hB.2.2.2.2.1.2.1
  obtain ⟨x1, x2, x3, -, -⟩ := n_cl (x := x) hF hc (by simp) hf hH n_old_rf
  obtain ⟨u1, u2, u3, u4⟩ := n_pushed (s := s) (k := 8) (x := s.2 41 x.toNat) (y := 0) hi
  have E0 : n_E i (s.1 32) z s D H O (n_push s 8 (s.2 41 x.toNat) 0) D H O := n_E_push (by omega) (by omega)
  refine n_sub (i := i + 1) IH (n_BI_push hB) (by rw [u1]; omega) x1 x3 hr m1 hs ?_
  intro s1 D1 H1 O1 z1 k1 k2 k3 k4 k5 k6
  obtain ⟨w1, w2, w3⟩ := k2.2.2.2.2.1 i (by omega)
  have k5 : s1.1 31 = s.1 31 + 1 := k5
  have k6 : s1.1 32 = s.1 32 := k6
  have hE : n_E i (s.1 32) z s D H O s1 D1 H1 O1 := n_E_tr E0 k2 (by omega) (Int.le_refl _) (Nat.le_refl _)
  have c1 := n_ch_old hc hE.1
  have e41 : s1.2 41 x.toNat = s.2 41 x.toNat := (n_cl (x := x) hF hc (by simp) hf hH hE.1).2.2.2.2
  have hc2 : n_ch s1 O1 (s.2 41 x.toNat) f xs := ⟨by rw [← e41]; exact c1.1.2.2.2.2.2.2, fun y hy => c1.2 y (by simp [hy])⟩
  have h17 := hE.1.1
  have hHf := (hE.1.2.2.1 f.toNat (by omega)).2.2
  refine n_many (i := i) (v := s.1 32) hL hd IH m1 xs s1 D1 H1 O1 z1 (s.2 41 x.toNat) k1 (by rw [k4]; omega) (by rw [w1]; exact u2) (by rw [w2]; exact u3) hc2 ⟨hf.1, by omega⟩ (by rw [hHf]; exact hH) (by have := hE.2.1; omega) k6 (by omega) (n_SB_E hs hE k6 (by omega)) ?_
  intro s2 D2 H2 O2 z2 j1 j2 j3 j4 j5 j6
  exact K s2 D2 H2 O2 z2 j1 (n_E_tr hE j2 (Int.le_refl _) (by omega) (by omega)) (by omega) j4 (by omega) (by omega)
end N43
end
section
/-! THE TASK MACHINE: slots, runs, calls -/
section N44
variable {Z : Nat → List Int32} {d r h : Nat} {P : nS → Prop} {b s t : nS} {D H O D' H' O' : Nat → Int} {Q Q' : Nat → Prop} {z z' w i : Nat} {f c v : Int} {xs : List Int}
/-- a set -/
theorem n_kSet {a x y : Int} (hL : n_LO Z d b P) (hd : 6 ≤ d) (hI : n_IH P b r h i s D H O Q z f) (hc : n_ch s O c f [a, x, y]) : P (n_push (n_push s 9 (s.2 40 x.toNat) 0) 0 (s.2 40 y.toNat) 0) := by
  obtain ⟨IH, hB, hi, hf, hH, hr, hm, hs, K⟩ := hI
  obtain ⟨m1, m2, m3, m4⟩ := n_RM_1 hm
  have hF := hB.2.2.1.1
  have hd0 := hB.2.2.2.2.1.2.1
  obtain ⟨y1, y2, y3, -, -⟩ := n_cl (x := y) hF hc (by simp) hf hH n_old_rf
  obtain ⟨u1, u2, u3, u4⟩ := n_pushed (s := s) (k := 9) (x := s.2 40 x.toNat) (y := 0) hi
  have E0 : n_E i (s.1 32) z s D H O (n_push s 9 (s.2 40 x.toNat) 0) D H O := n_E_push (by omega) (by omega)
  refine n_sub (i := i + 1) IH (n_BI_push hB) (by rw [u1]; omega) y1 y3 hr m1 hs ?_
  intro s1 D1 H1 O1 z1 k1 k2 k3 k4 k5 k6
  obtain ⟨w1, w2, w3⟩ := k2.2.2.2.2.1 i (by omega)
  have k5 : s1.1 31 = s.1 31 + 1 := k5
  have k6 : s1.1 32 = s.1 32 := k6
  have hE : n_E i (s.1 32) z s D H O s1 D1 H1 O1 := n_E_tr E0 k2 (by omega) (Int.le_refl _) (Nat.le_refl _)
  obtain ⟨x1, x2, x3, x4, -⟩ := n_cl (x := x) hF hc (by simp) hf hH hE.1
  have hB1 := n_BI_pop (x := (i : Int)) k1
  have hF1 := k1.2.2.1.1
  obtain ⟨f1, f2, f3, -⟩ := n_form1 hF1 ⟨x1.1, x2⟩
  have hN := k1.2.2.2.1
  have hN1 := hN.1
  refine n_go hL (i := i) (by rw [k4]; omega) (by omega) k1.2.1.2.2 (k := 9) (x := s.2 40 x.toNat) (y := 0) (by rw [w1]; exact u2) (by rw [w2]; exact u3) (by rw [w3]; exact u4) ?_
  obtain ⟨a0, ⟨g1, g2, g3⟩, a2, a3, ⟨d1, d2, d3⟩, a5, a6⟩ := hB1
  have g1 : s1.1 30 = (z1 : Int) := g1
  refine n_pf9 (d := d + 4) (s := (n_upd s1.1 29 i, s1.2)) (by omega) f1 f2 f3 hN.2 ⟨hN1.1, by show s1.1 32 ≤ 120; omega⟩ ⟨by show 0 ≤ s1.1 30; omega, by show s1.1 30 < 240; omega⟩ (Or.inl k1.2.1.2.2) ⟨rfl, ?_⟩
  generalize hsl : (if n_slotK (n_upd s1.1 29 (i : Int), s1.2) (s.2 40 x.toNat) < 0 then 0 else (n_upd s1.1 29 (i : Int), s1.2).2 49 (n_slotK (n_upd s1.1 29 (i : Int), s1.2) (s.2 40 x.toNat)).toNat) = sl
  refine n_bad hL (n_bf_e (n_bf_28 (n_bf_e a0))) ⟨by show 0 ≤ s1.1 30 + 1 + 1; omega, by show s1.1 30 + 1 + 1 ≤ 260; omega⟩ ⟨by show 0 ≤ (i : Int); omega, by show (i : Int) ≤ 300; omega⟩ (n_T01 _) (fun h0 => ?_)
  have h01 := n_e28_0 (s := n_slotS (n_e (n_upd s1.1 29 (i : Int), s1.2) 11) (s.2 40 x.toNat)) (x := sl) h0
  have hz : s1.1 30 + 1 + 1 ≤ 200 := h01.2
  have h02 := n_T00 h01.1
  have hk0 : 0 ≤ n_slotK s1 (s.2 40 x.toNat) := by
    have : ¬ n_slotK s1 (s.2 40 x.toNat) < 0 := fun h => h02 (Or.inr h)
    omega
  have hkb := n_lat_b (fun i => decide (s1.2 38 (s.2 40 x.toNat).toNat = 1 ∧ s1.2 48 i = s1.2 39 (s.2 40 x.toNat).toNat)) (s1.1 32).toNat
  have hkb : n_slotK s1 (s.2 40 x.toNat) < ((s1.1 32).toNat : Nat) := hkb.2
  have hsl : (if n_slotK s1 (s.2 40 x.toNat) < 0 then 0 else s1.2 49 (n_slotK s1 (s.2 40 x.toNat)).toNat) = sl := hsl
  rw [if_neg (by omega)] at hsl
  have hsb := n_SB_E (e' := s.1 31) hs hE k6 (Int.le_refl _) (n_slotK s1 (s.2 40 x.toNat)).toNat (by omega)
  rw [hsl] at hsb
  have e1 : (n_slotS (n_e (n_upd s1.1 29 (i : Int), s1.2) 11) (s.2 40 x.toNat)).1 30 = ((z1 + 1 : Nat) : Int) := by show s1.1 30 + 1 = _; omega
  have hcc : ∀ j, (n_e (n_slotS (n_e (n_upd s1.1 29 (i : Int), s1.2) 11) (s.2 40 x.toNat)) sl).2 47 j = if j = z1 + 1 then n_by sl else if j = z1 then n_by 11 else s1.2 47 j := fun j => by
    rw [n_e47 e1]
    show (if j = z1 + 1 then n_by sl else (n_e (n_upd s1.1 29 (i : Int), s1.2) 11).2 47 j) = _
    rw [n_e47 (s := (n_upd s1.1 29 (i : Int), s1.2)) (z := z1) g1]
  have q1 : ∀ k, ¬ (28 ≤ k ∧ k ≤ 31) → (n_e (n_slotS (n_e (n_upd s1.1 29 (i : Int), s1.2) 11) (s.2 40 x.toNat)) sl).1 k = (n_upd s1.1 29 (i : Int), s1.2).1 k := fun k hk => by
    show n_upd (n_upd (n_upd (n_upd (n_upd (n_upd s1.1 29 _) 30 _) 28 _) 28 _) 30 _) 28 _ k = n_upd s1.1 29 _ k
    rw [n_u_ne (by omega), n_u_ne (by omega), n_u_ne (by omega), n_u_ne (by omega), n_u_ne (by omega)]
  have q2 : ∀ a i', ¬ (44 ≤ a ∧ a ≤ 47) → (n_e (n_slotS (n_e (n_upd s1.1 29 (i : Int), s1.2) 11) (s.2 40 x.toNat)) sl).2 a i' = (n_upd s1.1 29 (i : Int), s1.2).2 a i' := fun a i' ha => by
    show n_updA (n_updA s1.2 47 _ _) 47 _ _ a i' = _
    rw [n_ua_ne (by omega), n_ua_ne (by omega)]
  have hz1 := a5.2.1
  have hcb : ∀ j, j < z1 → (n_e (n_slotS (n_e (n_upd s1.1 29 (i : Int), s1.2) 11) (s.2 40 x.toNat)) sl).2 47 j = (n_upd s1.1 29 (i : Int), s1.2).2 47 j := fun j hj => by
    rw [hcc, if_neg (by omega), if_neg (by omega)]
  have d1 : D1 z1 = s1.1 31 := d1
  have d3 : 2 * s1.1 31 ≤ 8 + s1.1 30 := d3
  have hBI := n_BI_app (w := 2) (e := s1.1 31) (Q' := Q) ⟨a0, ⟨g1, g2, g3⟩, a2, a3, ⟨d1, d2, d3⟩, a5, a6⟩ (n_bf_e (n_bf_28 (n_bf_e a0))) (by decide) (t := n_e (n_slotS (n_e (n_upd s1.1 29 (i : Int), s1.2) 11) (s.2 40 x.toNat)) sl) (by show s1.1 30 + 1 + 1 = _; omega) (by omega) h0 rfl d2 (by omega) q1 q2 hcb (fun _ h => h) (Or.inr (Or.inr (Or.inr (Or.inr (Or.inr (Or.inr (Or.inr (Or.inl ⟨by rw [hcc, if_neg (by omega), if_pos rfl]; decide, by omega, by rw [n_u_eq, n_u_ne (by omega), d1], by rw [n_u_ne (by omega)]; exact hz1 _ (by omega), by rw [n_u_ne (by omega), d1]; omega, by rw [hcc, if_pos rfl, n_u_ne (by omega), d1, n_by_small ⟨hsb.1, by omega⟩]; omega⟩))))))))
  exact K _ _ _ _ _ hBI (n_E_tr (n_E_tr hE (n_E_pop (x := (i : Int)) (i := (i : Int)) (v := s.1 32) (w := z)) (Int.le_refl _) (Int.le_refl _) (Nat.le_refl _)) (n_E_app q1 q2 hcb (by decide) (Nat.le_refl _) (fun _ _ => ⟨rfl, rfl, rfl⟩)) (Int.le_refl _) (Int.le_refl _) k3) (by omega) rfl k5 k6
/-- three bytes: a jump to a known place, or a number; as deep as said -/
theorem n_app3 {op x y e : Int} {k : Int} (hB : n_BI b s D H O Q z) (hz : s.1 30 + 1 + 1 + 1 ≤ 200) (h0 : (n_fd (n_e (n_e (n_e s op) x) y) 31 k).1 28 = 0) (hop : n_by op = op) (hk : s.1 31 + k = e) (he : 0 ≤ e) (he2 : e ≤ s.1 31 + 1) (hcv : (op = 0 ∧ e = s.1 31 + 1) ∨ (op = 7 ∧ e = s.1 31 ∧ ∃ q : Nat, q ≤ z ∧ D q = s.1 31 ∧ x = n_shr (q : Int) 8 ∧ y = (q : Int))) : n_BI b (n_fd (n_e (n_e (n_e s op) x) y) 31 k) (n_upd D (z + 3) e) H O Q (z + 3) ∧ (∀ (j v : Int) (w : Nat), w ≤ z → n_E j v w s D H O (n_fd (n_e (n_e (n_e s op) x) y) 31 k) (n_upd D (z + 3) e) H O) := by
  obtain ⟨a0, ⟨g1, g2, g3⟩, a2, a3, ⟨d1, d2, d3⟩, a5, a6⟩ := hB
  have e1 := n_e30 (s := s) (x := op) g1
  have e2 := n_e30 (s := n_e s op) (x := x) e1
  have hc : ∀ j, (n_fd (n_e (n_e (n_e s op) x) y) 31 k).2 47 j = if j = z + 1 + 1 then n_by y else if j = z + 1 then n_by x else if j = z then n_by op else s.2 47 j := fun j => by
    show (n_e (n_e (n_e s op) x) y).2 47 j = _
    rw [n_e47 e2, n_e47 e1, n_e47 g1]
  have q1 : ∀ q, ¬ (28 ≤ q ∧ q ≤ 31) → (n_fd (n_e (n_e (n_e s op) x) y) 31 k).1 q = s.1 q := fun q hk => by
    show n_upd (n_upd (n_upd (n_upd (n_upd (n_upd (n_upd s.1 30 _) 28 _) 30 _) 28 _) 30 _) 28 _) 31 _ q = _
    rw [n_u_ne (by omega), n_u_ne (by omega), n_u_ne (by omega), n_u_ne (by omega), n_u_ne (by omega), n_u_ne (by omega), n_u_ne (by omega)]
  have q2 : ∀ a i, ¬ (44 ≤ a ∧ a ≤ 47) → (n_fd (n_e (n_e (n_e s op) x) y) 31 k).2 a i = s.2 a i := fun a i ha => by
    show n_updA (n_updA (n_updA s.2 47 _ _) 47 _ _) 47 _ _ a i = _
    rw [n_ua_ne (by omega), n_ua_ne (by omega), n_ua_ne (by omega)]
  have hz1 := a5.2.1
  have hcb : ∀ j, j < z → (n_fd (n_e (n_e (n_e s op) x) y) 31 k).2 47 j = s.2 47 j := fun j hj => by
    rw [hc, if_neg (by omega), if_neg (by omega), if_neg (by omega)]
  have hcz : (n_fd (n_e (n_e (n_e s op) x) y) 31 k).2 47 z = op := by rw [hc, if_neg (by omega), if_neg (by omega), if_pos rfl, hop]
  refine ⟨n_BI_app (w := 3) (e := e) ⟨a0, ⟨g1, g2, g3⟩, a2, a3, ⟨d1, d2, d3⟩, a5, a6⟩ (n_bf_fd (n_bf_e (n_bf_e (n_bf_e a0))) (by decide)) (by decide) (by show s.1 30 + 1 + 1 + 1 = _; omega) (by omega) h0 hk he (by omega) q1 q2 hcb (fun _ h => h) ?_, fun j v w hw => n_E_app q1 q2 hcb (by decide) hw (fun _ _ => ⟨rfl, rfl, rfl⟩)⟩
  rcases hcv with ⟨o1, o2⟩ | ⟨o1, o2, q, o3, o4, o5, o6⟩
  · left
    rw [hcz, n_u_eq, n_u_ne (show z ≠ z + 3 by omega), n_u_ne (show z + 1 ≠ z + 3 by omega), n_u_ne (show z + 2 ≠ z + 3 by omega), d1]
    exact ⟨o1, by omega, o2, hz1 _ (by omega), hz1 _ (by omega)⟩
  · right; right; right; left
    have htg : n_tg ((n_fd (n_e (n_e (n_e s op) x) y) 31 k).2 47) (z + 1) = (q : Int) := n_tg_put ⟨by omega, by omega⟩ (by rw [hc, if_neg (by omega), if_pos rfl, o5]) (by rw [hc, if_pos rfl, o6])
    rw [hcz, n_u_eq, n_u_ne (show z ≠ z + 3 by omega), n_u_ne (show z + 1 ≠ z + 3 by omega), n_u_ne (show z + 2 ≠ z + 3 by omega), d1, htg, Int.toNat_natCast, n_u_ne (by omega), o4]
    exact ⟨o1, by omega, he, hz1 _ (by omega), hz1 _ (by omega), Or.inr ⟨⟨by omega, by omega⟩, rfl⟩⟩
/-- a run -/
theorem n_kRun {a x y : Int} (hL : n_LO Z d b P) (hd : 6 ≤ d) (hI : n_IH P b r h i s D H O Q z f) (hc : n_ch s O (s.2 39 f.toNat) f [a, x, y]) : P (n_push (n_push s 10 f (s.1 30)) 0 (s.2 40 x.toNat) 0) := by
  obtain ⟨IH, hB, hi, hf, hH, hr, hm, hs, K⟩ := hI
  obtain ⟨m1, m2, m3, m4⟩ := n_RM_1 hm
  have hF := hB.2.2.1.1
  have hd0 := hB.2.2.2.2.1.2.1
  have Dz : D z = s.1 31 := hB.2.2.2.2.1.1
  have h30 : s.1 30 = (z : Int) := hB.2.1.1
  obtain ⟨ff, -, -, -⟩ := n_form1 hF hf
  obtain ⟨x1, x2, x3, -, -⟩ := n_cl (x := x) hF hc (by simp) hf hH n_old_rf
  obtain ⟨u1, u2, u3, u4⟩ := n_pushed (s := s) (k := 10) (x := f) (y := s.1 30) hi
  have E0 : n_E i (s.1 32) z s D H O (n_push s 10 f (s.1 30)) D H O := n_E_push (by omega) (by omega)
  refine n_sub (i := i + 1) IH (n_BI_push hB) (by rw [u1]; omega) x1 x3 hr m1 hs ?_
  intro s1 D1 H1 O1 z1 k1 k2 k3 k4 k5 k6
  obtain ⟨w1, w2, w3⟩ := k2.2.2.2.2.1 i (by omega)
  have k5 : s1.1 31 = s.1 31 + 1 := k5
  have k6 : s1.1 32 = s.1 32 := k6
  have hE : n_E i (s.1 32) z s D H O s1 D1 H1 O1 := n_E_tr E0 k2 (by omega) (Int.le_refl _) (Nat.le_refl _)
  have e39 := (hE.1.2.2.1 f.toNat (by omega)).2.1
  have c1 := n_ch_old hc hE.1
  have hB1 := n_BI_pop (x := (i : Int)) k1
  have hz1 : s1.1 30 = (z1 : Int) := k1.2.1.1
  have hz2 := k1.2.1.2.1
  refine n_go hL (i := i) (by rw [k4]; omega) (by omega) k1.2.1.2.2 (k := 10) (x := f) (y := (z : Int)) (by rw [w1]; exact u2) (by rw [w2]; exact u3) (by rw [w3, ← h30]; exact u4) ?_
  refine n_pf10 (d := d + 3) (s := (n_upd s1.1 29 i, s1.2)) (xs := [a, x, y]) (c := y) (by omega) ff (by show n_isch s1.2 (s1.2 39 f.toNat) _; rw [e39]; exact c1.1) rfl ⟨by show 0 ≤ (i : Int); omega, by show (i : Int) < 298; omega⟩ ⟨by show 0 ≤ s1.1 30; omega, by show s1.1 30 < 240; omega⟩ (Or.inl k1.2.1.2.2) ⟨rfl, ?_⟩
  refine n_bad hL (n_bf_push (n_bf_fd (n_bf_e (n_bf_e (n_bf_push (n_bf_e hB1.1)))) (by decide))) ⟨by show 0 ≤ s1.1 30 + 1 + 1 + 1; omega, by show s1.1 30 + 1 + 1 + 1 ≤ 260; omega⟩ ⟨by show 0 ≤ (i : Int) + 1 + 1; omega, by show (i : Int) + 1 + 1 ≤ 300; omega⟩ (n_T01 _) (fun h0 => ?_)
  have e30 : (n_upd s1.1 29 (i : Int), s1.2).1 30 + 1 = (z1 : Int) + 1 := by show s1.1 30 + 1 = _; omega
  rw [e30] at h0 ⊢
  obtain ⟨o1, o2, o3, o4, o5⟩ := n_jmp (i := i) (v := s.1 32) (w := z1) (op := 8) (k := 11) (x := (z1 : Int) + 1) (y := (z : Int)) hB1 rfl (Or.inr rfl) (by show 1 ≤ s1.1 31; omega) h0 (Nat.le_refl _)
  have hEu := n_E_tr (n_E_tr hE (n_E_pop (x := (i : Int)) (i := (i : Int)) (v := s.1 32) (w := z)) (Int.le_refl _) (Int.le_refl _) (Nat.le_refl _)) o2 (Int.le_refl _) (Int.le_refl _) k3
  obtain ⟨y1, y2, y3, y4, -⟩ := n_cl (x := y) hF hc (by simp) hf hH hEu.1
  show P (n_push _ 0 (s1.2 40 y.toNat) 0)
  rw [(n_cl (x := y) hF hc (by simp) hf hH hE.1).2.2.2.1]
  have D1z : D1 z1 = s1.1 31 := k1.2.2.2.2.1.1
  refine n_sub (i := i + 1) IH o1 (by show (i : Int) + 1 = _; omega) ⟨y1.1, y2⟩ y3 (by have := hEu.2.1; omega) (by show n_RM (i + 1) (s1.1 32) r h; rw [k6]; exact m1) (n_SB_E hs hEu k6 (by show s.1 31 ≤ s1.1 31 + -1; omega)) ?_
  intro s2 D2 H2 O2 z2 j1 j2 j3 j4 j5 j6
  obtain ⟨w1, w2, w3⟩ := j2.2.2.2.2.1 i (by omega)
  have j5 : s2.1 31 = s1.1 31 + -1 + 1 := j5
  have j6 : s2.1 32 = s1.1 32 := j6
  have hE2 : n_E i (s.1 32) z s D H O s2 D2 H2 O2 := n_E_tr hEu j2 (by omega) (by rw [← k6]; exact Int.le_refl _) (by omega)
  have hB2 := n_BI_pop (x := (i : Int)) j1
  have hz3 : s2.1 30 = (z2 : Int) := j1.2.1.1
  have hz4 := j1.2.1.2.1
  have D2z1 : D2 z1 = s1.1 31 := by rw [j2.2.2.2.1 z1 (by omega), n_u_ne (by omega)]; exact D1z
  have D2z : D2 z = s.1 31 := by rw [hE2.2.2.2.1 z (Nat.le_refl _)]; exact Dz
  have c2z1 : s2.2 47 z1 = 8 := by rw [j2.2.2.1 z1 (by omega)]; exact o5
  refine n_go hL (i := i) (by rw [j4]; omega) (by omega) j1.2.1.2.2 (k := 11) (x := (z1 : Int) + 1) (y := (z : Int)) (by rw [w1]; exact o3.1) (by rw [w2]; exact o3.2.1) (by rw [w3]; exact o3.2.2) ?_
  refine n_pf11 (d := d + 3) (s := (n_upd s2.1 29 i, s2.2)) (by omega) ⟨by omega, by omega⟩ ⟨by show 0 ≤ s2.1 30; omega, by show s2.1 30 < 240; omega⟩ (Or.inl j1.2.1.2.2) ⟨rfl, ?_⟩
  refine n_bad hL (n_bf_e (n_bf_e (n_bf_e (n_bf_aim (n_bf_e (n_bf_e (n_bf_e (n_bf_e hB2.1)))))))) ⟨by show 0 ≤ s2.1 30 + 1 + 1 + 1 + 1 + 1 + 1 + 1; omega, by show s2.1 30 + 1 + 1 + 1 + 1 + 1 + 1 + 1 ≤ 260; omega⟩ ⟨by show 0 ≤ (i : Int); omega, by show (i : Int) ≤ 300; omega⟩ (n_T01 _) (fun h0 => ?_)
  generalize hS : (n_upd s2.1 29 (i : Int), s2.2) = S at h0 hB2 ⊢
  have S30 : S.1 30 = (z2 : Int) := by rw [← hS]; exact hz3
  have S31 : S.1 31 = s.1 31 + 1 := by rw [← hS]; show s2.1 31 = _; omega
  have S32 : S.1 32 = s.1 32 := by rw [← hS]; show s2.1 32 = _; omega
  have S29 : S.1 29 = (i : Int) := by rw [← hS]; rfl
  have SE : n_E i (s.1 32) z s D H O S D2 H2 O2 := by rw [← hS]; exact n_E_tr hE2 (n_E_pop (x := (i : Int)) (i := (i : Int)) (v := s.1 32) (w := z)) (Int.le_refl _) (Int.le_refl _) (Nat.le_refl _)
  have Sc : S.2 47 z1 = 8 := by rw [← hS]; exact c2z1
  have b7 := n_e28_0 h0
  have b6 := n_e28_0 b7.1
  have b5 := n_e28_0 b6.1
  have b4 := n_e28_0 (s := n_e (n_e (n_e S 10) 7) (n_shr (z : Int) 8)) (x := (z : Int)) b5.1
  have b3 := n_e28_0 b4.1
  have b2 := n_e28_0 b3.1
  have hz7 : S.1 30 + 1 + 1 + 1 + 1 + 1 + 1 + 1 ≤ 200 := b7.2
  obtain ⟨t1, t2⟩ := n_op1 (f := (i : Int)) (v := s.1 32) (w := z2) hB2 (Or.inl ⟨rfl, by omega⟩) (op := 10) b2.1 (Nat.le_refl _)
  have V1 : (n_fd (n_e S 10) 31 (-1)).1 31 = s.1 31 := by show S.1 31 + -1 = _; omega
  obtain ⟨t3, t4⟩ := n_app3 (op := 7) (x := n_shr (z : Int) 8) (y := (z : Int)) (e := s.1 31) (k := 0) t1 (by show S.1 30 + 1 + 1 + 1 + 1 ≤ 200; omega) b5.1 (by decide) (by rw [V1]; omega) hd0 (by rw [V1]; omega) (Or.inr ⟨rfl, by rw [V1], z, by omega, by rw [n_u_ne (by omega), V1]; exact D2z, rfl, rfl⟩)
  have t5 := n_BI_aim (p := z1) (Q' := Q) t3 (by rw [n_u_ne (by omega), n_u_ne (by omega), D2z1]; omega) (by omega) (Or.inr ⟨by rw [(t4 0 0 (z2 + 1) (Nat.le_refl _)).2.2.1 z1 (by omega), t2.2.2.1 z1 (by omega)]; exact Sc, by rw [n_u_ne (by omega), n_u_ne (by omega), D2z1]; show S.1 31 + -1 + 0 = _; omega⟩) (fun q hq hn => by
    rcases hq with hq | hq
    · exact hq
    · exact absurd hq hn)
  have V3 : (n_aim (n_fd (n_e (n_e (n_e (n_fd (n_e S 10) 31 (-1)) 7) (n_shr (z : Int) 8)) (z : Int)) 31 0) ((z1 : Int) + 1)).1 31 = s.1 31 := by show S.1 31 + -1 + 0 = _; omega
  obtain ⟨t6, t7⟩ := n_app3 (op := 0) (x := 0) (y := 0) (e := s.1 31 + 1) (k := 1) t5 (by show S.1 30 + 1 + 1 + 1 + 1 + 1 + 1 + 1 ≤ 200; omega) h0 (by decide) (by rw [V3]) (by omega) (by rw [V3]; omega) (Or.inl ⟨rfl, by rw [V3]⟩)
  have hR : n_e (n_e (n_e (n_aim (n_e (n_e (n_e (n_e S 10) 7) (n_shr (z : Int) 8)) (z : Int)) ((z1 : Int) + 1)) 0) 0) 0 = n_fd (n_e (n_e (n_e (n_aim (n_fd (n_e (n_e (n_e (n_fd (n_e S 10) 31 (-1)) 7) (n_shr (z : Int) 8)) (z : Int)) 31 0) ((z1 : Int) + 1)) 0) 0) 0) 31 1 := by
    refine Prod.ext (funext fun k => ?_) rfl
    by_cases hk : k = 31
    · subst hk
      show S.1 31 = S.1 31 + -1 + 0 + 1
      omega
    · simp [n_e, n_fd, n_aim, n_upd, hk]
  rw [hR]
  refine K _ _ _ _ _ t6 (n_E_tr (n_E_tr (n_E_tr (n_E_tr SE t2 (Int.le_refl _) (Int.le_refl _) (by omega)) (t4 (i : Int) (s.1 32) z (by omega)) (Int.le_refl _) (Int.le_refl _) (Nat.le_refl _)) (n_E_aim (p := z1) (w := z) (j := (i : Int)) (v := s.1 32) k3) (Int.le_refl _) (Int.le_refl _) (Nat.le_refl _)) (t7 (i : Int) (s.1 32) z (by omega)) (Int.le_refl _) (Int.le_refl _) (Nat.le_refl _)) (by omega) S29 ?_ S32
  show S.1 31 + -1 + 0 + 1 = _
  omega
end N44
end
section
/-! THE TASK MACHINE: calls, macros; a form; a body -/
section N45
variable {Z : Nat → List Int32} {d r h : Nat} {P : nS → Prop} {b s t : nS} {D H O D' H' O' : Nat → Int} {Q Q' : Nat → Prop} {z z' w i j : Nat} {f c v : Int} {xs : List Int}
/-- a call's forms: the rest of them -/
theorem n_rest (hL : n_LO Z d b P) (hd : 6 ≤ d) (IH : n_FC P b r h) (hm : n_RM (j + 1) v r h) : ∀ (xs : List Int) (s : nS) (D H O : Nat → Int) (z : Nat) (c : Int), n_BI b s D H O Q z → s.1 29 = (j : Int) + 1 → s.2 44 j = 1 → s.2 45 j = c → n_ch s O c f xs → (0 ≤ f ∧ f < s.1 17) → H f.toNat ≤ h + 1 → 12 - s.1 33 ≤ r → s.1 32 = v → n_SB s (s.1 31) → (∀ (s' : nS) (D' H' O' : Nat → Int) (z' : Nat), n_BI b s' D' H' O' Q z' → n_E j (s.1 32) z s D H O s' D' H' O' → z ≤ z' → s'.1 29 = (j : Int) → s'.1 31 = s.1 31 + xs.length → s'.1 32 = s.1 32 → P s') → P s
  | [], s, D, H, O, z, c, hB, hi, h44, h45, hc, hf, hH, hr, hv, hs, K => by
    have hi3 : j < 290 := by unfold n_RM at hm; omega
    have hB1 := n_BI_pop (x := (j : Int)) hB
    refine n_go hL hi (by omega) hB.2.1.2.2 h44 h45 rfl ?_
    have hcm : c = -1 := hc.1
    refine n_pf1 (d := d + 4) (s := (n_upd s.1 29 j, s.2)) (by omega) (Or.inl hcm) ⟨by show 0 ≤ (j : Int); omega, by show (j : Int) < 298; omega⟩ (fun _ => ⟨rfl, ?_⟩) (fun h => by omega)
    exact K _ _ _ _ _ hB1 n_E_pop (Nat.le_refl _) rfl (by show s.1 31 = s.1 31 + ((0 : Nat) : Int); omega) rfl
  | x :: xs, s, D, H, O, z, c, hB, hi, h44, h45, hc, hf, hH, hr, hv, hs, K => by
    have hi3 : j < 290 := by unfold n_RM at hm; omega
    have hB1 := n_BI_pop (x := (j : Int)) hB
    have hF := hB.2.2.1.1
    have hcx : c = x := hc.1.1
    have hxb : 0 ≤ x ∧ x < 1300 := ⟨hc.1.2.1, hc.1.2.2.1⟩
    refine n_go hL hi (by omega) hB.2.1.2.2 h44 h45 rfl ?_
    refine n_pf1 (d := d + 4) (s := (n_upd s.1 29 j, s.2)) (by omega) (Or.inr (by omega)) ⟨by show 0 ≤ (j : Int); omega, by show (j : Int) < 298; omega⟩ (fun h => by omega) (fun _ => ⟨rfl, ?_⟩)
    rw [hcx]
    have E1 : n_E j (s.1 32) z s D H O (n_push (n_upd s.1 29 j, s.2) 1 (s.2 41 x.toNat) 0) D H O := n_E_tr (n_E_pop (x := (j : Int)) (i := (j : Int)) (v := s.1 32) (w := z)) (n_E_push (i := (j : Int)) (v := s.1 32) (w := z) (Int.le_refl _) (by show 0 ≤ (j : Int); omega)) (Int.le_refl _) (Int.le_refl _) (Nat.le_refl _)
    obtain ⟨x1, x2, x3, x4, x5⟩ := n_cl (x := x) hF hc (by simp) hf hH E1.1
    obtain ⟨q1, q2, q3, q4⟩ := n_pushed (s := (n_upd s.1 29 (j : Int), s.2)) (k := 1) (x := s.2 41 x.toNat) (y := 0) (i := j) rfl
    refine n_sub (i := j + 1) IH (n_BI_push hB1) (by rw [q1]; omega) ⟨x1.1, x2⟩ x3 hr (by show n_RM (j + 1) (s.1 32) r h; rw [hv]; exact hm) hs ?_
    intro s1 D1 H1 O1 z1 k1 k2 k3 k4 k5 k6
    obtain ⟨w1, w2, w3⟩ := k2.2.2.2.2.1 j (by omega)
    have k5 : s1.1 31 = s.1 31 + 1 := k5
    have k6 : s1.1 32 = s.1 32 := k6
    have hE : n_E j (s.1 32) z s D H O s1 D1 H1 O1 := n_E_tr E1 k2 (by omega) (Int.le_refl _) (Nat.le_refl _)
    have c1 := n_ch_old hc hE.1
    have e41 : s1.2 41 x.toNat = s.2 41 x.toNat := (n_cl (x := x) hF hc (by simp) hf hH hE.1).2.2.2.2
    have hc2 : n_ch s1 O1 (s.2 41 x.toNat) f xs := ⟨by rw [← e41]; exact c1.1.2.2.2, fun y hy => c1.2 y (List.mem_cons_of_mem _ hy)⟩
    have h17 := hE.1.1
    have hHf := (hE.1.2.2.1 f.toNat (by omega)).2.2
    refine n_rest hL hd IH hm xs s1 D1 H1 O1 z1 (s.2 41 x.toNat) k1 (by rw [k4]; omega) (by rw [w1]; exact q2) (by rw [w2]; exact q3) hc2 ⟨hf.1, by omega⟩ (by rw [hHf]; exact hH) (by have := hE.2.1; omega) (by rw [k6]; exact hv) (n_SB_E hs hE k6 (by omega)) ?_
    intro s2 D2 H2 O2 z2 j1 j2 j3 j4 j5 j6
    refine K s2 D2 H2 O2 z2 j1 (n_E_tr hE j2 (Int.le_refl _) (by omega) (by omega)) (by omega) j4 ?_ (by omega)
    rw [j5, k5, List.length_cons]
    omega
/-- a call's own step -/
theorem n_mk4 {x : Int} {y : Nat} (hB : n_BI b s D H O Q z) (hx : n_rng x) (hy : (y : Int) ≤ s.1 31) (h0 : (n_fd (n_e (n_e (n_e (n_mark (n_e s 12) x) 0) 0) y) 31 (1 - (y : Int))).1 28 = 0) (hw : w ≤ z) : n_BI b (n_fd (n_e (n_e (n_e (n_mark (n_e s 12) x) 0) 0) y) 31 (1 - (y : Int))) (n_upd D (z + 4) (s.1 31 + 1 - y)) H O Q (z + 4) ∧ n_E f v w s D H O (n_fd (n_e (n_e (n_e (n_mark (n_e s 12) x) 0) 0) y) 31 (1 - (y : Int))) (n_upd D (z + 4) (s.1 31 + 1 - y)) H O := by
  obtain ⟨a0, ⟨g1, g2, g3⟩, a2, a3, ⟨d1, d2, d3⟩, a5, ⟨m0, m1⟩⟩ := hB
  have hz : s.1 30 + 1 + 1 + 1 + 1 ≤ 200 := (n_e28_0 (s := n_e (n_e (n_mark (n_e s 12) x) 0) 0) (x := (y : Int)) h0).2
  have e1 : (n_mark (n_e s 12) x).1 30 = ((z + 1 : Nat) : Int) := n_e30 (s := s) (x := 12) g1
  have e2 := n_e30 (s := n_mark (n_e s 12) x) (x := 0) e1
  have e3 := n_e30 (s := n_e (n_mark (n_e s 12) x) 0) (x := 0) e2
  generalize hT : n_fd (n_e (n_e (n_e (n_mark (n_e s 12) x) 0) 0) y) 31 (1 - (y : Int)) = T at h0 ⊢
  have hc : ∀ j, T.2 47 j = if j = z + 1 + 1 + 1 then n_by y else if j = z + 1 + 1 then n_by 0 else if j = z + 1 then n_by 0 else if j = z then n_by 12 else s.2 47 j := fun j => by
    rw [← hT]
    show (n_e (n_e (n_e (n_mark (n_e s 12) x) 0) 0) y).2 47 j = _
    rw [n_e47 e3, n_e47 e2, n_e47 e1]
    show (if j = z + 1 + 1 + 1 then n_by y else if j = z + 1 + 1 then n_by 0 else if j = z + 1 then n_by 0 else (n_e s 12).2 47 j) = _
    rw [n_e47 g1]
  have q1 : ∀ q, ¬ ((28 ≤ q ∧ q ≤ 31) ∨ q = 34) → T.1 q = s.1 q := fun q hk => by
    rw [← hT]
    show n_upd (n_upd (n_upd (n_upd (n_upd (n_upd (n_upd (n_upd (n_upd (n_upd s.1 30 _) 28 _) 34 _) 30 _) 28 _) 30 _) 28 _) 30 _) 28 _) 31 _ q = _
    rw [n_u_ne (by omega), n_u_ne (by omega), n_u_ne (by omega), n_u_ne (by omega), n_u_ne (by omega), n_u_ne (by omega), n_u_ne (by omega), n_u_ne (by omega), n_u_ne (by omega), n_u_ne (by omega)]
  have q2 : ∀ a i, ¬ (a = 47 ∨ a = 50 ∨ a = 51) → T.2 a i = s.2 a i := fun a i ha => by
    rw [← hT]
    show n_updA (n_updA (n_updA (n_updA (n_updA (n_updA s.2 47 _ _) 50 _ _) 51 _ _) 47 _ _) 47 _ _) 47 _ _ a i = _
    rw [n_ua_ne (by omega), n_ua_ne (by omega), n_ua_ne (by omega), n_ua_ne (by omega), n_ua_ne (by omega), n_ua_ne (by omega)]
  have t34 : T.1 34 = s.1 34 + 1 := by rw [← hT]; rfl
  have t30 : T.1 30 = ((z + 4 : Nat) : Int) := by rw [← hT]; show s.1 30 + 1 + 1 + 1 + 1 = _; omega
  have t31 : T.1 31 = s.1 31 + 1 - y := by rw [← hT]; show s.1 31 + (1 - (y : Int)) = _; omega
  have t50 : ∀ j, T.2 50 j = if j = (s.1 34).toNat then (z : Int) + 1 else s.2 50 j := fun j => by
    rw [← hT]
    show n_updA s.2 50 (s.1 34).toNat (s.1 30 + 1) 50 j = _
    rw [n_ua_eq, g1]
  have t51 : ∀ j, T.2 51 j = if j = (s.1 34).toNat then x else s.2 51 j := fun j => by
    rw [← hT]
    show n_updA s.2 51 (s.1 34).toNat x 51 j = _
    rw [n_ua_eq]
  have hbT : n_bf b T := by rw [← hT]; exact n_bf_fd (n_bf_e (n_bf_e (n_bf_e (n_bf_mark (n_bf_e a0))))) (by decide)
  have hz1 := a5.2.1
  have hcb : ∀ j, j < z → T.2 47 j = s.2 47 j := fun j hj => by
    rw [hc, if_neg (by omega), if_neg (by omega), if_neg (by omega), if_neg (by omega)]
  have hcz : T.2 47 z = 12 := by rw [hc, if_neg (by omega), if_neg (by omega), if_neg (by omega), if_pos rfl]; decide
  have hM : ∀ q, n_M s q → n_M T q := fun q hq => by
    obtain ⟨j, h1, h2⟩ := hq
    refine ⟨j, by rw [t34]; omega, ?_⟩
    rw [t50, if_neg (by omega)]
    exact h2
  have hsm : n_sm s T := ⟨⟨q1 17 (by decide), q1 18 (by decide), q1 33 (by decide)⟩, fun a i ha => q2 a i (by omega)⟩
  refine ⟨⟨hbT, ⟨t30, by omega, h0⟩, n_sm_GF hsm a2, ?_, ⟨by rw [t31, n_u_eq], by rw [t31]; omega, by rw [t31, t30]; omega⟩, ?_, ?_, ?_⟩, n_sm_old hsm, by rw [q1 33 (by decide)]; exact Int.le_refl _, fun j hj => hcb j (by omega), fun j hj => n_u_ne (by omega), fun j _ => ⟨q2 44 j (by decide), q2 45 j (by decide), q2 46 j (by decide)⟩, fun k _ => q2 49 k (by decide)⟩
  · unfold n_GN at *
    rw [q1 32 (by decide), show T.2 48 = s.2 48 from funext (fun i => q2 48 i (by decide))]
    exact a3
  · refine n_BC_app a5 (by decide) hcb (fun _ h => h) hM ?_
    have e4 : T.2 47 (z + 3) % 256 = (y : Int) := by
      rw [hc, if_pos rfl]
      exact n_by_small ⟨by omega, by omega⟩
    right; right; right; right; right; right; right; right
    rw [hcz, e4, n_u_eq, n_u_ne (show z ≠ z + 4 by omega), n_u_ne (show z + 1 ≠ z + 4 by omega), n_u_ne (show z + 2 ≠ z + 4 by omega), n_u_ne (show z + 3 ≠ z + 4 by omega), d1]
    refine ⟨rfl, by omega, rfl, hz1 _ (by omega), hz1 _ (by omega), hz1 _ (by omega), hy, (s.1 34).toNat, by rw [t34]; omega, ?_⟩
    rw [t50, if_pos rfl]
    omega
  · rw [t34, t30]
    omega
  · intro j hj
    rw [t34] at hj
    rw [t50, t51, t30]
    by_cases hjm : j = (s.1 34).toNat
    · rw [if_pos hjm, if_pos hjm]
      exact ⟨hx, z, rfl, by omega, by rw [n_u_ne (by omega), d1]; exact d2, hcz⟩
    · rw [if_neg hjm, if_neg hjm]
      obtain ⟨n1, p, n2, n3, n4, n5⟩ := m1 j (by omega)
      exact ⟨n1, p, n2, by omega, by rw [n_u_ne (by omega)]; exact n4, by rw [hcb p (by omega)]; exact n5⟩
/-- a call -/
theorem n_kCall {a x : Int} (hL : n_LO Z d b P) (hd : 6 ≤ d) (hI : n_IH P b r h i s D H O Q z f) (hx : n_rng x) (hc : n_ch s O c f (a :: xs)) : P (n_push (n_push s 12 x xs.length) 1 (s.2 41 a.toNat) 0) := by
  obtain ⟨IH, hB, hi, hf, hH, hr, hm, hs, K⟩ := hI
  obtain ⟨m1, m2, m3, m4⟩ := n_RM_1 hm
  have hd0 := hB.2.2.2.2.1.2.1
  obtain ⟨u1, u2, u3, u4⟩ := n_pushed (s := s) (k := 12) (x := x) (y := xs.length) hi
  have u1' : (n_push s 12 x xs.length).1 29 = ((i + 1 : Nat) : Int) := by rw [u1]; omega
  obtain ⟨v1, v2, v3, v4⟩ := n_pushed (s := n_push s 12 x xs.length) (k := 1) (x := s.2 41 a.toNat) (y := 0) u1'
  have E0 : n_E i (s.1 32) z s D H O (n_push s 12 x xs.length) D H O := n_E_push (by omega) (by omega)
  have E1 : n_E ((i + 1 : Nat) : Int) (s.1 32) z (n_push s 12 x xs.length) D H O (n_push (n_push s 12 x xs.length) 1 (s.2 41 a.toNat) 0) D H O := n_E_push (by rw [u1']; exact Int.le_refl _) (by rw [u1']; omega)
  have E2 := n_E_tr E0 E1 (by omega) (Int.le_refl _) (Nat.le_refl _)
  have hc2 : n_ch (n_push (n_push s 12 x xs.length) 1 (s.2 41 a.toNat) 0) O (s.2 41 a.toNat) f xs := by
    have c1 := n_ch_old hc E2.1
    refine ⟨?_, fun y hy => c1.2 y (List.mem_cons_of_mem _ hy)⟩
    exact c1.1.2.2.2
  refine n_rest (j := i + 1) (v := s.1 32) hL hd IH m2 xs _ D H O z (s.2 41 a.toNat) (n_BI_push (n_BI_push hB)) v1 v2 v3 hc2 hf hH hr rfl hs ?_
  intro s1 D1 H1 O1 z1 k1 k2 k3 k4 k5 k6
  have k5 : s1.1 31 = s.1 31 + xs.length := k5
  have k6 : s1.1 32 = s.1 32 := k6
  have t1 := (k2.2.2.2.2.1 i (by omega))
  have t0 := (E1.2.2.2.2.1 i (by omega))
  have hE : n_E i (s.1 32) z s D H O s1 D1 H1 O1 := n_E_tr E2 k2 (by omega) (Int.le_refl _) (Nat.le_refl _)
  have hB1 := n_BI_pop (x := (i : Int)) k1
  have hz3 : s1.1 30 = (z1 : Int) := k1.2.1.1
  have hz4 := k1.2.1.2.1
  have hmk := k1.2.2.2.2.2.2.1
  refine n_go hL (i := i) (by rw [k4]; omega) (by omega) k1.2.1.2.2 (k := 12) (x := x) (y := xs.length) (by rw [t1.1, t0.1]; exact u2) (by rw [t1.2.1, t0.2.1]; exact u3) (by rw [t1.2.2, t0.2.2]; exact u4) ?_
  refine n_pf12 (d := d + 3) (s := (n_upd s1.1 29 i, s1.2)) (by omega) ⟨hmk.1, by show s1.1 34 < 70; omega⟩ ⟨by show 0 ≤ s1.1 30; omega, by show s1.1 30 < 240; omega⟩ (Or.inl k1.2.1.2.2) ⟨rfl, ?_⟩
  refine n_bad hL (n_bf_fd (n_bf_e (n_bf_e (n_bf_e (n_bf_mark (n_bf_e hB1.1))))) (by decide)) ⟨by show 0 ≤ s1.1 30 + 1 + 1 + 1 + 1; omega, by show s1.1 30 + 1 + 1 + 1 + 1 ≤ 260; omega⟩ ⟨by show 0 ≤ (i : Int); omega, by show (i : Int) ≤ 300; omega⟩ (n_T01 _) (fun h0 => ?_)
  obtain ⟨o1, o2⟩ := n_mk4 (f := (i : Int)) (v := s.1 32) (w := z) (y := xs.length) hB1 hx (by show (xs.length : Int) ≤ s1.1 31; omega) h0 (by omega)
  refine K _ _ _ _ _ o1 (n_E_tr (n_E_tr hE (n_E_pop (x := (i : Int)) (i := (i : Int)) (v := s.1 32) (w := z)) (Int.le_refl _) (Int.le_refl _) (Nat.le_refl _)) o2 (Int.le_refl _) (Int.le_refl _) (Nat.le_refl _)) (by omega) rfl ?_ k6
  show s1.1 31 + (1 - (xs.length : Int)) = _
  omega
end N45
end
section
/-! THE TASK MACHINE: macros; a form; a body -/
/-- the units, as a body needs them -/
def n_MU (b : nS) : Prop := (0 ≤ b.1 2 ∧ b.1 2 ≤ 16) ∧ (∀ i, n_rng (b.2 27 i) ∧ n_rng (b.2 28 i)) ∧ (∀ i, n_rng (b.2 35 i)) ∧ (∀ m : Int, 0 ≤ m → m < b.1 2 → b.2 27 m.toNat = 2 → (0 ≤ b.2 29 m.toNat ∧ b.2 29 m.toNat ≤ 4) ∧ n_TX b m ∧ n_read b m = -1)
section N46
variable {Z : Nat → List Int32} {d r h : Nat} {P : nS → Prop} {b s t : nS} {D H O D' H' O' : Nat → Int} {Q Q' : Nat → Prop} {z z' w i j : Nat} {f c v m : Int} {xs : List Int}
theorem n_bf_at (hb : n_bf b s) : n_at1 s m = n_at1 b m := by
  funext k
  unfold n_at1
  rw [hb.1 1 (by decide), hb.2 37 _ (by decide), hb.2 36 _ (by decide), hb.2 26 _ (by decide)]
theorem n_bf_TX (hb : n_bf b s) (h : n_TX b m) : n_TX s m := by
  unfold n_TX at *
  rw [hb.1 1 (by decide), hb.2 37 _ (by decide), show s.2 26 = b.2 26 from funext (fun i => hb.2 26 i (by decide)), show s.2 36 = b.2 36 from funext (fun i => hb.2 36 i (by decide))]
  exact h
theorem n_bf_read (hb : n_bf b s) : n_read s m = n_read b m := by
  unfold n_read
  rw [n_bf_at hb]
theorem n_kMac {a : Int} (hL : n_LO Z d b P) (hd : 6 ≤ d) (hU : n_MU b) (IHr : 1 ≤ r → n_FC P b (r - 1) (h + 8)) (hB : n_BI b s D H O Q z) (hi : s.1 29 = (i : Int)) (hf : 0 ≤ f ∧ f < s.1 17) (hH : H f.toNat ≤ h + 1) (hr : 12 - s.1 33 ≤ r) (hm : n_RM i (s.1 32) r (h + 1)) (hs : n_SB s (s.1 31)) (K : n_KF P b s D H O Q z i) (hc : n_ch s O (s.2 39 f.toNat) f (a :: xs)) (hl : (a :: xs).length ≤ 1300) (hm1 : 0 ≤ m) (hm2 : m < s.1 2) (hm3 : s.2 27 m.toNat = 2) : NG Z (d + 3) 133 [xR 25, xI f, xI m, xI (a :: xs).length] s (fun r' s' => r' = none ∧ P s') := by
  have hbf := hB.1
  have hF := hB.2.2.1.1
  have hr12 := hB.2.2.1.2.1
  have h17 := hB.2.2.1.2.2.1
  have h18 := hB.2.2.1.2.2.2
  have e2 : s.1 2 = b.1 2 := hbf.1 2 (by decide)
  have e27 : s.2 27 m.toNat = b.2 27 m.toNat := hbf.2 27 _ (by decide)
  have e29 : s.2 29 m.toNat = b.2 29 m.toNat := hbf.2 29 _ (by decide)
  obtain ⟨p1, p2, p3⟩ := hU.2.2.2 m hm1 (by omega) (by rw [← e27]; exact hm3)
  obtain ⟨ff, -, -, -⟩ := n_form1 hF hf
  have h30 : s.1 30 = (z : Int) := hB.2.1.1
  have hz2 := hB.2.1.2.1
  have hi3 : i < 290 := by unfold n_RM at hm; omega
  have hu := hU.1
  refine ng133 (Hb := H) (Ob := O) (B := (h : Int)) (ys := xs) hd ⟨hm1, by omega⟩ ⟨by omega, by omega⟩ (by rw [e29]; exact p1) hr12 ff ⟨by rw [hc.1.1]; exact hc.1.2.1, by rw [hc.1.1]; exact hc.1.2.2.1⟩ ⟨by omega, by omega⟩ ⟨rfl, ?_⟩ (fun g1 g2 => ?_)
  · refine hL.1 _ ?_ ⟨by show 0 ≤ s.1 30; omega, by show s.1 30 ≤ 260; omega⟩ ⟨by show 0 ≤ s.1 29; omega, by show s.1 29 ≤ 300; omega⟩ rfl
    refine ⟨fun k hk => ?_, hbf.2⟩
    show n_upd (n_upd s.1 33 _) 28 _ k = _
    rw [n_u_ne (by omega), n_u_ne (by omega)]
    exact hbf.1 k hk
  · have hbf0 : n_bf b (n_upd s.1 33 (s.1 33 + 1), s.2) := by
      refine ⟨fun k hk => ?_, hbf.2⟩
      show n_upd s.1 33 _ k = _
      rw [n_u_ne (by omega)]
      exact hbf.1 k hk
    have hF0 : n_FI (n_upd s.1 33 (s.1 33 + 1), s.2) H O := hF
    refine ⟨⟨n_bf_TX hbf0 p2, by omega, ⟨hF.1.1, by show s.1 17 ≤ 1200; omega⟩, ⟨hF.2.1.1, by show s.1 18 ≤ 1200; omega⟩, fun _ => ⟨by show 0 ≤ s.2 29 m.toNat; rw [e29]; exact p1.1, by show s.2 29 m.toNat ≤ 4; rw [e29]; exact p1.2, ?_⟩, ?_, ?_, ?_, fun y hy => ?_⟩, hF0, by rw [n_bf_read hbf0]; exact p3, ?_⟩
    · show s.2 29 m.toNat ≤ _
      rw [List.length_cons] at g2
      omega
    · intro k
      show n_rng (s.2 35 k)
      rw [hbf.2 35 k (by decide)]
      exact hU.2.2.1 k
    · rw [hc.1.1]
      exact hc.1.2.2.2
    · rw [List.length_cons] at hl
      omega
    · have hy1 := hc.2 y (List.mem_cons_of_mem _ hy)
      obtain ⟨q1, q2⟩ := n_cell1 hF hy1 hf.1
      exact ⟨hy1.1, q1, by show H (s.2 40 y.toNat).toNat ≤ _; omega⟩
    · intro s1 H1 O1 wh k1 k2 k3 k4 k5 k6
      refine ⟨rfl, ?_⟩
      obtain ⟨⟨r1, r2⟩, r3, r4, -⟩ := k1
      have f1 : ∀ k, k ≠ 17 ∧ k ≠ 18 ∧ k ≠ 23 ∧ k ≠ 24 ∧ k ≠ 25 ∧ k ≠ 33 → s1.1 k = s.1 k := fun k hk => by
        rw [r1 k ⟨hk.1, hk.2.1, hk.2.2.1, hk.2.2.2.1, hk.2.2.2.2.1⟩]
        exact n_u_ne hk.2.2.2.2.2
      have f33 : s1.1 33 = s.1 33 + 1 := by rw [r1 33 (by decide)]; rfl
      have f2 : ∀ a i, ¬ (38 ≤ a ∧ a ≤ 43) → s1.2 a i = s.2 a i := fun a i ha => r2 a i ha
      have hold : n_old s H O s1 H1 O1 := r4
      obtain ⟨a0, ⟨g1', g2', g3'⟩, a2, a3, ⟨d1, d2, d3⟩, a5, a6⟩ := hB
      have e47 : s1.2 47 = s.2 47 := funext (fun i => f2 47 i (by decide))
      have e50 : s1.2 50 = s.2 50 := funext (fun i => f2 50 i (by decide))
      have e51 : s1.2 51 = s.2 51 := funext (fun i => f2 51 i (by decide))
      have eM : n_M s1 = n_M s := by
        funext q
        unfold n_M
        rw [f1 34 (by decide), e50]
      have hB1 : n_BI b s1 D H1 O1 Q z := by
        refine ⟨⟨fun k hk => ?_, fun a i ha => ?_⟩, ⟨by rw [f1 30 (by decide)]; exact g1', g2', by rw [f1 28 (by decide)]; exact g3'⟩, ⟨r3, by rw [f33]; omega, by rw [f33]; omega, by rw [f33]; omega⟩, ?_, ⟨by rw [f1 31 (by decide)]; exact d1, by rw [f1 31 (by decide)]; exact d2, by rw [f1 31 (by decide), f1 30 (by decide)]; exact d3⟩, ?_, ?_⟩
        · rw [f1 k (by omega)]
          exact hbf.1 k hk
        · rw [f2 a i (by omega)]
          exact hbf.2 a i ha
        · unfold n_GN at *
          rw [f1 32 (by decide), show s1.2 48 = s.2 48 from funext (fun i => f2 48 i (by decide))]
          exact a3
        · rw [e47, eM]
          exact a5
        · unfold n_MK at *
          rw [f1 34 (by decide), f1 30 (by decide), e47, e50, e51]
          exact a6
      have hE : n_E i (s.1 32) z s D H O s1 D H1 O1 := ⟨hold, by rw [f33]; omega, fun j _ => f2 47 j (by decide), fun _ _ => rfl, fun j _ => ⟨f2 44 j (by decide), f2 45 j (by decide), f2 46 j (by decide)⟩, fun k _ => f2 49 k (by decide)⟩
      have e32 : s1.1 32 = s.1 32 := f1 32 (by decide)
      have e31 : s1.1 31 = s.1 31 := f1 31 (by decide)
      refine n_sub (i := i) (IHr (by omega)) hB1 (by rw [f1 29 (by decide)]; exact hi) ⟨k2, k3⟩ (by omega) (by rw [f33]; omega) ?_ (n_SB_E hs hE e32 (by rw [e31]; exact Int.le_refl _)) ?_
      · rw [e32]
        unfold n_RM at *
        omega
      · intro s2 D2 H2 O2 z2 l1 l2 l3 l4 l5 l6
        exact K s2 D2 H2 O2 z2 l1 (n_E_tr hE l2 (Int.le_refl _) (by rw [e32]; exact Int.le_refl _) (Nat.le_refl _)) l3 l4 (by rw [l5, e31]) (by rw [l6, e32])
/-- a list's own task -/
theorem n_ls0 (hL : n_LO Z d b P) (hd : 6 ≤ d) (hU : n_MU b) (hh : h = 0 ∨ n_FC P b r (h - 1)) (IHr : 1 ≤ r → ∀ h, n_FC P b (r - 1) h) (hB : n_BI b s D H O Q z) (hi : s.1 29 = (i : Int) + 1) (h44 : s.2 44 i = 0) (h45 : s.2 45 i = f) (hf : 0 ≤ f ∧ f < s.1 17) (hk : s.2 38 f.toNat = 2) (hH : H f.toNat ≤ h) (hr : 12 - s.1 33 ≤ r) (hm : n_RM i (s.1 32) r h) (hs : n_SB s (s.1 31)) (K : n_KF P b s D H O Q z i) : P s := by
  have hF := hB.2.2.1.1
  have hbf := hB.1
  obtain ⟨ff, -, -, hH0⟩ := n_form1 hF hf
  obtain ⟨g1, g2, g3⟩ := hB.2.1
  have hi3 : i < 290 := by unfold n_RM at hm; omega
  have hB1 := n_BI_pop (x := (i : Int)) hB
  have K1 : n_KF P b (n_upd s.1 29 i, s.2) D H O Q z i := by
    intro s' D' H' O' z' k1 k2 k3 k4 k5 k6
    exact K s' D' H' O' z' k1 (n_E_tr n_E_pop k2 (Int.le_refl _) (Int.le_refl _) (Nat.le_refl _)) k3 k4 k5 k6
  obtain ⟨y1, y2, y3, y4⟩ := hF.2.2.1 f.toNat (by omega)
  have y4 := y4 hk
  have h18 := hF.2.1
  obtain ⟨xs, c1, c2, c3⟩ := n_chain hF 1300 (s.2 39 f.toNat) (by rcases y4 with h | h; exact Or.inl h; exact Or.inr ⟨h.1, h.2.1⟩) (by rcases y4 with h | h; exact Or.inr h; exact Or.inl (by omega))
  have hcO : xs ≠ [] → O (s.2 39 f.toNat).toNat = f := by
    intro hne
    rcases y4 with h | h
    · obtain _ | ⟨x, xs⟩ := xs
      · exact absurd rfl hne
      · have := c1.1
        have := c1.2.1
        omega
    · rw [h.2.2]
      omega
  have hc : n_ch s O (s.2 39 f.toNat) f xs := ⟨c1, fun x hx => by
    obtain ⟨e1, e2, e3⟩ := c3 x hx
    exact ⟨⟨e1, e2⟩, by rw [e3]; exact hcO (List.ne_nil_of_mem hx)⟩⟩
  have hXf : n_LX (n_upd s.1 29 i, s.2) f xs := by
    refine ⟨ff, hk, c1, c2, fun x hx => ?_⟩
    obtain ⟨e1, e2⟩ := n_cell1 hF (hc.2 x hx) hf.1
    obtain ⟨f1, f2, f3, -⟩ := n_form1 hF e1
    exact ⟨f1, f2, f3⟩
  have hne : xs ≠ [] → 1 ≤ h := by
    intro hne
    obtain _ | ⟨x, xs⟩ := xs
    · exact absurd rfl hne
    · obtain ⟨e1, e2⟩ := n_cell1 hF (hc.2 x (by simp)) hf.1
      have := (n_form1 hF e1).2.2.2
      omega
  have hI : xs ≠ [] → n_IH P b r (h - 1) i (n_upd s.1 29 i, s.2) D H O Q z f := by
    intro hx
    have h1 := hne hx
    refine ⟨?_, hB1, rfl, hf, by omega, hr, ?_, hs, K1⟩
    · rcases hh with h0 | h0
      · omega
      · exact h0
    · rw [show h - 1 + 1 = h from by omega]
      exact hm
  refine n_go hL hi (by omega) g3 h44 h45 rfl ?_
  refine n_pfL (d := d + 4) (s := (n_upd s.1 29 i, s.2)) (by omega) ff hk ?_
  refine NG_mono (Post := fun r' s' => r' = none ∧ P s') (ng131 (d := d) (xs := xs) hd ?_ ⟨by show 0 ≤ (i : Int); omega, by show (i : Int) < 297; omega⟩ hXf (fun k => ?_) ?_ (fun m q1 q2 q3 q4 => ?_)) (fun r' s' hr' => ⟨hr'.1, rfl, hr'.2⟩)
  · refine ⟨fun a x y op e ho => ⟨rfl, ?_⟩, fun a x y g e => ⟨rfl, ?_⟩, fun a x y g e k1 => ⟨rfl, ?_⟩, fun a x rr e => ⟨rfl, ?_⟩, fun a x y e k1 => ⟨rfl, ?_⟩, fun a x y e => ⟨rfl, ?_⟩, fun a rr vv e hv => ⟨rfl, ?_⟩, rfl, ?_⟩
    · subst e
      exact n_kPair hL hd (hI (by simp)) hc ho
    · subst e
      exact n_kIf hL hd (hI (by simp)) hk hc
    · subst e
      exact n_kLet hL hd (hI (by simp)) k1 hc
    · subst e
      exact n_kDo hL hd (hI (by simp)) hc
    · subst e
      exact n_kSet hL hd (hI (by simp)) hc
    · subst e
      exact n_kRun hL hd (hI (by simp)) hc
    · subst e
      exact n_kCall hL hd (hI (by simp)) hv hc
    · exact hL.1 _ (n_bf_28 (n_bf_pop hbf)) ⟨by show 0 ≤ s.1 30; omega, by show s.1 30 ≤ 260; omega⟩ ⟨by show 0 ≤ (i : Int); omega, by show (i : Int) ≤ 300; omega⟩ rfl
  · show n_rng (s.2 27 k) ∧ n_rng (s.2 28 k)
    rw [hbf.2 27 k (by decide), hbf.2 28 k (by decide)]
    exact hU.2.1 k
  · show 0 ≤ s.1 2 ∧ s.1 2 ≤ 16
    rw [hbf.1 2 (by decide)]
    exact hU.1
  · have h1 := hne q4
    obtain _ | ⟨a, ys⟩ := xs
    · exact absurd rfl q4
    have := n_kMac (h := h - 1) (m := m) hL hd hU (fun h1 => IHr h1 _) hB1 (i := i) rfl hf (by omega) hr (by rw [show h - 1 + 1 = h from by omega]; exact hm) hs K1 hc c2 q1 q2 q3
    exact NG_mono this (fun r' s' hr' => ⟨hr'.1, rfl, hr'.2⟩)
/-- every form -/
theorem n_FC_all (hL : n_LO Z d b P) (hd : 6 ≤ d) (hU : n_MU b) : ∀ r h, n_FC P b r h := by
  intro r
  induction r with
  | zero =>
    intro h
    induction h with
    | zero =>
      intro s D H O Q z i f hB hi h44 h45 hf hH hr hm hs K
      have hi3 : i < 290 := by unfold n_RM at hm; omega
      by_cases hk : s.2 38 f.toNat = 2
      · exact n_ls0 hL hd hU (Or.inl rfl) (fun h => by omega) hB hi h44 h45 hf hk hH hr hm hs K
      · exact n_at0 hL hd hB hi (by omega) h44 h45 hf hk hs K
    | succ h ih =>
      intro s D H O Q z i f hB hi h44 h45 hf hH hr hm hs K
      have hi3 : i < 290 := by unfold n_RM at hm; omega
      by_cases hk : s.2 38 f.toNat = 2
      · exact n_ls0 hL hd hU (Or.inr ih) (fun h => by omega) hB hi h44 h45 hf hk hH hr hm hs K
      · exact n_at0 hL hd hB hi (by omega) h44 h45 hf hk hs K
  | succ r ihr =>
    intro h
    induction h with
    | zero =>
      intro s D H O Q z i f hB hi h44 h45 hf hH hr hm hs K
      have hi3 : i < 290 := by unfold n_RM at hm; omega
      by_cases hk : s.2 38 f.toNat = 2
      · exact n_ls0 (r := r + 1) hL hd hU (Or.inl rfl) (fun _ => ihr) hB hi h44 h45 hf hk hH hr hm hs K
      · exact n_at0 hL hd hB hi (by omega) h44 h45 hf hk hs K
    | succ h ih =>
      intro s D H O Q z i f hB hi h44 h45 hf hH hr hm hs K
      have hi3 : i < 290 := by unfold n_RM at hm; omega
      by_cases hk : s.2 38 f.toNat = 2
      · exact n_ls0 (r := r + 1) (h := h + 1) hL hd hU (Or.inr ih) (fun _ => ihr) hB hi h44 h45 hf hk hH hr hm hs K
      · exact n_at0 hL hd hB hi (by omega) h44 h45 hf hk hs K
end N46
end
section
/-! A BODY'S CODE -/
def n_MKz (s : nS) (D : Nat → Int) (z : Nat) : Prop := (0 ≤ s.1 34 ∧ 4 * s.1 34 ≤ (z : Int)) ∧ (∀ j : Nat, (j : Int) < s.1 34 → n_rng (s.2 51 j) ∧ ∃ p : Nat, s.2 50 j = (p : Int) + 1 ∧ p + 4 ≤ z ∧ 0 ≤ D p ∧ s.2 47 p = 12)
/-- what a body leaves, if it isn't wrong -/
def n_BR (n e : Int) (s : nS) : Prop := ∃ (D : Nat → Int) (z : Nat), n_BC (s.2 47) z D (fun _ => False) (n_M s) ∧ n_MKz s D z ∧ D 0 = n ∧ D z = n + 1 ∧ s.2 47 z = e ∧ s.1 30 ≤ 200 ∧ ((e = 14 ∧ s.1 30 = (z : Int) + 1) ∨ (e = 13 ∧ s.1 30 = (z : Int) + 2))
/-- a body, wrong or not -/
def n_BP (b : nS) (n e : Int) (r : nA) (s : nS) : Prop := r = none ∧ n_bf b s ∧ (s.1 28 = 0 ∨ s.1 28 = 1) ∧ (s.1 28 = 0 → n_BR n e s ∧ s.1 32 = n)
def n_BJ (b s : nS) (n : Int) : Prop := ∃ (D H O : Nat → Int) (z : Nat), n_BI b s D H O (fun _ => False) z ∧ D 0 = n ∧ s.1 31 = n + 1 ∧ s.1 32 = n
section N47
variable {Z : Nat → List Int32} {d : Nat} {b s : nS} {D H O : Nat → Int} {f e n : Int}
theorem n_b106 (hd : 6 ≤ d) {L : nL} (h : n_BP b n e none s) : NP Z d 128 106 L [] s (n_BP b n e) := n_at nb128_106 hd rfl ⟨rfl, h⟩
/-- the last step of code -/
theorem n_b90 (hd : 6 ≤ d) (he : e = 13 ∨ e = 14) (hb : n_bf b s) (h28 : s.1 28 = 0 ∨ s.1 28 = 1) (h30 : 0 ≤ s.1 30 ∧ s.1 30 ≤ 260) (hn : n_rng n) (hn2 : 0 ≤ n ∧ n ≤ 4) (h : s.1 28 = 0 → n_BJ b s n) : NP Z (d + 1) 128 90 [some (xR 25), some (xI f), some (xI e), some (xI n)] [] s (n_BP b n e) := by
  have hbe : ∀ (t : nS) (x : Int), n_bf b t → n_bf b (n_em t x) := by
    intro t x ht
    refine ⟨fun k hk => ?_, fun a i ha => ?_⟩
    · rw [n_em_S (by omega)]
      exact ht.1 k hk
    · rw [n_em_A (by omega)]
      exact ht.2 a i ha
  have b1 := n_em_b (s := s) (x := e) h30
  refine n_at nb128_90 (by omega) rfl ?_
  refine n_iv (vs := [xR 25, xI e]) (r := []) nn136 (by simp) rfl nc136 (ng136 hd h30 h28) (fun r s' hr => ?_)
  rw [hr.1, hr.2]
  refine ⟨⟨by omega, by omega⟩, ⟨by decide, by decide⟩, fun z => ?_, fun z => ?_⟩
  · refine n_b106 (by omega) ⟨rfl, hbe _ _ hb, b1.2, fun h0 => ?_⟩
    have z : ¬ e = 13 := z
    have he14 : e = 14 := by omega
    subst he14
    have hlt : s.1 30 < 260 := by
      apply Classical.byContradiction
      intro hc
      unfold n_em at h0
      rw [if_neg hc] at h0
      have := n_T00 h0
      omega
    rw [n_em_e hlt] at h0 ⊢
    have h1 := n_e28_0 h0
    obtain ⟨D, H, O, z0, ⟨a0, ⟨g1, g2, g3⟩, a2, a3, ⟨d1, d2, d3⟩, a5, a6⟩, i1, i2, i3⟩ := h h1.1
    have hcb : ∀ j, (n_e s 14).2 47 j = if j = z0 then n_by 14 else s.2 47 j := fun j => n_e47 g1
    have hcv : n_BC ((n_e s 14).2 47) z0 D (fun _ => False) (n_M (n_e s 14)) := by
      refine ⟨a5.1, a5.2.1, fun p hp hD => ?_⟩
      exact n_cv_app (a5.2.2 p hp hD) (Nat.le_refl _) (fun j hj => by rw [hcb, if_neg (by omega)]) (fun _ _ => rfl) (fun _ h => h) (fun _ h => h)
    refine ⟨⟨D, z0, hcv, ⟨⟨a6.1.1, by have := a6.1.2; show 4 * s.1 34 ≤ _; omega⟩, fun j hj => ?_⟩, i1, by rw [d1]; exact i2, by rw [hcb, if_pos rfl]; decide, h1.2, Or.inl ⟨rfl, by show s.1 30 + 1 = _; omega⟩⟩, i3⟩
    obtain ⟨n1, p, n2, n3, n4, n5⟩ := a6.2 j hj
    exact ⟨n1, p, n2, by omega, n4, by rw [hcb, if_neg (by omega)]; exact n5⟩
  · have z : e = 13 := z
    subst z
    refine n_iv (vs := [xR 25, xI n]) (r := []) nn136 (by simp) rfl nc136 (ng136 hd b1.1 b1.2) (fun r s' hr => ?_)
    rw [hr.1, hr.2]
    have b2 := n_em_b (s := n_em s 13) (x := n) b1.1
    refine n_b106 (by omega) ⟨rfl, hbe _ _ (hbe _ _ hb), b2.2, fun h0 => ?_⟩
    have hlt2 : (n_em s 13).1 30 < 260 := by
      apply Classical.byContradiction
      intro hc
      unfold n_em at h0
      have hc2 := hc
      unfold n_em at hc2
      rw [if_neg hc2] at h0
      have := n_T00 h0
      omega
    rw [n_em_e hlt2] at h0 ⊢
    have h2 := n_e28_0 h0
    have hlt : s.1 30 < 260 := by
      apply Classical.byContradiction
      intro hc
      have h3 := h2.2
      unfold n_em at h3
      rw [if_neg hc] at h3
      have h3 : s.1 30 + 1 ≤ 200 := h3
      omega
    rw [n_em_e hlt] at h0 h2 ⊢
    have h1 := n_e28_0 h2.1
    obtain ⟨D, H, O, z0, ⟨a0, ⟨g1, g2, g3⟩, a2, a3, ⟨d1, d2, d3⟩, a5, a6⟩, i1, i2, i3⟩ := h h1.1
    have e1 := n_e30 (s := s) (x := 13) g1
    have hcb : ∀ j, (n_e (n_e s 13) n).2 47 j = if j = z0 + 1 then n_by n else if j = z0 then n_by 13 else s.2 47 j := fun j => by rw [n_e47 e1, n_e47 g1]
    have hcv : n_BC ((n_e (n_e s 13) n).2 47) z0 D (fun _ => False) (n_M (n_e (n_e s 13) n)) := by
      refine ⟨a5.1, a5.2.1, fun p hp hD => ?_⟩
      exact n_cv_app (a5.2.2 p hp hD) (Nat.le_refl _) (fun j hj => by rw [hcb, if_neg (by omega), if_neg (by omega)]) (fun _ _ => rfl) (fun _ h => h) (fun _ h => h)
    refine ⟨⟨D, z0, hcv, ⟨⟨a6.1.1, by have := a6.1.2; show 4 * s.1 34 ≤ _; omega⟩, fun j hj => ?_⟩, i1, by rw [d1]; exact i2, by rw [hcb, if_neg (by omega), if_pos rfl]; decide, h2.2, Or.inr ⟨rfl, by show s.1 30 + 1 + 1 = _; omega⟩⟩, i3⟩
    obtain ⟨n1, p, n2, n3, n4, n5⟩ := a6.2 j hj
    exact ⟨n1, p, n2, by omega, n4, by rw [hcb, if_neg (by omega), if_neg (by omega)]; exact n5⟩
/-- the loop over the tasks -/
theorem n_LO_128 (hd : 6 ≤ d) (he : e = 13 ∨ e = 14) (hn2 : 0 ≤ n ∧ n ≤ 4) : n_LO Z d b (fun s => NP Z (d + 6) 128 32 [some (xR 25), some (xI f), some (xI e), some (xI n)] [] s (n_BP b n e)) := by
  refine ⟨fun s hb h30 h29 h28 => ?_, fun s i hi hi2 hb hG => ?_⟩
  · have h90 := n_b90 (Z := Z) (d := d + 5) (f := f) (by omega) he hb (Or.inr h28) h30 ⟨by omega, by omega⟩ hn2 (fun h0 => by rw [h28] at h0; exact absurd h0 (by decide))
    refine n_at nb128_32 (by omega) rfl ⟨⟨by omega, by omega⟩, fun _ => h90, fun _ => ⟨⟨by omega, by omega⟩, fun _ => h90, fun z => ?_⟩⟩
    have z : s.1 28 = 0 := z
    omega
  · refine n_at nb128_32 (by omega) rfl ⟨⟨by omega, by omega⟩, fun z => ?_, fun _ => ⟨⟨by omega, by omega⟩, fun z => absurd hb z, fun _ => ?_⟩⟩
    · have z : s.1 29 ≤ 0 := z
      omega
    have e1 : s.1 29 - 1 = (i : Int) := by omega
    show ((0 ≤ s.1 29 - 1 ∧ s.1 29 - 1 < 300) ∧ (0 ≤ s.1 29 - 1 ∧ s.1 29 - 1 < 300) ∧ (0 ≤ s.1 29 - 1 ∧ s.1 29 - 1 < 300) ∧ _)
    refine ⟨⟨by omega, by omega⟩, ⟨by omega, by omega⟩, ⟨by omega, by omega⟩, ?_⟩
    rw [e1]
    show wq _ _ _ _ _ [xI (s.2 46 i), xI (s.2 45 i), xI (s.2 44 i), xR 25] (n_upd s.1 29 i, s.2)
    refine n_iv (d := d + 5) (vs := [xR 25, xI (s.2 44 i), xI (s.2 45 i), xI (s.2 46 i)]) (r := []) nn130 (by simp) rfl nc130 hG (fun r s' hr => ?_)
    rw [hr.1]
    exact hr.2
/-- body -/
theorem ng128 (hd : 6 ≤ d) (hU : n_MU b) (he : e = 13 ∨ e = 14) (hn : 0 ≤ n ∧ n ≤ 4) (hf : 0 ≤ f ∧ f < b.1 17) (hF : n_FI b H O) (hH : H f.toNat ≤ 8) (h17 : b.1 17 ≤ 95 ∧ b.1 18 ≤ 95) (h28 : b.1 28 = 0) (h32 : b.1 32 = n) (hsy : ∀ k : Nat, (k : Int) < n → n_rng (b.2 48 k) ∧ b.2 49 k = k) : NG Z (d + 6) 128 [xR 25, xI f, xI e, xI n] b (n_BP b n e) := by
  refine n_G_of (L := [some (xR 25), some (xI f), some (xI e), some (xI n)]) (by rw [nl128]; exact Nat.le_of_ble_eq_true rfl) (by rw [nl128]; rfl) ?_
  refine n_at nb128_0 (by omega) rfl ?_
  show wq _ _ _ _ _ [xI 0, xI f, xI 0, xR 25] (n_upd (n_upd (n_upd (n_upd (n_upd b.1 29 0) 30 0) 31 n) 33 0) 34 0, b.2)
  generalize hS : (n_upd (n_upd (n_upd (n_upd (n_upd b.1 29 0) 30 0) 31 n) 33 0) 34 0, b.2) = S
  have s29 : S.1 29 = ((0 : Nat) : Int) := by rw [← hS]; rfl
  have s30 : S.1 30 = ((0 : Nat) : Int) := by rw [← hS]; rfl
  have s31 : S.1 31 = n := by rw [← hS]; rfl
  have s32 : S.1 32 = n := by rw [← hS]; exact h32
  have s33 : S.1 33 = 0 := by rw [← hS]; rfl
  have s34 : S.1 34 = 0 := by rw [← hS]; rfl
  have s28 : S.1 28 = 0 := by rw [← hS]; exact h28
  have s17 : S.1 17 = b.1 17 := by rw [← hS]; rfl
  have s18 : S.1 18 = b.1 18 := by rw [← hS]; rfl
  have sA : S.2 = b.2 := by rw [← hS]
  have sbf : n_bf b S := by
    refine ⟨fun k hk => ?_, fun a i _ => by rw [sA]⟩
    rw [← hS]
    show n_upd (n_upd (n_upd (n_upd (n_upd b.1 29 0) 30 0) 31 n) 33 0) 34 0 k = _
    rw [n_u_ne (by omega), n_u_ne (by omega), n_u_ne (by omega), n_u_ne (by omega), n_u_ne (by omega)]
  have hFS : n_FI S H O := by rw [← hS]; exact hF
  have hBI : n_BI b S (fun p => if p = 0 then n else -1) H O (fun _ => False) 0 := by
    refine ⟨sbf, ⟨s30, by decide, s28⟩, ⟨hFS, by rw [s33]; decide, by rw [s17, s33]; omega, by rw [s18, s33]; omega⟩, ⟨by rw [s32]; omega, fun k hk => ?_⟩, ⟨by rw [s31]; rfl, by rw [s31]; exact hn.1, by rw [s31, s30]; omega⟩, ⟨hn.1, fun p hp => ?_, fun p hp => by omega⟩, ⟨by rw [s34, s30]; decide, fun j hj => by rw [s34] at hj; omega⟩⟩
    · rw [s32] at hk
      rw [sA]
      exact (hsy k hk).1
    · show (if p = 0 then n else -1) < 0
      rw [if_neg (by omega)]
      decide
  have hL := n_LO_128 (Z := Z) (b := b) (f := f) hd he hn
  refine n_iv (d := d + 5) (vs := [xR 25, xI 0, xI f, xI 0]) (r := []) nn129 (by simp) rfl nc129 (ng129 (s := S) (by omega) (by rw [s29]; decide)) (fun r s' hr => ?_)
  rw [hr.1, hr.2]
  refine n_sub (f := f) (z := 0) (i := 0) (n_FC_all hL hd hU 12 8) hBI s29 (by rw [s17]; exact hf) hH (by rw [s33]; decide) ?_ ?_ ?_
  · rw [s32]
    unfold n_RM
    omega
  · intro k hk
    rw [s32] at hk
    rw [sA, s31, (hsy k hk).2]
    omega
  · intro s1 D1 H1 O1 z1 k1 k2 k3 k4 k5 k6
    have h30 : s1.1 30 = (z1 : Int) := k1.2.1.1
    have hz := k1.2.1.2.1
    have h90 := n_b90 (Z := Z) (d := d + 5) (f := f) (by omega) he k1.1 (Or.inl k1.2.1.2.2) ⟨by omega, by omega⟩ ⟨by omega, by omega⟩ hn (fun _ => ⟨D1, H1, O1, z1, k1, by rw [k2.2.2.2.1 0 (Nat.le_refl _)]; rfl, by rw [k5, s31], by rw [k6, s32]⟩)
    refine n_at nb128_32 (by omega) rfl ⟨⟨by rw [k4]; decide, by rw [k4]; decide⟩, fun _ => h90, fun z => ?_⟩
    have z : ¬ s1.1 29 ≤ 0 := z
    omega
end N47
end
section
/-! A MACRO'S TEXT READS WELL -/
section N48
variable {ch ch' : Int → Int} {fr : Int}
theorem n_nd_sh (h : ∀ k, 0 ≤ k → ch' k = ch (fr + k)) : ∀ (n : Nat) (p : Int), 0 ≤ p → n_nd ch' n p = n_nd ch n (fr + p) - fr
  | 0, p, hp => by show p = fr + p - fr; omega
  | n + 1, p, hp => by
    unfold n_nd
    rw [h p hp]
    split
    · rw [n_nd_sh h n (p + 1) (by omega), show fr + (p + 1) = fr + p + 1 from by omega]
    · omega
theorem n_nl_sh (h : ∀ k, 0 ≤ k → ch' k = ch (fr + k)) : ∀ (n : Nat) (p : Int), 0 ≤ p → n_nl ch' n p = n_nl ch n (fr + p) - fr
  | 0, p, hp => by show p = fr + p - fr; omega
  | n + 1, p, hp => by
    unfold n_nl
    rw [h p hp]
    split
    · rw [n_nl_sh h n (p + 1) (by omega), show fr + (p + 1) = fr + p + 1 from by omega]
    · omega
theorem n_ae_sh (h : ∀ k, 0 ≤ k → ch' k = ch (fr + k)) {p : Int} (hp : 0 ≤ p) : n_atomEnd ch' p = n_atomEnd ch (fr + p) - fr := by
  have e : n_isNum ch' p = n_isNum ch (fr + p) := by
    unfold n_isNum
    rw [h p hp, h (p + 1) (by omega), show fr + (p + 1) = fr + p + 1 from by omega]
  unfold n_atomEnd n_symEnd
  rw [e, h p hp]
  split
  · split
    · rw [n_nd_sh h 4 (p + 1) (by omega), show fr + (p + 1) = fr + p + 1 from by omega]
    · exact n_nd_sh h 4 p hp
  · split
    · rw [n_nl_sh h 3 (p + 1) (by omega), show fr + (p + 1) = fr + p + 1 from by omega]
    · omega
theorem n_nd_ge : ∀ (n : Nat) (p : Int), p ≤ n_nd ch n p
  | 0, p => Int.le_refl _
  | n + 1, p => by
    unfold n_nd
    split
    · have := n_nd_ge n (p + 1)
      omega
    · exact Int.le_refl _
theorem n_nl_ge : ∀ (n : Nat) (p : Int), p ≤ n_nl ch n p
  | 0, p => Int.le_refl _
  | n + 1, p => by
    unfold n_nl
    split
    · have := n_nl_ge n (p + 1)
      omega
    · exact Int.le_refl _
theorem n_nd_in : ∀ (n : Nat) (p k : Int), p ≤ k → k < n_nd ch n p → c_dig (ch k) = true
  | 0, p, k, h1, h2 => by
    have h2 : k < p := h2
    omega
  | n + 1, p, k, h1, h2 => by
    unfold n_nd at h2
    split at h2
    · rename_i hd
      by_cases hk : k = p
      · rw [hk]; exact hd
      · exact n_nd_in n (p + 1) k (by omega) h2
    · omega
theorem n_nl_in : ∀ (n : Nat) (p k : Int), p ≤ k → k < n_nl ch n p → c_let (ch k) = true
  | 0, p, k, h1, h2 => by
    have h2 : k < p := h2
    omega
  | n + 1, p, k, h1, h2 => by
    unfold n_nl at h2
    split at h2
    · rename_i hd
      by_cases hk : k = p
      · rw [hk]; exact hd
      · exact n_nl_in n (p + 1) k (by omega) h2
    · omega
theorem n_one_dig {c : Int} (h : c_dig c = true) : n_one c = true := by
  unfold c_dig at h
  have := of_decide_eq_true h
  unfold n_one
  exact decide_eq_true (by omega)
theorem n_one_let {c : Int} (h : c_let c = true) : n_one c = true := by
  unfold c_let at h
  have := of_decide_eq_true h
  unfold n_one
  exact decide_eq_true (by omega)
theorem n_one_beg {c : Int} (h : c_beg c = true) : n_one c = true := by
  unfold c_beg at h
  simp only [Bool.or_eq_true] at h
  rcases h with (h | h) | h
  · exact n_one_dig h
  · exact n_one_let h
  · unfold c_sgn at h
    have := of_decide_eq_true h
    unfold n_one
    exact decide_eq_true (by omega)
/-- an atom's characters -/
theorem n_ae_in {p : Int} (hb : n_one (ch p) = true) : p + 1 ≤ n_atomEnd ch p ∧ (∀ k, p ≤ k → k < n_atomEnd ch p → n_one (ch k) = true) := by
  unfold n_atomEnd n_symEnd n_isNum
  split
  · rename_i hn
    by_cases h45 : ch p = 45
    · rw [if_pos h45]
      refine ⟨n_nd_ge _ _, fun k h1 h2 => ?_⟩
      by_cases hk : k = p
      · rw [hk]; exact hb
      · exact n_one_dig (n_nd_in _ _ k (by omega) h2)
    · rw [if_neg h45]
      have hd : c_dig (ch p) = true := by
        simp only [Bool.or_eq_true, Bool.and_eq_true, decide_eq_true_eq] at hn
        rcases hn with hn | hn
        · exact hn
        · exact absurd hn.1 h45
      refine ⟨?_, fun k h1 h2 => n_one_dig (n_nd_in _ _ k h1 h2)⟩
      show p + 1 ≤ (if c_dig (ch p) = true then n_nd ch 3 (p + 1) else p)
      rw [if_pos hd]
      exact n_nd_ge _ _
  · split
    · refine ⟨n_nl_ge _ _, fun k h1 h2 => ?_⟩
      by_cases hk : k = p
      · rw [hk]; exact hb
      · exact n_one_let (n_nl_in _ _ k (by omega) h2)
    · refine ⟨Int.le_refl _, fun k h1 h2 => ?_⟩
      rw [show k = p from by omega]
      exact hb
/-- the same text, read as a macro's -/
theorem n_rp_mac : ∀ (n : Nat) (p o : Int) (ap wh : Bool), n_rp ch false n p o ap wh = -1 → n_rp ch true n p o ap wh = -1
  | 0, p, o, ap, wh, h => h
  | n + 1, p, o, ap, wh, h => by
    by_cases hw : wh = true
    · unfold n_rp
      rw [if_pos ⟨hw, rfl⟩]
    · unfold n_rp at h ⊢
      rw [if_neg (fun k => hw k.1)] at h ⊢
      split
      · rename_i h1
        rw [if_pos h1] at h
        exact n_rp_mac n _ _ _ _ h
      · rename_i h1
        rw [if_neg h1] at h
        split
        · rfl
        · rename_i h2
          rw [if_neg h2] at h
          split
          · rename_i h3
            rw [if_pos h3] at h
            exact n_rp_mac n _ _ _ _ h
          · rename_i h3
            rw [if_neg h3] at h
            split
            · rename_i h4
              rw [if_pos h4] at h
              exact h
            · rename_i h4
              rw [if_neg h4] at h
              split
              · rename_i h5
                rw [if_pos h5] at h
                exact n_rp_mac n _ _ _ _ h
              · rename_i h5
                rw [if_neg h5] at h
                exact n_rp_mac n _ _ _ _ h
/-- more steps change nothing -/
theorem n_rp_more {mac : Bool} : ∀ (n : Nat) (p o : Int) (ap wh : Bool), n_rp ch mac n p o ap wh = -1 → n_rp ch mac (n + 1) p o ap wh = -1
  | 0, p, o, ap, wh, h => absurd (show (-2 : Int) = -1 from h) (by decide)
  | n + 1, p, o, ap, wh, h => by
    rw [n_rp] at h
    rw [n_rp]
    split
    · rfl
    · rename_i h0
      rw [if_neg h0] at h
      split
      · rename_i h1
        rw [if_pos h1] at h
        exact n_rp_more n _ _ _ _ h
      · rename_i h1
        rw [if_neg h1] at h
        split
        · rfl
        · rename_i h2
          rw [if_neg h2] at h
          split
          · rename_i h3
            rw [if_pos h3] at h
            exact n_rp_more n _ _ _ _ h
          · rename_i h3
            rw [if_neg h3] at h
            split
            · rename_i h4
              rw [if_pos h4] at h
              exact h
            · rename_i h4
              rw [if_neg h4] at h
              split
              · rename_i h5
                rw [if_pos h5] at h
                exact n_rp_more n _ _ _ _ h
              · rename_i h5
                rw [if_neg h5] at h
                exact n_rp_more n _ _ _ _ h
theorem n_rp_up {mac : Bool} {n m : Nat} {p o : Int} {ap wh : Bool} (hm : n ≤ m) (h : n_rp ch mac n p o ap wh = -1) : n_rp ch mac m p o ap wh = -1 := by
  obtain ⟨k, rfl⟩ : ∃ k, m = n + k := ⟨m - n, by omega⟩
  clear hm
  induction k with
  | zero => exact h
  | succ k ih => exact n_rp_more _ _ _ _ _ ih
/-- the text from a later place, one list less deep -/
theorem n_rp_sh (hfr : 0 ≤ fr) (hs : ∀ k, 0 ≤ k → ch' k = ch (fr + k)) : ∀ (n : Nat) (p o : Int) (ap : Bool), 0 ≤ p → (1 ≤ o ∧ o ≤ 7) → n_rp ch false n (fr + p) (o + 1) ap false = -1 → n_rp ch' true n p o ap false = -1
  | 0, p, o, ap, _, _, h => absurd (show (-2 : Int) = -1 from h) (by decide)
  | n + 1, p, o, ap, hp, ho, h => by
    have hw : ¬ (false = true ∧ true = true) := by decide
    rw [n_rp] at h
    rw [n_rp]
    rw [if_neg (by decide)] at h
    rw [if_neg (by decide), hs p hp]
    by_cases h1 : ch (fr + p) = 32
    · rw [if_pos h1] at h ⊢
      rw [show fr + p + 1 = fr + (p + 1) from by omega] at h
      exact n_rp_sh hfr hs n (p + 1) o true (by omega) ho h
    · rw [if_neg h1] at h ⊢
      rw [if_neg (by rintro ⟨-, h⟩; cases h)] at h ⊢
      by_cases h3 : ch (fr + p) = 41
      · rw [if_pos ⟨h3, by omega⟩] at h
        rw [if_pos ⟨h3, by omega⟩]
        rw [show fr + p + 1 = fr + (p + 1) from by omega, show o + 1 - 1 = o from by omega, decide_eq_false (by omega)] at h
        by_cases h4 : o = 1
        · rw [decide_eq_true (by omega)]
          obtain _ | n := n
          · exact absurd (show (-2 : Int) = -1 from h) (by decide)
          · rw [n_rp, if_pos ⟨rfl, rfl⟩]
        · rw [decide_eq_false (by omega)]
          refine n_rp_sh hfr hs n (p + 1) (o - 1) true (by omega) ⟨by omega, by omega⟩ ?_
          rw [show o - 1 + 1 = o from by omega]
          exact h
      · rw [if_neg (fun k => h3 k.1)] at h ⊢
        by_cases h5 : (false = true ∨ (¬ ch (fr + p) = 40 ∧ ¬ (c_beg (ch (fr + p)) = true ∧ ap = true)) ∨ (ch (fr + p) = 40 ∧ o + 1 = 8))
        · rw [if_pos h5] at h
          omega
        · rw [if_neg h5] at h
          rw [if_neg (by
            rintro (k | k | k)
            · cases k
            · exact h5 (Or.inr (Or.inl k))
            · omega)]
          by_cases h6 : ch (fr + p) = 40
          · rw [if_pos h6] at h ⊢
            rw [show fr + p + 1 = fr + (p + 1) from by omega] at h
            exact n_rp_sh hfr hs n (p + 1) (o + 1) true (by omega) ⟨by omega, by omega⟩ h
          · rw [if_neg h6] at h ⊢
            rw [if_pos (by omega)] at h ⊢
            have ea := n_ae_sh hs hp
            have hb : n_one (ch (fr + p)) = true := by
              apply n_one_beg
              apply Classical.byContradiction
              intro hc
              exact h5 (Or.inr (Or.inl ⟨h6, fun k => hc k.1⟩))
            have := (n_ae_in hb).1
            refine n_rp_sh hfr hs n _ o false (by omega) ho ?_
            rw [ea, show fr + (n_atomEnd ch (fr + p) - fr) = n_atomEnd ch (fr + p) from by omega]
            exact h
/-- characters of one atom are passed -/
theorem n_4th_pass {cN : Nat → Int} {depth cnt : Int} (hcnt : cnt < 4) : ∀ (j q : Nat) (k : Int), j ≤ q → 0 ≤ k → (∀ i : Int, k ≤ i → i < k + j → n_one (cN i.toNat) = true) → n_4th cN q k cnt depth (decide (depth = 1)) = n_4th cN (q - j) (k + j) cnt depth (decide (depth = 1))
  | 0, q, k, _, _, _ => by
    rw [show q - 0 = q from rfl, show k + ((0 : Nat) : Int) = k from by omega]
  | j + 1, 0, k, hj, _, _ => by omega
  | j + 1, q + 1, k, hj, hk, h => by
    have h1 := h k (Int.le_refl _) (by omega)
    have hb : n_bgn (cN k.toNat) depth (decide (depth = 1)) = false := by
      unfold n_bgn
      refine decide_eq_false ?_
      rintro ⟨h2, h3 | h3⟩
      · unfold n_one at h1
        have := of_decide_eq_true h1
        omega
      · rw [decide_eq_true h2] at h3
        exact absurd h3.2 (by decide)
    have hd : (if cN k.toNat = 40 then (1 : Int) else if cN k.toNat = 41 then -1 else 0) = 0 := by
      unfold n_one at h1
      have := of_decide_eq_true h1
      rw [if_neg this.2.1, if_neg this.2.2]
    have e : n_4th cN (q + 1) k cnt depth (decide (depth = 1)) = n_4th cN q (k + 1) cnt depth (decide (depth = 1)) := by
      rw [n_4th, hb, if_neg (by rw [if_neg (by decide)]; omega), if_neg (by decide), hd, h1, Int.add_zero, Bool.true_and]
    rw [e, n_4th_pass hcnt j q (k + 1) (by omega) (by omega) (fun i h1 h2 => h i (by omega) (by omega)), show q + 1 - (j + 1) = q - j from by omega, show k + 1 + (j : Int) = k + ((j + 1 : Nat) : Int) from by omega]
/-- a list's fourth form begins where reading stands, one list deep -/
theorem n_4th_at {cN : Nat → Int} {len : Int} (h0 : ∀ k, len ≤ k → ch k = 0) (hc : ∀ k, 0 ≤ k → k < len → ch k = cN k.toNat ∧ ¬ ch k = 0) : ∀ (n : Nat) (p o cnt : Int) (ap wh : Bool) (q : Nat), 0 ≤ p → p + q = len → cnt < 4 → (wh = true → o = 0) → 0 ≤ o → n_rp ch false n p o ap wh = -1 → n_4th cN q p cnt o (!ap && decide (o = 1)) = 0 ∨ (0 ≤ n_4th cN q p cnt o (!ap && decide (o = 1)) ∧ n_4th cN q p cnt o (!ap && decide (o = 1)) < len ∧ (ch (n_4th cN q p cnt o (!ap && decide (o = 1))) = 40 ∨ n_one (ch (n_4th cN q p cnt o (!ap && decide (o = 1)))) = true) ∧ ∃ (n' : Nat) (ap' : Bool), n' ≤ n ∧ n_rp ch false n' (n_4th cN q p cnt o (!ap && decide (o = 1))) 1 ap' false = -1)
  | 0, p, o, cnt, ap, wh, q, _, _, _, _, _, h => absurd (show (-2 : Int) = -1 from h) (by decide)
  | n + 1, p, o, cnt, ap, wh, 0, hp, hq, hcnt, hw, ho, h => Or.inl rfl
  | n + 1, p, o, cnt, ap, wh, q + 1, hp, hq, hcnt, hw, ho, h => by
    obtain ⟨c1, c2⟩ := hc p hp (by omega)
    have hrun := h
    rw [n_rp, if_neg (fun k => absurd k.2 (by decide))] at h
    rw [n_4th]
    by_cases h1 : ch p = 32
    · rw [if_pos h1] at h
      have hb : n_bgn (cN p.toNat) o (!ap && decide (o = 1)) = false := by
        unfold n_bgn n_one
        refine decide_eq_false ?_
        rw [← c1, h1]
        rintro ⟨-, h3 | h3⟩
        · omega
        · exact absurd (of_decide_eq_true h3.1).1 (by decide)
      have hn1 : n_one (cN p.toNat) = false := by rw [← c1, h1]; decide
      have := n_4th_at h0 hc n (p + 1) o cnt true wh q (by omega) (by omega) hcnt hw ho h
      rw [hb, if_neg (by rw [if_neg (by decide)]; omega), if_neg (by decide), ← c1, h1, if_neg (by decide), if_neg (by decide), Int.add_zero, show n_one 32 = false from by decide, Bool.false_and]
      rw [show (!true && decide (o = 1)) = false from rfl] at this
      rcases this with this | ⟨t1, t2, t3, n', ap', t4, t5⟩
      · exact Or.inl this
      · exact Or.inr ⟨t1, t2, t3, n', ap', by omega, t5⟩
    · rw [if_neg h1, if_neg (fun k => c2 k.1)] at h
      by_cases h3 : ch p = 41 ∧ 0 < o
      · rw [if_pos h3] at h
        have hb : n_bgn (cN p.toNat) o (!ap && decide (o = 1)) = false := by
          unfold n_bgn n_one
          refine decide_eq_false ?_
          rw [← c1, h3.1]
          rintro ⟨-, h4 | h4⟩
          · omega
          · exact absurd (of_decide_eq_true h4.1).2.2 (by decide)
        have := n_4th_at h0 hc n (p + 1) (o - 1) cnt true (decide (o - 1 = 0)) q (by omega) (by omega) hcnt (fun k => of_decide_eq_true k) (by omega) h
        rw [hb, if_neg (by rw [if_neg (by decide)]; omega), if_neg (by decide), ← c1, h3.1, if_neg (by decide), if_pos rfl, show n_one 41 = false from by decide, Bool.false_and, show o + -1 = o - 1 from by omega]
        rw [show (!true && decide (o - 1 = 1)) = false from rfl] at this
        rcases this with this | ⟨t1, t2, t3, n', ap', t4, t5⟩
        · exact Or.inl this
        · exact Or.inr ⟨t1, t2, t3, n', ap', by omega, t5⟩
      · rw [if_neg h3] at h
        by_cases h5 : (wh = true ∨ (¬ ch p = 40 ∧ ¬ (c_beg (ch p) = true ∧ ap = true)) ∨ (ch p = 40 ∧ o = 8))
        · rw [if_pos h5] at h
          omega
        · rw [if_neg h5] at h
          have hwf : wh = false := by
            cases hwq : wh
            · rfl
            · exact absurd (Or.inl hwq) h5
          by_cases h4 : (if n_bgn (cN p.toNat) o (!ap && decide (o = 1)) = true then cnt + 1 else cnt) = 4
          · rw [if_pos h4]
            have hbt : n_bgn (cN p.toNat) o (!ap && decide (o = 1)) = true := by
              apply Classical.byContradiction
              intro hcn
              rw [if_neg hcn] at h4
              omega
            unfold n_bgn at hbt
            obtain ⟨b1, b2⟩ := of_decide_eq_true hbt
            rw [← c1] at b2
            refine Or.inr ⟨hp, by omega, ?_, n + 1, ap, Nat.le_refl _, ?_⟩
            · rcases b2 with b2 | b2
              · exact Or.inl b2
              · exact Or.inr b2.1
            · rw [hwf, b1] at hrun
              exact hrun
          · rw [if_neg h4]
            have hcnt2 : (if n_bgn (cN p.toNat) o (!ap && decide (o = 1)) = true then cnt + 1 else cnt) < 4 := by
              split at h4 <;> rename_i hq2
              · rw [if_pos hq2]; omega
              · rw [if_neg hq2]; omega
            generalize (if n_bgn (cN p.toNat) o (!ap && decide (o = 1)) = true then cnt + 1 else cnt) = cnt' at hcnt2 ⊢
            by_cases h6 : ch p = 40
            · rw [if_pos h6] at h
              have := n_4th_at h0 hc n (p + 1) (o + 1) cnt' true wh q (by omega) (by omega) hcnt2 (fun k => by rw [hwf] at k; cases k) (by omega) h
              rw [← c1, h6, if_pos rfl, show n_one 40 = false from by decide, Bool.false_and]
              rw [show (!true && decide (o + 1 = 1)) = false from rfl] at this
              rcases this with this | ⟨t1, t2, t3, n', ap', t4, t5⟩
              · exact Or.inl this
              · exact Or.inr ⟨t1, t2, t3, n', ap', by omega, t5⟩
            · rw [if_neg h6] at h
              have hb : n_one (ch p) = true := by
                apply n_one_beg
                apply Classical.byContradiction
                intro hcn
                exact h5 (Or.inr (Or.inl ⟨h6, fun k => hcn k.1⟩))
              obtain ⟨a1, a2⟩ := n_ae_in hb
              have a3 := (n_atomEnd_b h0 c2).2
              have hoo : n_one (cN p.toNat) = true := by rw [← c1]; exact hb
              have h41 : ¬ ch p = 41 := by
                unfold n_one at hb
                exact (of_decide_eq_true hb).2.2
              rw [← c1, if_neg h6, if_neg h41, Int.add_zero, hb, Bool.true_and]
              rw [n_4th_pass hcnt2 (n_atomEnd ch p - (p + 1)).toNat q (p + 1) (by omega) (by omega) (fun i i1 i2 => by
                rw [← (hc i (by omega) (by omega)).1]
                exact a2 i (by omega) (by omega)), show p + 1 + (((n_atomEnd ch p - (p + 1)).toNat : Nat) : Int) = n_atomEnd ch p from by omega]
              have := n_4th_at h0 hc n (n_atomEnd ch p) o cnt' false (if 0 < o then wh else true) (q - (n_atomEnd ch p - (p + 1)).toNat) (by omega) (by omega) hcnt2 (fun k => by
                by_cases ho2 : 0 < o
                · rw [if_pos ho2, hwf] at k
                  cases k
                · omega) ho h
              rw [show (!false && decide (o = 1)) = decide (o = 1) from by simp] at this
              rcases this with this | ⟨t1, t2, t3, n', ap', t4, t5⟩
              · exact Or.inl this
              · exact Or.inr ⟨t1, t2, t3, n', ap', by omega, t5⟩
end N48
end
section
/-! A MACRO IS KEPT: its text reads well; bytes are kept -/
section N49
variable {ch ch' : Int → Int} {fr : Int}
theorem n_ae_ge {p : Int} : p ≤ n_atomEnd ch p := by
  unfold n_atomEnd n_symEnd
  split
  · split
    · have := n_nd_ge (ch := ch) 4 (p + 1)
      omega
    · exact n_nd_ge 4 p
  · split
    · have := n_nl_ge (ch := ch) 3 (p + 1)
      omega
    · omega
theorem n_rp_cg {mac : Bool} (hs : ∀ k, 0 ≤ k → ch' k = ch k) : ∀ (n : Nat) (p o : Int) (ap wh : Bool), 0 ≤ p → n_rp ch' mac n p o ap wh = n_rp ch mac n p o ap wh
  | 0, p, o, ap, wh, _ => rfl
  | n + 1, p, o, ap, wh, hp => by
    have hs0 : ∀ k, 0 ≤ k → ch' k = ch (0 + k) := fun k hk => by rw [hs k hk, Int.zero_add]
    have ea := n_ae_sh hs0 hp
    rw [Int.zero_add, Int.sub_zero] at ea
    have hg := n_ae_ge (ch := ch) (p := p)
    rw [n_rp, n_rp, hs p hp, n_rp_cg hs n (p + 1) o true wh (by omega), n_rp_cg hs n (p + 1) (o - 1) true (decide (o - 1 = 0)) (by omega), n_rp_cg hs n (p + 1) (o + 1) true wh (by omega), ea, n_rp_cg hs n (n_atomEnd ch p) o false (if 0 < o then wh else true) (by omega)]
/-- a macro's text, read from where its body begins -/
theorem n_kept_rd {cN : Nat → Int} {len : Int} (hl : 0 ≤ len) (h0 : ∀ k, len ≤ k → ch k = 0) (hc : ∀ k, 0 ≤ k → k < len → ch k = cN k.toNat ∧ ¬ ch k = 0) (hr : n_rp ch false 200 0 0 true false = -1) (hfr : fr = n_4th cN len.toNat 0 0 0 false) (hs : ∀ k, 0 ≤ k → ch' k = ch (fr + k)) : (0 ≤ fr ∧ fr ≤ len) ∧ n_rp ch' true 200 0 0 true false = -1 := by
  have := n_4th_at h0 hc 200 0 0 0 true false len.toNat (Int.le_refl _) (by omega) (by decide) (fun k => by cases k) (Int.le_refl _) hr
  rw [show (!true && decide ((0 : Int) = 1)) = false from rfl, ← hfr] at this
  rcases this with this | ⟨t1, t2, t3, n', ap', t4, t5⟩
  · refine ⟨⟨by omega, by omega⟩, ?_⟩
    rw [n_rp_cg (ch := ch) (fun k hk => by rw [hs k hk, this, Int.zero_add]) 200 0 0 true false (Int.le_refl _)]
    exact n_rp_mac _ _ _ _ _ hr
  · refine ⟨⟨t1, by omega⟩, n_rp_up (n := n') t4 ?_⟩
    have c2 := (hc fr t1 t2).2
    obtain _ | n := n'
    · exact absurd (show (-2 : Int) = -1 from t5) (by decide)
    have e0 : ch' 0 = ch fr := by rw [hs 0 (Int.le_refl _), Int.add_zero]
    have h32 : ¬ ch fr = 32 := by
      rcases t3 with t3 | t3
      · omega
      · unfold n_one at t3
        exact (of_decide_eq_true t3).1
    have h41 : ¬ ch fr = 41 := by
      rcases t3 with t3 | t3
      · omega
      · unfold n_one at t3
        exact (of_decide_eq_true t3).2.2
    rw [n_rp, if_neg (by decide), if_neg h32, if_neg (fun k => c2 k.1), if_neg (fun k => h41 k.1)] at t5
    rw [n_rp, if_neg (by decide), e0, if_neg h32, if_neg (fun k => c2 k.1), if_neg (fun k => h41 k.1)]
    by_cases h5 : (false = true ∨ (¬ ch fr = 40 ∧ ¬ (c_beg (ch fr) = true ∧ ap' = true)) ∨ (ch fr = 40 ∧ (1 : Int) = 8))
    · rw [if_pos h5] at t5
      omega
    · rw [if_neg h5] at t5
      rw [if_neg (by
        rintro (k | k | k)
        · cases k
        · refine h5 (Or.inr (Or.inl ⟨k.1, fun q => k.2 ⟨q.1, rfl⟩⟩))
        · exact absurd k.2 (by decide))]
      by_cases h6 : ch fr = 40
      · rw [if_pos h6] at t5 ⊢
        exact n_rp_sh t1 hs n 1 1 true (by decide) ⟨by decide, by decide⟩ t5
      · rw [if_neg h6] at t5 ⊢
        obtain _ | n := n
        · exact absurd (show (-2 : Int) = -1 from t5) (by decide)
        · rw [if_neg (by decide), n_rp, if_pos ⟨rfl, rfl⟩]
end N49
theorem n_c_id : ∀ c : Nat, c < 128 → n_c (c : Int) = (c : Int) := by decide +kernel
theorem n_b_op : ∀ c : Nat, c < 128 → n_b (c : Int) = (c : Int) := by decide +kernel
theorem n_b_id {x : Int} (h : 0 ≤ x ∧ x < 128) : n_b x = x := by
  have := n_b_op x.toNat (by omega)
  rw [show ((x.toNat : Nat) : Int) = x from by omega] at this
  exact this
theorem n_b_eq (x : Int) : n_b x = (x.bmod 4294967296).bmod 256 := by
  show ((Int32.ofInt x).toInt8.toInt32).toInt = _
  rw [Int8.toInt_toInt32, Int32.toInt_toInt8, Int32.toInt_ofInt]
theorem n_b_mod (x : Int) : n_b x % 256 = x % 256 := by
  rw [n_b_eq, Int.bmod_def, Int.bmod_def]
  split <;> split <;> omega
theorem n_by_mod (x : Int) : n_by x % 256 = x % 256 := by
  unfold n_by
  rw [n_b_mod]
  have : n_i2b x = n_b x := rfl
  rw [this, n_b_mod]
end
section
/-! THE REFERENCE BETWEEN TWO CALLS -/
def n_UV (s : nS) (u : Nat) (D : Nat → Int) (z : Nat) : Prop :=
  n_BC (fun j => s.2 31 (200 * u + j)) z D (fun _ => False) (fun q => ∃ j : Nat, (j : Int) < s.2 32 u ∧ s.2 33 (50 * u + j) = (q : Int)) ∧
  (∀ j : Nat, (j : Int) < s.2 32 u → ∃ p : Nat, s.2 33 (50 * u + j) = (p : Int) + 1 ∧ p + 4 ≤ z ∧ 0 ≤ D p ∧ s.2 31 (200 * u + p) = 12) ∧
  D 0 = s.2 29 u ∧ D z = s.2 29 u + 1 ∧
  ((s.2 27 u = 0 ∧ s.2 31 (200 * u + z) = 14 ∧ s.2 30 u = (z : Int) + 1) ∨ (s.2 27 u = 1 ∧ s.2 31 (200 * u + z) = 13 ∧ s.2 30 u = (z : Int) + 2)) ∧ s.2 30 u ≤ 200 ∧ (0 ≤ s.2 32 u ∧ s.2 32 u ≤ 50)
def n_rdK (s : nS) (u : Nat) : Int := n_rp (n_at1 s u) true 200 0 0 true false
def n_U1 (s : nS) (u : Nat) : Prop := (0 ≤ s.2 29 u ∧ s.2 29 u ≤ 4) ∧ (s.2 27 u = 2 → (s.2 30 u = 0 ∧ s.2 32 u = 0) ∧ (0 ≤ s.2 37 u ∧ s.2 37 u ≤ 120) ∧ n_rdK s u = -1) ∧ (¬ s.2 27 u = 2 → ∃ D z, n_UV s u D z) ∧ (s.2 27 u = 0 → s.2 29 u = 0)
def n_UI (s : nS) : Prop := (0 ≤ s.1 2 ∧ s.1 2 ≤ 16) ∧ (∀ i, (n_rng (s.2 27 i) ∧ n_rng (s.2 28 i)) ∧ n_rng (s.2 29 i) ∧ n_rng (s.2 34 i) ∧ n_rng (s.2 35 i)) ∧ (∀ u : Nat, (u : Int) < s.1 2 → n_U1 s u)
def n_TT (s : nS) : Prop := (0 ≤ s.1 1 ∧ s.1 1 ≤ 120) ∧ (∀ i, 0 ≤ s.2 26 i ∧ s.2 26 i < 128) ∧ (∀ i : Nat, (i : Int) < s.1 1 → 31 < s.2 26 i) ∧ (∀ i, 0 ≤ s.2 36 i ∧ s.2 36 i < 128)
def n_XI (s : nS) : Prop := (∀ i, n_rng (s.2 52 i)) ∧ ∃ D K, n_IV s D K ∧ n_RS s D K
def n_MI (s : nS) : Prop := n_TT s ∧ n_UI s ∧ n_XI s
section N50
variable {s t : nS} {D : Nat → Int} {z u : Nat} {w nm n fr : Int}
theorem n_at1_m {m k : Int} (h : 0 ≤ m) : n_at1 s m k = if k < s.2 37 m.toNat then s.2 36 (120 * m + k).toNat else 0 := by
  unfold n_at1
  rw [if_neg (show ¬ m < 0 by omega)]
theorem n_UV_fr (h : n_UV s u D z) (e : ∀ a i, 27 ≤ a ∧ a ≤ 37 → t.2 a i = s.2 a i) : n_UV t u D z := by
  have e1 : ∀ a, 27 ≤ a ∧ a ≤ 37 → t.2 a = s.2 a := fun a ha => funext (fun i => e a i ha)
  unfold n_UV at *
  rw [e1 27 (by decide), e1 29 (by decide), e1 30 (by decide), e1 31 (by decide), e1 32 (by decide), e1 33 (by decide)]
  exact h
theorem n_U1_fr (h : n_U1 s u) (e : ∀ a i, 27 ≤ a ∧ a ≤ 37 → t.2 a i = s.2 a i) : n_U1 t u := by
  obtain ⟨h1, h2, h3, h4⟩ := h
  have e1 : ∀ a, 27 ≤ a ∧ a ≤ 37 → t.2 a = s.2 a := fun a ha => funext (fun i => e a i ha)
  have ea : n_at1 t u = n_at1 s u := by
    funext k
    rw [n_at1_m (by omega), n_at1_m (by omega), e1 37 (by decide), e1 36 (by decide)]
  refine ⟨?_, ?_, ?_, ?_⟩
  · rw [e1 29 (by decide)]; exact h1
  · unfold n_rdK at *
    rw [ea, e1 27 (by decide), e1 30 (by decide), e1 32 (by decide), e1 37 (by decide)]
    exact h2
  · rw [e1 27 (by decide)]
    intro hn
    obtain ⟨D, z, hD⟩ := h3 hn
    exact ⟨D, z, n_UV_fr hD e⟩
  · rw [e1 27 (by decide), e1 29 (by decide)]; exact h4
theorem n_UI_fr (h : n_UI s) (e2 : t.1 2 = s.1 2) (e : ∀ a i, 27 ≤ a ∧ a ≤ 37 → t.2 a i = s.2 a i) : n_UI t := by
  obtain ⟨h1, h2, h3⟩ := h
  refine ⟨by rw [e2]; exact h1, fun i => ?_, fun u hu => n_U1_fr (h3 u (by rw [← e2]; exact hu)) e⟩
  rw [e 27 i (by decide), e 28 i (by decide), e 29 i (by decide), e 34 i (by decide), e 35 i (by decide)]
  exact h2 i
theorem n_RS_fr {K : Nat → Bool} (h : n_RS s D K) (e1 : ∀ k, 46 ≤ k ∧ k ≤ 53 → t.1 k = s.1 k) (e2 : ∀ a i, 54 ≤ a ∧ a ≤ 57 → t.2 a i = s.2 a i) : n_RS t D K := by
  have e3 : ∀ a, 54 ≤ a ∧ a ≤ 57 → t.2 a = s.2 a := fun a ha => funext (fun i => e2 a i ha)
  unfold n_RS n_RR n_CF at *
  rw [e1 46 (by decide), e1 48 (by decide), e1 49 (by decide), e1 50 (by decide), e1 51 (by decide), e1 52 (by decide), e3 55 (by decide), e3 56 (by decide), e3 57 (by decide)]
  exact h
theorem n_XI_fr (h : n_XI s) (e1 : ∀ k, 46 ≤ k ∧ k ≤ 53 → t.1 k = s.1 k) (e2 : ∀ a i, 54 ≤ a ∧ a ≤ 57 → t.2 a i = s.2 a i) (e5 : ∀ i, n_rng (t.2 52 i)) : n_XI t := by
  obtain ⟨h1, D, K, h2, h3⟩ := h
  exact ⟨e5, D, K, n_IV_fr h2 (e1 46 (by decide)) (fun i => e2 54 i (by decide)), n_RS_fr h3 e1 e2⟩
/-- what a compile may touch, units aside -/
def n_ce (s t : nS) : Prop := (∀ k, ¬ (k = 0 ∨ k = 1 ∨ k = 3 ∨ k = 17 ∨ k = 18 ∨ (23 ≤ k ∧ k ≤ 25) ∨ (28 ≤ k ∧ k ≤ 34)) → t.1 k = s.1 k) ∧ (∀ a i, ¬ (38 ≤ a ∧ a ≤ 51) → t.2 a i = s.2 a i)
theorem n_ce_tr {a b c : nS} (h : n_ce a b) (g : n_ce b c) : n_ce a c := ⟨fun k hk => by rw [g.1 k hk, h.1 k hk], fun x i hx => by rw [g.2 x i hx, h.2 x i hx]⟩
theorem n_ce_bf {b : nS} (h : n_bf s b) : n_ce s b := ⟨fun k hk => h.1 k (by omega), h.2⟩
theorem n_ce_fr {b : nS} (h : n_fr s b) : n_ce s b := ⟨fun k hk => h.1 k (by omega), fun a i ha => h.2 a i (by omega)⟩
theorem n_ce_u {k : Nat} {x : Int} (hk : k = 0 ∨ k = 1 ∨ k = 3 ∨ k = 17 ∨ k = 18 ∨ (23 ≤ k ∧ k ≤ 25) ∨ (28 ≤ k ∧ k ≤ 34)) : n_ce s (n_upd s.1 k x, s.2) := ⟨fun j hj => n_u_ne (fun h => hj (by rw [h]; exact hk)), fun _ _ _ => rfl⟩
theorem n_MI_ce (h : n_MI s) (hc : n_ce s t) (h1 : t.1 1 = 0) : n_MI t := by
  obtain ⟨⟨a1, a2, a3, a4⟩, b1, c1⟩ := h
  refine ⟨⟨by rw [h1]; decide, fun i => ?_, fun i hi => ?_, fun i => ?_⟩, n_UI_fr b1 (hc.1 2 (by decide)) (fun a i ha => hc.2 a i (by omega)), n_XI_fr c1 (fun k hk => hc.1 k (by omega)) (fun a i ha => hc.2 a i (by omega)) (fun i => ?_)⟩
  · rw [hc.2 26 i (by decide)]; exact a2 i
  · rw [h1] at hi; omega
  · rw [hc.2 36 i (by decide)]; exact a4 i
  · rw [hc.2 52 i (by decide)]; exact c1.1 i
theorem n_MI_MU (h : n_MI s) (hc : n_ce s t) (h1 : t.1 1 = s.1 1) : n_MU t := by
  obtain ⟨⟨a1, a2, a3, a4⟩, ⟨b1, b2, b3⟩, c1⟩ := h
  have e2 := hc.1 2 (by decide)
  refine ⟨by rw [e2]; exact b1, fun i => ?_, fun i => ?_, fun m m1 m2 m3 => ?_⟩
  · rw [hc.2 27 i (by decide), hc.2 28 i (by decide)]
    exact (b2 i).1
  · rw [hc.2 35 i (by decide)]
    exact (b2 i).2.2.2
  · rw [hc.2 27 _ (by decide)] at m3
    obtain ⟨u1, u2, -, -⟩ := b3 m.toNat (by omega)
    obtain ⟨-, u3, u4⟩ := u2 m3
    rw [hc.2 29 _ (by decide)]
    refine ⟨u1, ⟨by rw [h1]; exact a1, ⟨by omega, by omega⟩, fun _ => by rw [hc.2 37 _ (by decide)]; exact u3, fun i => by rw [hc.2 26 i (by decide)]; exact a2 i, fun i => by rw [hc.2 36 i (by decide)]; exact a4 i⟩, ?_⟩
    unfold n_rdK at u4
    unfold n_read
    rw [decide_eq_true m1, ← u4]
    have ea : n_at1 t m = n_at1 s m.toNat := by
      funext k
      rw [n_at1_m m1, n_at1_m (by omega), hc.2 37 _ (by decide), hc.2 36 _ (by decide), show ((m.toNat : Nat) : Int) = m from by omega]
    rw [ea]
/-- kept code is as good -/
theorem n_cv_b {c c' : Nat → Int} {Q M M' : Nat → Prop} {p z : Nat} (h : n_cv c z D Q M p) (hc : ∀ j, j < z → c' j = n_b (c j)) (hM : ∀ q, M q → M' q) : n_cv c' z D Q M' p := by
  have ht : ∀ q, q + 1 < z → n_tg c' q = n_tg c q := fun q hq => by
    unfold n_tg
    rw [hc q (by omega), hc (q + 1) hq, n_b_mod, n_b_mod]
  unfold n_cv at *
  rcases h with h | h | h | h | h | h | h | h | h
  · left
    rw [hc p (by omega), n_b_id (by omega)]
    exact h
  · right; left
    rw [hc p (by omega), hc (p + 1) (by omega), n_b_id (by omega), n_b_mod]
    exact h
  · right; right; left
    rw [hc p (by omega), n_b_id (by omega)]
    exact h
  · right; right; right; left
    rw [hc p (by omega), ht (p + 1) (by omega), n_b_id (by omega)]
    exact h
  · right; right; right; right; left
    rw [hc p (by omega), ht (p + 1) (by omega), n_b_id (by omega)]
    exact h
  · right; right; right; right; right; left
    rw [hc p (by omega), n_b_id (by omega)]
    exact h
  · right; right; right; right; right; right; left
    rw [hc p (by omega), n_b_id (by omega)]
    exact h
  · right; right; right; right; right; right; right; left
    rw [hc p (by omega), hc (p + 1) (by omega), n_b_id (by omega), n_b_mod]
    exact h
  · right; right; right; right; right; right; right; right
    rw [hc p (by omega), hc (p + 3) (by omega), n_b_id (by omega), n_b_mod]
    exact ⟨h.1, h.2.1, h.2.2.1, h.2.2.2.1, h.2.2.2.2.1, h.2.2.2.2.2.1, h.2.2.2.2.2.2.1, hM _ h.2.2.2.2.2.2.2⟩
end N50
end
