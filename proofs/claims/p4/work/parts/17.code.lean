-- LispForge$Form.part (I)LLispForge$Form;
def bq45_0 : List (Nat × List Instr) := [(0, [.aload 0, .invokeinterface 3 3, .astore 2, .sipush (0), .istore 3, .goto_w 7]),
  (7, [.iload 3, .iload 1, .if_icmp .ge 27, .aload 2, .ifnull 27, .aload 2, .invokeinterface 3 5, .astore 2, .iinc 3 (1), .goto 7]),
  (27, [.aload 2, .areturn])]
def hq45_0 : List (List (List Nat)) := [[[], [445], [], [], [], []],
  [[], [], [], [], [], [], [449], [], [], []],
  [[], []]]
set_option maxRecDepth 100000 in
theorem cq45_0 : mm_chkM 45 bq45_0 hq45_0 = true := by decide +kernel
-- LispForge$Compiler.definitionOf (LLispForge$Form;I)LLispForge$Unit;
def bq46_0 : List (Nat × List Instr) := [(0, [.aload 1, .sipush (1), .invokevirtual 45, .astore 3, .aload 1, .sipush (2), .invokevirtual 45, .astore 4, .aload 1, .sipush (3), .invokevirtual 45, .astore 5, .aload 1, .invokeinterface 3 2, .sipush (4), .if_icmp .ne 42, .aload 3, .ifnull 42, .aload 4, .ifnull 42, .aload 5, .ifnonnull 52, .goto_w 42]),
  (42, [.checkcast 1]),
  (52, [.aload 3, .invokevirtual 34, .ifCond .eq 69, .aload 3, .invokeinterface 3 1, .invokestatic 47, .ifCond .eq 79, .goto_w 69]),
  (69, [.checkcast 1]),
  (79, [.aload 4, .invokestatic 48, .ifCond .ne 97, .checkcast 1])]
def hq46_0 : List (List (List Nat)) := [[[], [], [559, 560, 561, 88, 562], [], [], [], [559, 560, 561, 88, 562], [], [], [], [559, 560, 561, 88, 562], [], [], [443], [], [], [], [], [], [], [], [], []],
  [[568, 577]],
  [[], [584, 422, 423, 88, 424], [], [], [441], [585, 586, 84, 587], [], []],
  [[568, 592]],
  [[], [593, 594, 84, 595], [], [568, 599]]]
set_option maxRecDepth 100000 in
theorem cq46_0 : mm_chkM 46 bq46_0 hq46_0 = true := by decide +kernel
def bq46_1 : List (Nat × List Instr) := [(97, [.new 9, .dup, .iload 2, .aload 3, .invokeinterface 3 1, .aload 4, .invokestatic 50, .aload 5, .invokevirtual 51, .areturn])]
def hq46_1 : List (List (List Nat)) := [[[600, 601, 94], [], [], [], [441], [], [602, 603, 84, 604], [], [606, 607, 94, 608], []]]
set_option maxRecDepth 100000 in
theorem cq46_1 : mm_chkM 46 bq46_1 hq46_1 = true := by decide +kernel
-- LispForge$Compiler.isWord (I)Z
def bq47_0 : List (Nat × List Instr) := [(0, [.iload 0, .sipush (6579558), .if_icmp .eq 44, .iload 0, .sipush (7168355), .if_icmp .eq 44, .iload 0, .sipush (26982), .if_icmp .eq 44, .iload 0, .sipush (7103860), .if_icmp .eq 44, .iload 0, .sipush (25711), .if_icmp .eq 44, .iload 0, .sipush (7562612), .if_icmp .eq 44, .iload 0, .sipush (7501166), .if_icmp .ne 48, .goto_w 44]),
  (44, [.sipush (1), .goto 49]),
  (48, [.sipush (0), .goto_w 49]),
  (49, [.freturn])]
def hq47_0 : List (List (List Nat)) := [[[], [563], [], [], [588], [], [], [], [], [], [589], [], [], [], [], [], [590], [], [], [591], [], []],
  [[], []],
  [[], []],
  [[]]]
set_option maxRecDepth 100000 in
theorem cq47_0 : mm_chkM 47 bq47_0 hq47_0 = true := by decide +kernel
-- LispForge$Compiler.areParameters (LLispForge$Form;)Z
def bq48_0 : List (Nat × List Instr) := [(0, [.aload 0, .invokeinterface 3 0, .sipush (2), .if_icmp .ne 16, .aload 0, .invokeinterface 3 2, .sipush (4), .if_icmp .le 18, .goto_w 16]),
  (16, [.sipush (0), .freturn]),
  (18, [.aload 0, .invokeinterface 3 3, .astore 1, .goto_w 23]),
  (23, [.aload 1, .ifnull 51, .aload 1, .invokevirtual 34, .ifCond .eq 41, .aload 1, .invokestatic 49, .ifCond .eq 43, .goto_w 41]),
  (41, [.sipush (0), .freturn]),
  (43, [.aload 1, .invokeinterface 3 5, .astore 1, .goto 23]),
  (51, [.sipush (1), .freturn])]
def hq48_0 : List (List (List Nat)) := [[[], [438], [], [], [], [443], [], [], []],
  [[], []],
  [[], [446], [], []],
  [[], [], [], [584, 422, 423, 88, 424], [], [], [596, 597, 84, 598], [], []],
  [[], []],
  [[], [450], [], []],
  [[], []]]
set_option maxRecDepth 100000 in
theorem cq48_0 : mm_chkM 48 bq48_0 hq48_0 = true := by decide +kernel
-- LispForge$Compiler.isRepeatedBehind (LLispForge$Form;)Z
def bq49_0 : List (Nat × List Instr) := [(0, [.aload 0, .invokeinterface 3 5, .astore 1, .goto_w 5]),
  (5, [.aload 1, .ifnull 38, .aload 1, .invokeinterface 3 0, .sipush (1), .if_icmp .ne 30, .aload 1, .invokeinterface 3 1, .aload 0, .invokeinterface 3 1, .if_icmp .ne 30, .sipush (1), .freturn]),
  (30, [.aload 1, .invokeinterface 3 5, .astore 1, .goto 5]),
  (38, [.sipush (0), .freturn])]
def hq49_0 : List (List (List Nat)) := [[[], [450], [], []],
  [[], [], [], [438], [], [], [], [441], [], [441], [], [], []],
  [[], [450], [], []],
  [[], []]]
set_option maxRecDepth 100000 in
theorem cq49_0 : mm_chkM 49 bq49_0 hq49_0 = true := by decide +kernel
-- LispForge$Compiler.symbolsOf (LLispForge$Form;)[I
def bq50_0 : List (Nat × List Instr) := [(0, [.aload 0, .invokeinterface 3 2, .sipush (0), .fadd, .newarray .int, .astore 1, .aload 0, .invokeinterface 3 3, .astore 2, .sipush (0), .istore 3, .goto_w 18]),
  (18, [.iload 3, .aload 1, .arraylength, .if_icmp .ge 46, .aload 2, .ifnull 46, .aload 1, .iload 3, .aload 2, .invokeinterface 3 1, .iastore, .aload 2, .invokeinterface 3 5, .astore 2, .iinc 3 (1), .goto 18]),
  (46, [.aload 1, .areturn])]
def hq50_0 : List (List (List Nat)) := [[[], [443], [], [605, 114, 81, 115], [127], [], [], [446], [], [], [], []],
  [[], [], [], [], [], [], [], [], [], [441], [], [], [450], [], [], []],
  [[], []]]
set_option maxRecDepth 100000 in
theorem cq50_0 : mm_chkM 50 bq50_0 hq50_0 = true := by decide +kernel
-- LispForge$Unit.<init> (II[ILLispForge$Form;)V
def bq51_0 : List (Nat × List Instr) := [(0, [.aload 0, .invokespecial 0, .aload 0, .new 1, .dup, .sipush (0), .invokevirtual 1, .multianewarray 9 4, .aload 0, .new 1, .dup, .sipush (0), .invokevirtual 1, .multianewarray 9 5, .aload 0, .sipush (0), .newarray .int, .multianewarray 9 6, .aload 0, .sipush (0), .newarray .int, .multianewarray 9 7, .aload 0, .iload 1, .multianewarray 9 0, .aload 0, .iload 2, .multianewarray 9 1, .aload 0, .aload 3, .multianewarray 9 2, .aload 0, .aload 4, .multianewarray 9 3, .return_])]
def hq51_0 : List (List (List Nat)) := [[[], [609, 105, 106], [], [610, 108, 80], [], [], [611, 110, 80, 111], [625], [], [610, 108, 80], [], [], [611, 110, 80, 111], [628], [], [], [127], [631], [], [], [127], [634], [], [], [612], [], [], [616], [], [], [619], [], [], [623], []]]
set_option maxRecDepth 100000 in
theorem cq51_0 : mm_chkM 51 bq51_0 hq51_0 = true := by decide +kernel
-- LispForge$Compiler.complete (LLispForge$Unit;)V
def bq52_0 : List (Nat × List Instr) := [(0, [.aload 1, .invokeinterface 9 2, .arraylength, .istore 2, .aload 0, .invokeinterface 2 1, .invokevirtual 43, .aload 0, .sipush (0), .multianewarray 2 5, .aload 0, .sipush (0), .multianewarray 2 8, .aload 0, .sipush (0), .multianewarray 2 9, .sipush (0), .istore 3, .goto_w 30]),
  (30, [.iload 3, .iload 2, .if_icmp .ge 52, .aload 0, .aload 1, .invokeinterface 9 2, .iload 3, .iaload, .iload 3, .invokevirtual 53, .iinc 3 (1), .goto 30]),
  (52, [.aload 0, .aload 1, .invokeinterface 9 3, .aconst_null, .iload 2, .sipush (1), .invokevirtual 54, .aload 1, .invokeinterface 9 0, .ifCond .ne 79, .aload 0, .sipush (14), .invokevirtual 64, .goto 90])]
def hq52_0 : List (List (List Nat)) := [[[], [622], [], [], [], [183], [658, 484, 485, 80, 486], [], [], [187], [], [], [190], [], [], [191], [], [], []],
  [[], [], [], [], [], [622], [], [], [], [659, 661, 9, 84, 662], [], []],
  [[], [], [624], [], [], [], [664, 666, 10, 84, 667], [], [615], [], [], [], [720, 722, 16, 84, 723], []]]
set_option maxRecDepth 100000 in
theorem cq52_0 : mm_chkM 52 bq52_0 hq52_0 = true := by decide +kernel
def bq52_1 : List (Nat × List Instr) := [(79, [.aload 0, .sipush (13), .invokevirtual 64, .aload 0, .iload 2, .invokevirtual 64, .goto_w 90]),
  (90, [.aload 1, .aload 0, .invokeinterface 2 1, .invokevirtual 78, .multianewarray 9 4, .aload 1, .aload 0, .invokeinterface 2 3, .aload 0, .invokeinterface 2 5, .invokestatic 80, .multianewarray 9 6, .aload 1, .aload 0, .invokeinterface 2 4, .aload 0, .invokeinterface 2 5, .invokestatic 80, .multianewarray 9 7, .aload 1, .aload 0, .aload 1, .invokevirtual 82, .multianewarray 9 5, .return_])]
def hq52_1 : List (List (List Nat)) := [[[], [], [720, 722, 16, 84, 723], [], [], [720, 722, 16, 84, 723], []],
  [[], [], [183], [785, 786, 787, 80, 788], [627], [], [], [185], [], [187], [796, 797, 96, 798], [633], [], [], [186], [], [187], [796, 797, 96, 798], [636], [], [], [], [812, 814, 28, 84, 815], [630], []]]
set_option maxRecDepth 100000 in
theorem cq52_1 : mm_chkM 52 bq52_1 hq52_1 = true := by decide +kernel
-- LispForge$Compiler.bind (II)V
def bq53_0 : List (Nat × List Instr) := [(0, [.aload 0, .invokeinterface 2 8, .sipush (104), .if_icmp .lt 20, .checkcast 1]),
  (20, [.aload 0, .invokeinterface 2 6, .aload 0, .invokeinterface 2 8, .iload 1, .iastore, .aload 0, .invokeinterface 2 7, .aload 0, .invokeinterface 2 8, .iload 2, .iastore, .aload 0, .dup, .invokeinterface 2 8, .sipush (1), .iadd, .multianewarray 2 8, .return_])]
def hq53_0 : List (List (List Nat)) := [[[], [190], [], [], [568, 663]],
  [[], [188], [], [190], [], [], [], [189], [], [190], [], [], [], [], [190], [], [], [190], []]]
set_option maxRecDepth 100000 in
theorem cq53_0 : mm_chkM 53 bq53_0 hq53_0 = true := by decide +kernel
-- LispForge$Compiler.translate (LLispForge$Form;LLispForge$Replacement;II)V
def bq54_0 : List (Nat × List Instr) := [(0, [.iload 4, .sipush (100), .if_icmp .le 17, .checkcast 1]),
  (17, [.aload 0, .aload 1, .aload 2, .invokevirtual 55, .aload 0, .invokeinterface 2 10, .astore 5, .aload 0, .invokeinterface 2 11, .astore 6, .aload 5, .invokeinterface 3 0, .ifCond .ne 53, .aload 0, .aload 5, .invokeinterface 3 1, .invokevirtual 63, .return_]),
  (53, [.aload 5, .invokeinterface 3 0, .sipush (1), .if_icmp .ne 81, .aload 0, .sipush (1), .invokevirtual 64, .aload 0, .aload 0, .aload 5, .invokeinterface 3 1, .invokevirtual 65, .invokevirtual 64, .return_])]
def hq54_0 : List (List (List Nat)) := [[[], [], [], [568, 668]],
  [[], [], [], [669, 671, 11, 84, 672], [], [192], [], [], [193], [], [], [438], [], [], [], [441], [716, 718, 15, 84, 719], []],
  [[], [438], [], [], [], [], [720, 722, 16, 84, 723], [], [], [], [441], [727, 729, 17, 84, 730], [720, 722, 16, 84, 723], []]]
set_option maxRecDepth 100000 in
theorem cq54_0 : mm_chkM 54 bq54_0 hq54_0 = true := by decide +kernel
def bq54_1 : List (Nat × List Instr) := [(81, [.aload 0, .aload 5, .invokeinterface 3 3, .aload 6, .invokevirtual 55, .aload 0, .invokevirtual 66, .istore 7, .iload 7, .lookupswitch 307 #[(42, 208), (43, 208), (45, 208), (60, 208), (61, 208), (25711, 255), (26982, 227), (6579558, 297), (7103860, 241), (7168355, 297), (7501166, 283), (7562612, 269)]]),
  (208, [.aload 0, .aload 5, .aload 6, .iload 3, .iload 4, .iload 7, .invokestatic 67, .invokevirtual 68, .goto 320]),
  (227, [.aload 0, .aload 5, .aload 6, .iload 3, .iload 4, .invokevirtual 69, .goto 320]),
  (241, [.aload 0, .aload 5, .aload 6, .iload 3, .iload 4, .invokevirtual 72, .goto 320]),
  (255, [.aload 0, .aload 5, .aload 6, .iload 3, .iload 4, .invokevirtual 73, .goto 320])]
def hq54_1 : List (List (List Nat)) := [[[], [], [446], [], [669, 671, 11, 84, 672], [], [732, 734, 18, 84, 735], [], [], []],
  [[], [], [], [], [], [], [737, 738, 84, 739], [740, 742, 19, 84, 743], []],
  [[], [], [], [], [], [744, 746, 20, 84, 747], []],
  [[], [], [], [], [], [756, 758, 22, 84, 759], []],
  [[], [], [], [], [], [762, 764, 23, 84, 765], []]]
set_option maxRecDepth 100000 in
theorem cq54_1 : mm_chkM 54 bq54_1 hq54_1 = true := by decide +kernel
def bq54_2 : List (Nat × List Instr) := [(269, [.aload 0, .aload 5, .aload 6, .iload 3, .iload 4, .invokevirtual 74, .goto 320]),
  (283, [.aload 0, .aload 5, .aload 6, .iload 3, .iload 4, .invokevirtual 75, .goto 320]),
  (297, [.checkcast 1]),
  (307, [.aload 0, .iload 7, .aload 5, .aload 6, .iload 3, .iload 4, .invokevirtual 76, .goto_w 320]),
  (320, [.return_])]
def hq54_2 : List (List (List Nat)) := [[[], [], [], [], [], [767, 769, 24, 84, 770], []],
  [[], [], [], [], [], [771, 773, 25, 84, 774], []],
  [[568, 775]],
  [[], [], [], [], [], [], [776, 778, 26, 84, 779], []],
  [[]]]
set_option maxRecDepth 100000 in
theorem cq54_2 : mm_chkM 54 bq54_2 hq54_2 = true := by decide +kernel
