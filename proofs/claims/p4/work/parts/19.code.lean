-- LispForge$Compiler.putLet (LLispForge$Form;LLispForge$Replacement;II)V
def bq72_0 : List (Nat × List Instr) := [(0, [.aload 1, .sipush (4), .invokestatic 61, .aload 0, .aload 1, .sipush (1), .invokevirtual 45, .aload 2, .invokevirtual 55, .aload 0, .invokevirtual 66, .istore 5, .iload 5, .invokestatic 35, .ifCond .ne 39, .checkcast 1])]
def hq72_0 : List (List (List Nat)) := [[[], [], [694, 695, 84, 696], [], [], [], [559, 560, 561, 88, 562], [], [669, 671, 11, 84, 672], [], [732, 734, 18, 84, 735], [], [], [760, 426, 79, 427], [], [568, 761]]]
set_option maxRecDepth 100000 in
theorem cq72_0 : mm_chkM 72 bq72_0 hq72_0 = true := by decide +kernel
def bq72_1 : List (Nat × List Instr) := [(39, [.aload 0, .aload 1, .sipush (2), .invokevirtual 45, .aload 2, .iload 3, .iload 4, .sipush (1), .iadd, .invokevirtual 54, .aload 0, .iload 5, .iload 3, .invokevirtual 53, .aload 0, .aload 1, .sipush (3), .invokevirtual 45, .aload 2, .iload 3, .sipush (1), .iadd, .iload 4, .sipush (1), .iadd, .invokevirtual 54, .aload 0, .dup, .invokeinterface 2 8, .sipush (1), .isub, .multianewarray 2 8, .aload 0, .sipush (9), .invokevirtual 64, .return_])]
def hq72_1 : List (List (List Nat)) := [[[], [], [], [559, 560, 561, 88, 562], [], [], [], [], [], [664, 666, 10, 84, 667], [], [], [], [659, 661, 9, 84, 662], [], [], [], [559, 560, 561, 88, 562], [], [], [], [], [], [], [], [664, 666, 10, 84, 667], [], [], [190], [], [], [190], [], [], [720, 722, 16, 84, 723], []]]
set_option maxRecDepth 100000 in
theorem cq72_1 : mm_chkM 72 bq72_1 hq72_1 = true := by decide +kernel
-- LispForge$Compiler.putDo (LLispForge$Form;LLispForge$Replacement;II)V
def bq73_0 : List (Nat × List Instr) := [(0, [.aload 1, .invokeinterface 3 2, .sipush (2), .if_icmp .ge 18, .checkcast 1]),
  (18, [.aload 1, .sipush (1), .invokevirtual 45, .astore 5, .goto_w 25]),
  (25, [.aload 5, .ifnull 66, .aload 0, .aload 5, .aload 2, .iload 3, .iload 4, .sipush (1), .iadd, .invokevirtual 54, .aload 5, .invokeinterface 3 5, .ifnull 56, .aload 0, .sipush (10), .invokevirtual 64, .goto_w 56]),
  (56, [.aload 5, .invokeinterface 3 5, .astore 5, .goto 25]),
  (66, [.return_])]
def hq73_0 : List (List (List Nat)) := [[[], [443], [], [], [568, 766]],
  [[], [], [559, 560, 561, 88, 562], [], []],
  [[], [], [], [], [], [], [], [], [], [664, 666, 10, 84, 667], [], [450], [], [], [], [720, 722, 16, 84, 723], []],
  [[], [450], [], []],
  [[]]]
set_option maxRecDepth 100000 in
theorem cq73_0 : mm_chkM 73 bq73_0 hq73_0 = true := by decide +kernel
-- LispForge$Compiler.putSet (LLispForge$Form;LLispForge$Replacement;II)V
def bq74_0 : List (Nat × List Instr) := [(0, [.aload 1, .sipush (3), .invokestatic 61, .aload 0, .aload 1, .sipush (1), .invokevirtual 45, .aload 2, .invokevirtual 55, .aload 0, .aload 0, .invokevirtual 66, .invokevirtual 65, .istore 5, .aload 0, .aload 1, .sipush (2), .invokevirtual 45, .aload 2, .iload 3, .iload 4, .sipush (1), .iadd, .invokevirtual 54, .aload 0, .sipush (11), .invokevirtual 64, .aload 0, .iload 5, .invokevirtual 64, .return_])]
def hq74_0 : List (List (List Nat)) := [[[], [], [694, 695, 84, 696], [], [], [], [559, 560, 561, 88, 562], [], [669, 671, 11, 84, 672], [], [], [732, 734, 18, 84, 735], [727, 729, 17, 84, 730], [], [], [], [], [559, 560, 561, 88, 562], [], [], [], [], [], [664, 666, 10, 84, 667], [], [], [720, 722, 16, 84, 723], [], [], [720, 722, 16, 84, 723], []]]
set_option maxRecDepth 100000 in
theorem cq74_0 : mm_chkM 74 bq74_0 hq74_0 = true := by decide +kernel
-- LispForge$Compiler.putRun (LLispForge$Form;LLispForge$Replacement;II)V
def bq75_0 : List (Nat × List Instr) := [(0, [.aload 1, .sipush (3), .invokestatic 61, .aload 0, .invokeinterface 2 1, .invokeinterface 1 1, .istore 5, .aload 0, .aload 1, .sipush (1), .invokevirtual 45, .aload 2, .iload 3, .iload 4, .sipush (1), .iadd, .invokevirtual 54, .aload 0, .sipush (8), .invokevirtual 70, .istore 6, .aload 0, .aload 1, .sipush (2), .invokevirtual 45, .aload 2, .iload 3, .iload 4, .sipush (1), .iadd, .invokevirtual 54, .aload 0, .sipush (10), .invokevirtual 64, .aload 0, .sipush (7), .invokevirtual 70, .istore 7, .aload 0, .invokeinterface 2 1, .iload 7, .iload 5, .invokevirtual 71, .aload 0, .invokeinterface 2 1, .iload 6, .aload 0, .invokeinterface 2 1, .invokeinterface 1 1, .invokevirtual 71, .aload 0, .sipush (0), .invokevirtual 63, .return_])]
def hq75_0 : List (List (List Nat)) := [[[], [], [694, 695, 84, 696], [], [183], [121], [], [], [], [], [559, 560, 561, 88, 562], [], [], [], [], [], [664, 666, 10, 84, 667], [], [], [748, 750, 21, 84, 751], [], [], [], [], [559, 560, 561, 88, 562], [], [], [], [], [], [664, 666, 10, 84, 667], [], [], [720, 722, 16, 84, 723], [], [], [748, 750, 21, 84, 751], [], [], [183], [], [], [752, 753, 754, 80, 755], [], [183], [], [], [183], [121], [752, 753, 754, 80, 755], [], [], [716, 718, 15, 84, 719], []]]
set_option maxRecDepth 100000 in
theorem cq75_0 : mm_chkM 75 bq75_0 hq75_0 = true := by decide +kernel
-- LispForge$Compiler.putCall (ILLispForge$Form;LLispForge$Replacement;II)V
def bq76_0 : List (Nat × List Instr) := [(0, [.sipush (0), .istore 6, .aload 2, .sipush (1), .invokevirtual 45, .astore 7, .goto_w 10]),
  (10, [.aload 7, .ifnull 44, .aload 0, .aload 7, .aload 3, .iload 4, .iload 6, .iadd, .iload 5, .sipush (1), .iadd, .invokevirtual 54, .iinc 6 (1), .aload 7, .invokeinterface 3 5, .astore 7, .goto 10]),
  (44, [.aload 0, .sipush (12), .invokevirtual 64, .aload 0, .aload 0, .invokeinterface 2 1, .invokeinterface 1 1, .iload 1, .invokevirtual 77, .aload 0, .sipush (0), .invokevirtual 64, .aload 0, .sipush (0), .invokevirtual 64, .aload 0, .iload 6, .invokevirtual 64, .return_])]
def hq76_0 : List (List (List Nat)) := [[[], [], [], [], [559, 560, 561, 88, 562], [], []],
  [[], [], [], [], [], [], [], [], [], [], [], [664, 666, 10, 84, 667], [], [], [450], [], []],
  [[], [], [720, 722, 16, 84, 723], [], [], [183], [121], [], [780, 782, 27, 84, 783], [], [], [720, 722, 16, 84, 723], [], [], [720, 722, 16, 84, 723], [], [], [720, 722, 16, 84, 723], []]]
set_option maxRecDepth 100000 in
theorem cq76_0 : mm_chkM 76 bq76_0 hq76_0 = true := by decide +kernel
-- LispForge$Compiler.addFix (II)V
def bq77_0 : List (Nat × List Instr) := [(0, [.aload 0, .invokeinterface 2 5, .sipush (50), .if_icmp .lt 20, .checkcast 1]),
  (20, [.aload 0, .invokeinterface 2 3, .aload 0, .invokeinterface 2 5, .iload 1, .iastore, .aload 0, .invokeinterface 2 4, .aload 0, .invokeinterface 2 5, .iload 2, .iastore, .aload 0, .dup, .invokeinterface 2 5, .sipush (1), .iadd, .multianewarray 2 5, .return_])]
def hq77_0 : List (List (List Nat)) := [[[], [187], [], [], [568, 784]],
  [[], [185], [], [187], [], [], [], [186], [], [187], [], [], [], [], [187], [], [], [187], []]]
set_option maxRecDepth 100000 in
theorem cq77_0 : mm_chkM 77 bq77_0 hq77_0 = true := by decide +kernel
-- LispForge$Bytes.copy ()LLispForge$Bytes;
def bq78_0 : List (Nat × List Instr) := [(0, [.new 1, .dup, .aload 0, .invokeinterface 1 1, .invokevirtual 1, .astore 1, .aload 1, .aload 0, .invokevirtual 79, .aload 1, .areturn])]
def hq78_0 : List (List (List Nat)) := [[[789, 108, 80], [], [], [117], [790, 110, 80, 111], [], [], [], [791, 792, 793, 80, 794], [], []]]
set_option maxRecDepth 100000 in
theorem cq78_0 : mm_chkM 78 bq78_0 hq78_0 = true := by decide +kernel
-- LispForge$Bytes.putAll (LLispForge$Bytes;)V
def bq79_0 : List (Nat × List Instr) := [(0, [.sipush (0), .istore 2, .goto_w 2]),
  (2, [.iload 2, .aload 1, .invokeinterface 1 1, .if_icmp .ge 25, .aload 0, .aload 1, .iload 2, .invokevirtual 16, .invokevirtual 11, .iinc 2 (1), .goto 2]),
  (25, [.return_])]
def hq79_0 : List (List (List Nat)) := [[[], [], []],
  [[], [], [117], [], [], [], [], [344, 345, 346, 80, 347], [795, 325, 326, 80, 327], [], []],
  [[]]]
set_option maxRecDepth 100000 in
theorem cq79_0 : mm_chkM 79 bq79_0 hq79_0 = true := by decide +kernel
-- java/util/Arrays.copyOf ([II)[I
def bq80_0 : List (Nat × List Instr) := [(0, [.iload 1, .aload 0, .arraylength, .if_icmp .ne 14, .goto_w 6]),
  (14, [.iload 1, .newarray .int, .astore 2, .aload 0, .sipush (0), .aload 2, .sipush (0), .aload 0, .arraylength, .iload 1, .fsub, .goto_w 28]),
  (31, [.aload 2, .areturn])]
def hq80_0 : List (List (List Nat)) := [[[], [], [], [], []],
  [[], [127], [], [], [], [], [], [], [], [], [806, 807, 81, 808], []],
  [[], []]]
set_option maxRecDepth 100000 in
theorem cq80_0 : mm_chkM 80 bq80_0 hq80_0 = true := by decide +kernel
-- LispForge$Compiler.fileOf (LLispForge$Unit;)LLispForge$Bytes;
def bq82_0 : List (Nat × List Instr) := [(0, [.aload 0, .invokeinterface 2 2, .invokevirtual 43, .aload 0, .invokeinterface 2 2, .aload 1, .invokeinterface 9 0, .invokevirtual 11, .aload 0, .invokeinterface 2 2, .aload 1, .invokeinterface 9 1, .invokevirtual 83, .aload 0, .invokeinterface 2 2, .aload 1, .invokeinterface 9 2, .arraylength, .invokevirtual 11, .aload 0, .invokeinterface 2 2, .aload 0, .invokeinterface 2 1, .invokeinterface 1 1, .invokevirtual 84, .aload 0, .invokeinterface 2 2, .aload 0, .invokeinterface 2 1, .invokevirtual 79, .aload 0, .invokeinterface 2 2, .aload 0, .invokeinterface 2 5, .invokevirtual 11, .sipush (0), .istore 2, .goto_w 79])]
def hq82_0 : List (List (List Nat)) := [[[], [184], [658, 484, 485, 80, 486], [], [184], [], [615], [726, 325, 326, 80, 327], [], [184], [], [618], [816, 817, 818, 80, 819], [], [184], [], [622], [], [726, 325, 326, 80, 327], [], [184], [], [183], [121], [820, 821, 822, 80, 823], [], [184], [], [183], [824, 792, 793, 80, 794], [], [184], [], [187], [726, 325, 326, 80, 327], [], [], []]]
set_option maxRecDepth 100000 in
theorem cq82_0 : mm_chkM 82 bq82_0 hq82_0 = true := by decide +kernel
def bq82_1 : List (Nat × List Instr) := [(79, [.iload 2, .aload 0, .invokeinterface 2 5, .if_icmp .ge 119, .aload 0, .invokeinterface 2 2, .aload 0, .invokeinterface 2 3, .iload 2, .iaload, .invokevirtual 84, .aload 0, .invokeinterface 2 2, .aload 0, .invokeinterface 2 4, .iload 2, .iaload, .invokevirtual 83, .iinc 2 (1), .goto 79]),
  (119, [.aload 0, .invokeinterface 2 2, .invokevirtual 78, .areturn])]
def hq82_1 : List (List (List Nat)) := [[[], [], [187], [], [], [184], [], [185], [], [], [820, 821, 822, 80, 823], [], [184], [], [186], [], [], [816, 817, 818, 80, 819], [], []],
  [[], [184], [785, 786, 787, 80, 788], []]]
set_option maxRecDepth 100000 in
theorem cq82_1 : mm_chkM 82 bq82_1 hq82_1 = true := by decide +kernel
-- LispForge$Bytes.putName (I)V
def bq83_0 : List (Nat × List Instr) := [(0, [.sipush (0), .istore 2, .sipush (24), .istore 3, .goto_w 5]),
  (5, [.iload 3, .ifCond .lt 33, .iload 2, .iload 1, .iload 3, .ishr, .sipush (255), .iand, .ifCond .ne 24, .sipush (0), .goto 25]),
  (24, [.sipush (1), .goto_w 25]),
  (25, [.iadd, .istore 2, .iinc 3 (-8), .goto 5]),
  (33, [.aload 0, .iload 2, .invokevirtual 11, .sipush (8), .iload 2, .sipush (1), .isub, .imul, .istore 3, .goto_w 45]),
  (45, [.iload 3, .ifCond .lt 62, .aload 0, .iload 1, .iload 3, .ishr, .invokevirtual 11, .iinc 3 (-8), .goto 45]),
  (62, [.return_])]
def hq83_0 : List (List (List Nat)) := [[[], [], [], [], []],
  [[], [], [], [], [], [], [], [], [], [], []],
  [[], []],
  [[], [], [], []],
  [[], [], [795, 325, 326, 80, 327], [], [], [], [], [], [], []],
  [[], [], [], [], [], [], [795, 325, 326, 80, 327], [], []],
  [[]]]
set_option maxRecDepth 100000 in
theorem cq83_0 : mm_chkM 83 bq83_0 hq83_0 = true := by decide +kernel
-- LispForge$Bytes.putTwo (I)V
def bq84_0 : List (Nat × List Instr) := [(0, [.aload 0, .iload 1, .sipush (8), .ishr, .invokevirtual 11, .aload 0, .iload 1, .invokevirtual 11, .return_])]
def hq84_0 : List (List (List Nat)) := [[[], [], [], [], [795, 325, 326, 80, 327], [], [], [795, 325, 326, 80, 327], []]]
set_option maxRecDepth 100000 in
theorem cq84_0 : mm_chkM 84 bq84_0 hq84_0 = true := by decide +kernel
-- LispForge$Shelf.isFull ()Z
def bq85_0 : List (Nat × List Instr) := [(0, [.aload 0, .invokeinterface 8 1, .sipush (16), .if_icmp .lt 13, .sipush (1), .goto 14]),
  (13, [.sipush (0), .goto_w 14]),
  (14, [.freturn])]
def hq85_0 : List (List (List Nat)) := [[[], [168], [], [], [], []],
  [[], []],
  [[]]]
set_option maxRecDepth 100000 in
theorem cq85_0 : mm_chkM 85 bq85_0 hq85_0 = true := by decide +kernel
-- LispForge$Shelf.put (LLispForge$Unit;)I
def bq86_0 : List (Nat × List Instr) := [(0, [.aload 0, .invokevirtual 85, .ifCond .eq 9, .sipush (-1), .ireturn]),
  (9, [.aload 0, .invokeinterface 8 0, .aload 0, .invokeinterface 8 1, .aload 1, .aastore, .aload 0, .dup, .invokeinterface 8 1, .sipush (1), .iadd, .multianewarray 8 1, .aload 0, .invokeinterface 8 1, .sipush (1), .isub, .ireturn])]
def hq86_0 : List (List (List Nat)) := [[[], [849, 826, 827, 83, 828], [], [], []],
  [[], [167], [], [168], [], [], [], [], [168], [], [], [168], [], [168], [], [], []]]
set_option maxRecDepth 100000 in
theorem cq86_0 : mm_chkM 86 bq86_0 hq86_0 = true := by decide +kernel
