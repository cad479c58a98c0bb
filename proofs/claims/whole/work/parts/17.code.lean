-- LispForge$Bytes.setTwo (II)V
def bq71 : List (Nat × List Instr) := [(0, [.iload 1, .ifCond .lt 41, .iload 1, .aload 0, .invokeinterface 1 1, .sipush (1), .isub, .if_icmp .ge 41, .aload 0, .invokeinterface 1 0, .iload 1, .iload 2, .sipush (8), .ishr, .sipush (255), .iand, .iastore, .aload 0, .invokeinterface 1 0, .iload 1, .sipush (1), .iadd, .iload 2, .sipush (255), .iand, .iastore, .goto_w 41]),
  (41, [.return_])]
def hq71 : List (List (List Nat)) := [[[], [], [], [], [117], [], [], [], [], [116], [], [], [], [], [], [], [], [], [116], [], [], [], [], [], [], [], []],
  [[]]]
set_option maxRecDepth 100000 in
theorem cq71 : mm_chkM 71 bq71 hq71 = true := by decide +kernel
-- LispForge$Compiler.putLet (LLispForge$Form;LLispForge$Replacement;II)V
def bq72 : List (Nat × List Instr) := [(0, [.aload 1, .sipush (4), .invokestatic 61, .aload 0, .aload 1, .sipush (1), .invokevirtual 45, .aload 2, .invokevirtual 55, .aload 0, .invokevirtual 66, .istore 5, .iload 5, .invokestatic 35, .ifCond .ne 39, .checkcast 1]),
  (39, [.aload 0, .aload 1, .sipush (2), .invokevirtual 45, .aload 2, .iload 3, .iload 4, .sipush (1), .iadd, .invokevirtual 54, .aload 0, .iload 5, .iload 3, .invokevirtual 53, .aload 0, .aload 1, .sipush (3), .invokevirtual 45, .aload 2, .iload 3, .sipush (1), .iadd, .iload 4, .sipush (1), .iadd, .invokevirtual 54, .aload 0, .dup, .invokeinterface 2 8, .sipush (1), .isub, .multianewarray 2 8, .aload 0, .sipush (9), .invokevirtual 64, .return_])]
def hq72 : List (List (List Nat)) := [[[], [], [694, 695, 84, 696], [], [], [], [559, 560, 561, 88, 562], [], [669, 671, 11, 84, 672], [], [732, 734, 18, 84, 735], [], [], [760, 426, 79, 427], [], [568, 761]],
  [[], [], [], [559, 560, 561, 88, 562], [], [], [], [], [], [664, 666, 10, 84, 667], [], [], [], [659, 661, 9, 84, 662], [], [], [], [559, 560, 561, 88, 562], [], [], [], [], [], [], [], [664, 666, 10, 84, 667], [], [], [190], [], [], [190], [], [], [720, 722, 16, 84, 723], []]]
set_option maxRecDepth 100000 in
theorem cq72 : mm_chkM 72 bq72 hq72 = true := by decide +kernel
-- LispForge$Compiler.putDo (LLispForge$Form;LLispForge$Replacement;II)V
def bq73 : List (Nat × List Instr) := [(0, [.aload 1, .invokeinterface 3 2, .sipush (2), .if_icmp .ge 18, .checkcast 1]),
  (18, [.aload 1, .sipush (1), .invokevirtual 45, .astore 5, .goto_w 25]),
  (25, [.aload 5, .ifnull 66, .aload 0, .aload 5, .aload 2, .iload 3, .iload 4, .sipush (1), .iadd, .invokevirtual 54, .aload 5, .invokeinterface 3 5, .ifnull 56, .aload 0, .sipush (10), .invokevirtual 64, .goto_w 56]),
  (56, [.aload 5, .invokeinterface 3 5, .astore 5, .goto 25]),
  (66, [.return_])]
def hq73 : List (List (List Nat)) := [[[], [443], [], [], [568, 766]],
  [[], [], [559, 560, 561, 88, 562], [], []],
  [[], [], [], [], [], [], [], [], [], [664, 666, 10, 84, 667], [], [450], [], [], [], [720, 722, 16, 84, 723], []],
  [[], [450], [], []],
  [[]]]
set_option maxRecDepth 100000 in
theorem cq73 : mm_chkM 73 bq73 hq73 = true := by decide +kernel
-- LispForge$Compiler.putSet (LLispForge$Form;LLispForge$Replacement;II)V
def bq74 : List (Nat × List Instr) := [(0, [.aload 1, .sipush (3), .invokestatic 61, .aload 0, .aload 1, .sipush (1), .invokevirtual 45, .aload 2, .invokevirtual 55, .aload 0, .aload 0, .invokevirtual 66, .invokevirtual 65, .istore 5, .aload 0, .aload 1, .sipush (2), .invokevirtual 45, .aload 2, .iload 3, .iload 4, .sipush (1), .iadd, .invokevirtual 54, .aload 0, .sipush (11), .invokevirtual 64, .aload 0, .iload 5, .invokevirtual 64, .return_])]
def hq74 : List (List (List Nat)) := [[[], [], [694, 695, 84, 696], [], [], [], [559, 560, 561, 88, 562], [], [669, 671, 11, 84, 672], [], [], [732, 734, 18, 84, 735], [727, 729, 17, 84, 730], [], [], [], [], [559, 560, 561, 88, 562], [], [], [], [], [], [664, 666, 10, 84, 667], [], [], [720, 722, 16, 84, 723], [], [], [720, 722, 16, 84, 723], []]]
set_option maxRecDepth 100000 in
theorem cq74 : mm_chkM 74 bq74 hq74 = true := by decide +kernel
-- LispForge$Compiler.putRun (LLispForge$Form;LLispForge$Replacement;II)V
def bq75 : List (Nat × List Instr) := [(0, [.aload 1, .sipush (3), .invokestatic 61, .aload 0, .invokeinterface 2 1, .invokeinterface 1 1, .istore 5, .aload 0, .aload 1, .sipush (1), .invokevirtual 45, .aload 2, .iload 3, .iload 4, .sipush (1), .iadd, .invokevirtual 54, .aload 0, .sipush (8), .invokevirtual 70, .istore 6, .aload 0, .aload 1, .sipush (2), .invokevirtual 45, .aload 2, .iload 3, .iload 4, .sipush (1), .iadd, .invokevirtual 54, .aload 0, .sipush (10), .invokevirtual 64, .aload 0, .sipush (7), .invokevirtual 70, .istore 7, .aload 0, .invokeinterface 2 1, .iload 7, .iload 5, .invokevirtual 71, .aload 0, .invokeinterface 2 1, .iload 6, .aload 0, .invokeinterface 2 1, .invokeinterface 1 1, .invokevirtual 71, .aload 0, .sipush (0), .invokevirtual 63, .return_])]
def hq75 : List (List (List Nat)) := [[[], [], [694, 695, 84, 696], [], [183], [121], [], [], [], [], [559, 560, 561, 88, 562], [], [], [], [], [], [664, 666, 10, 84, 667], [], [], [748, 750, 21, 84, 751], [], [], [], [], [559, 560, 561, 88, 562], [], [], [], [], [], [664, 666, 10, 84, 667], [], [], [720, 722, 16, 84, 723], [], [], [748, 750, 21, 84, 751], [], [], [183], [], [], [752, 753, 754, 80, 755], [], [183], [], [], [183], [121], [752, 753, 754, 80, 755], [], [], [716, 718, 15, 84, 719], []]]
set_option maxRecDepth 100000 in
theorem cq75 : mm_chkM 75 bq75 hq75 = true := by decide +kernel
-- LispForge$Compiler.putCall (ILLispForge$Form;LLispForge$Replacement;II)V
def bq76 : List (Nat × List Instr) := [(0, [.sipush (0), .istore 6, .aload 2, .sipush (1), .invokevirtual 45, .astore 7, .goto_w 10]),
  (10, [.aload 7, .ifnull 44, .aload 0, .aload 7, .aload 3, .iload 4, .iload 6, .iadd, .iload 5, .sipush (1), .iadd, .invokevirtual 54, .iinc 6 (1), .aload 7, .invokeinterface 3 5, .astore 7, .goto 10]),
  (44, [.aload 0, .sipush (12), .invokevirtual 64, .aload 0, .aload 0, .invokeinterface 2 1, .invokeinterface 1 1, .iload 1, .invokevirtual 77, .aload 0, .sipush (0), .invokevirtual 64, .aload 0, .sipush (0), .invokevirtual 64, .aload 0, .iload 6, .invokevirtual 64, .return_])]
def hq76 : List (List (List Nat)) := [[[], [], [], [], [559, 560, 561, 88, 562], [], []],
  [[], [], [], [], [], [], [], [], [], [], [], [664, 666, 10, 84, 667], [], [], [450], [], []],
  [[], [], [720, 722, 16, 84, 723], [], [], [183], [121], [], [780, 782, 27, 84, 783], [], [], [720, 722, 16, 84, 723], [], [], [720, 722, 16, 84, 723], [], [], [720, 722, 16, 84, 723], []]]
set_option maxRecDepth 100000 in
theorem cq76 : mm_chkM 76 bq76 hq76 = true := by decide +kernel
-- LispForge$Compiler.addFix (II)V
def bq77 : List (Nat × List Instr) := [(0, [.aload 0, .invokeinterface 2 5, .sipush (50), .if_icmp .lt 20, .checkcast 1]),
  (20, [.aload 0, .invokeinterface 2 3, .aload 0, .invokeinterface 2 5, .iload 1, .iastore, .aload 0, .invokeinterface 2 4, .aload 0, .invokeinterface 2 5, .iload 2, .iastore, .aload 0, .dup, .invokeinterface 2 5, .sipush (1), .iadd, .multianewarray 2 5, .return_])]
def hq77 : List (List (List Nat)) := [[[], [187], [], [], [568, 784]],
  [[], [185], [], [187], [], [], [], [186], [], [187], [], [], [], [], [187], [], [], [187], []]]
set_option maxRecDepth 100000 in
theorem cq77 : mm_chkM 77 bq77 hq77 = true := by decide +kernel
-- LispForge$Bytes.copy ()LLispForge$Bytes;
def bq78 : List (Nat × List Instr) := [(0, [.new 1, .dup, .aload 0, .invokeinterface 1 1, .invokevirtual 1, .astore 1, .aload 1, .aload 0, .invokevirtual 79, .aload 1, .areturn])]
def hq78 : List (List (List Nat)) := [[[789, 108, 80], [], [], [117], [790, 110, 80, 111], [], [], [], [791, 792, 793, 80, 794], [], []]]
set_option maxRecDepth 100000 in
theorem cq78 : mm_chkM 78 bq78 hq78 = true := by decide +kernel
-- LispForge$Bytes.putAll (LLispForge$Bytes;)V
def bq79 : List (Nat × List Instr) := [(0, [.sipush (0), .istore 2, .goto_w 2]),
  (2, [.iload 2, .aload 1, .invokeinterface 1 1, .if_icmp .ge 25, .aload 0, .aload 1, .iload 2, .invokevirtual 16, .invokevirtual 11, .iinc 2 (1), .goto 2]),
  (25, [.return_])]
def hq79 : List (List (List Nat)) := [[[], [], []],
  [[], [], [117], [], [], [], [], [344, 345, 346, 80, 347], [795, 325, 326, 80, 327], [], []],
  [[]]]
set_option maxRecDepth 100000 in
theorem cq79 : mm_chkM 79 bq79 hq79 = true := by decide +kernel
-- java/lang/Math.min (II)I
def bq81 : List (Nat × List Instr) := [(0, [.iload 0, .iload 1, .if_icmp .gt 9, .iload 0, .goto 10]),
  (9, [.iload 1, .goto_w 10]),
  (10, [.ireturn])]
def hq81 : List (List (List Nat)) := [[[], [], [], [], []],
  [[], []],
  [[]]]
set_option maxRecDepth 100000 in
theorem cq81 : mm_chkM 81 bq81 hq81 = true := by decide +kernel
-- LispForge$Compiler.fileOf (LLispForge$Unit;)LLispForge$Bytes;
def bq82 : List (Nat × List Instr) := [(0, [.aload 0, .invokeinterface 2 2, .invokevirtual 43, .aload 0, .invokeinterface 2 2, .aload 1, .invokeinterface 9 0, .invokevirtual 11, .aload 0, .invokeinterface 2 2, .aload 1, .invokeinterface 9 1, .invokevirtual 83, .aload 0, .invokeinterface 2 2, .aload 1, .invokeinterface 9 2, .arraylength, .invokevirtual 11, .aload 0, .invokeinterface 2 2, .aload 0, .invokeinterface 2 1, .invokeinterface 1 1, .invokevirtual 84, .aload 0, .invokeinterface 2 2, .aload 0, .invokeinterface 2 1, .invokevirtual 79, .aload 0, .invokeinterface 2 2, .aload 0, .invokeinterface 2 5, .invokevirtual 11, .sipush (0), .istore 2, .goto_w 79]),
  (79, [.iload 2, .aload 0, .invokeinterface 2 5, .if_icmp .ge 119, .aload 0, .invokeinterface 2 2, .aload 0, .invokeinterface 2 3, .iload 2, .iaload, .invokevirtual 84, .aload 0, .invokeinterface 2 2, .aload 0, .invokeinterface 2 4, .iload 2, .iaload, .invokevirtual 83, .iinc 2 (1), .goto 79]),
  (119, [.aload 0, .invokeinterface 2 2, .invokevirtual 78, .areturn])]
def hq82 : List (List (List Nat)) := [[[], [184], [658, 484, 485, 80, 486], [], [184], [], [615], [726, 325, 326, 80, 327], [], [184], [], [618], [816, 817, 818, 80, 819], [], [184], [], [622], [], [726, 325, 326, 80, 327], [], [184], [], [183], [121], [820, 821, 822, 80, 823], [], [184], [], [183], [824, 792, 793, 80, 794], [], [184], [], [187], [726, 325, 326, 80, 327], [], [], []],
  [[], [], [187], [], [], [184], [], [185], [], [], [820, 821, 822, 80, 823], [], [184], [], [186], [], [], [816, 817, 818, 80, 819], [], []],
  [[], [184], [785, 786, 787, 80, 788], []]]
set_option maxRecDepth 100000 in
theorem cq82 : mm_chkM 82 bq82 hq82 = true := by decide +kernel
-- LispForge$Bytes.putName (I)V
def bq83 : List (Nat × List Instr) := [(0, [.sipush (0), .istore 2, .sipush (24), .istore 3, .goto_w 5]),
  (5, [.iload 3, .ifCond .lt 33, .iload 2, .iload 1, .iload 3, .ishr, .sipush (255), .iand, .ifCond .ne 24, .sipush (0), .goto 25]),
  (24, [.sipush (1), .goto_w 25]),
  (25, [.iadd, .istore 2, .iinc 3 (-8), .goto 5]),
  (33, [.aload 0, .iload 2, .invokevirtual 11, .sipush (8), .iload 2, .sipush (1), .isub, .imul, .istore 3, .goto_w 45]),
  (45, [.iload 3, .ifCond .lt 62, .aload 0, .iload 1, .iload 3, .ishr, .invokevirtual 11, .iinc 3 (-8), .goto 45]),
  (62, [.return_])]
def hq83 : List (List (List Nat)) := [[[], [], [], [], []],
  [[], [], [], [], [], [], [], [], [], [], []],
  [[], []],
  [[], [], [], []],
  [[], [], [795, 325, 326, 80, 327], [], [], [], [], [], [], []],
  [[], [], [], [], [], [], [795, 325, 326, 80, 327], [], []],
  [[]]]
set_option maxRecDepth 100000 in
theorem cq83 : mm_chkM 83 bq83 hq83 = true := by decide +kernel
-- LispForge$Bytes.putTwo (I)V
def bq84 : List (Nat × List Instr) := [(0, [.aload 0, .iload 1, .sipush (8), .ishr, .invokevirtual 11, .aload 0, .iload 1, .invokevirtual 11, .return_])]
def hq84 : List (List (List Nat)) := [[[], [], [], [], [795, 325, 326, 80, 327], [], [], [795, 325, 326, 80, 327], []]]
set_option maxRecDepth 100000 in
theorem cq84 : mm_chkM 84 bq84 hq84 = true := by decide +kernel
-- LispForge$Shelf.isFull ()Z
def bq85 : List (Nat × List Instr) := [(0, [.aload 0, .invokeinterface 8 1, .sipush (16), .if_icmp .lt 13, .sipush (1), .goto 14]),
  (13, [.sipush (0), .goto_w 14]),
  (14, [.freturn])]
def hq85 : List (List (List Nat)) := [[[], [168], [], [], [], []],
  [[], []],
  [[]]]
set_option maxRecDepth 100000 in
theorem cq85 : mm_chkM 85 bq85 hq85 = true := by decide +kernel
-- LispForge$Shelf.put (LLispForge$Unit;)I
def bq86 : List (Nat × List Instr) := [(0, [.aload 0, .invokevirtual 85, .ifCond .eq 9, .sipush (-1), .ireturn]),
  (9, [.aload 0, .invokeinterface 8 0, .aload 0, .invokeinterface 8 1, .aload 1, .aastore, .aload 0, .dup, .invokeinterface 8 1, .sipush (1), .iadd, .multianewarray 8 1, .aload 0, .invokeinterface 8 1, .sipush (1), .isub, .ireturn])]
def hq86 : List (List (List Nat)) := [[[], [849, 826, 827, 83, 828], [], [], []],
  [[], [167], [], [168], [], [], [], [], [168], [], [], [168], [], [168], [], [], []]]
set_option maxRecDepth 100000 in
theorem cq86 : mm_chkM 86 bq86 hq86 = true := by decide +kernel
-- LispForge.link ()I
def bq87 : List (Nat × List Instr) := [(0, [.aload 0, .aload 0, .invokeinterface 0 4, .invokevirtual 88, .multianewarray 0 7, .aload 0, .invokeinterface 0 7, .ifCond .eq 28, .checkcast 2]),
  (28, [.aload 0, .invokeinterface 0 4, .aload 0, .invokeinterface 0 5, .invokeinterface 5 0, .invokevirtual 92, .aload 0, .invokeinterface 0 5, .invokevirtual 22, .aload 0, .invokeinterface 0 5, .invokeinterface 5 0, .invokeinterface 1 1, .ireturn])]
def hq87 : List (List (List Nat)) := [[[], [], [292], [857, 858, 859, 85, 860], [295], [], [295], [], [829, 875]],
  [[], [292], [], [293], [251], [876, 877, 878, 85, 879], [], [293], [368, 369, 370, 86, 371], [], [293], [251], [120], []]]
set_option maxRecDepth 100000 in
theorem cq87 : mm_chkM 87 bq87 hq87 = true := by decide +kernel
-- LispForge$Linker.gather ()I
def bq88 : List (Nat × List Instr) := [(0, [.aload 0, .sipush (0), .multianewarray 4 3, .aload 0, .sipush (0), .multianewarray 4 4, .aload 0, .invokeinterface 4 0, .sipush (0), .sipush (0), .invokevirtual 59, .astore 1, .aload 1, .ifnonnull 26, .sipush (1), .ireturn]),
  (26, [.aload 0, .aload 1, .invokevirtual 89, .sipush (0), .istore 2, .goto_w 33]),
  (33, [.iload 2, .sipush (16), .if_icmp .ge 70, .iload 2, .aload 0, .invokeinterface 4 3, .if_icmp .ge 70, .aload 0, .aload 0, .invokeinterface 4 1, .iload 2, .aaload, .invokevirtual 90, .istore 3, .iload 3, .ifCond .eq 64, .iload 3, .ireturn]),
  (64, [.iinc 2 (1), .goto 33]),
  (70, [.aload 0, .invokeinterface 4 4, .sipush (600), .if_icmp .le 84, .sipush (4), .goto 85]),
  (84, [.sipush (0), .goto_w 85]),
  (85, [.ireturn])]
def hq88 : List (List (List Nat)) := [[[], [], [229], [], [], [230], [], [226], [], [], [861, 687, 688, 83, 689], [], [], [], [], []],
  [[], [], [862, 864, 29, 85, 865], [], [], []],
  [[], [], [], [], [], [229], [], [], [], [227], [], [], [866, 868, 30, 85, 869], [], [], [], [], []],
  [[], []],
  [[], [230], [], [], [], []],
  [[], []],
  [[]]]
set_option maxRecDepth 100000 in
theorem cq88 : mm_chkM 88 bq88 hq88 = true := by decide +kernel
-- LispForge$Linker.add (LLispForge$Unit;)V
def bq89 : List (Nat × List Instr) := [(0, [.aload 0, .invokeinterface 4 3, .sipush (16), .if_icmp .ge 58, .aload 0, .invokeinterface 4 1, .aload 0, .invokeinterface 4 3, .aload 1, .aastore, .aload 0, .invokeinterface 4 2, .aload 0, .invokeinterface 4 3, .aload 0, .invokeinterface 4 4, .iastore, .aload 0, .dup, .invokeinterface 4 3, .sipush (1), .iadd, .multianewarray 4 3, .aload 0, .dup, .invokeinterface 4 4, .aload 1, .invokeinterface 9 4, .invokeinterface 1 1, .iadd, .multianewarray 4 4, .goto_w 58]),
  (58, [.return_])]
def hq89 : List (List (List Nat)) := [[[], [229], [], [], [], [227], [], [229], [], [], [], [228], [], [229], [], [230], [], [], [], [229], [], [], [229], [], [], [230], [], [626], [119], [], [230], []],
  [[]]]
set_option maxRecDepth 100000 in
theorem cq89 : mm_chkM 89 bq89 hq89 = true := by decide +kernel
-- LispForge$Linker.gatherCalledBy (LLispForge$Unit;)I
def bq90 : List (Nat × List Instr) := [(0, [.sipush (0), .istore 2, .goto_w 2]),
  (2, [.iload 2, .aload 1, .invokeinterface 9 7, .arraylength, .if_icmp .ge 86, .iload 2, .aload 1, .invokeinterface 9 6, .arraylength, .if_icmp .ge 86, .aload 0, .invokeinterface 4 0, .sipush (1), .aload 1, .invokeinterface 9 7, .iload 2, .iaload, .invokevirtual 59, .astore 3, .aload 3, .ifnonnull 41, .sipush (2), .ireturn]),
  (41, [.aload 3, .invokeinterface 9 2, .arraylength, .aload 1, .invokeinterface 9 4, .aload 1, .invokeinterface 9 6, .iload 2, .iaload, .sipush (2), .iadd, .invokevirtual 16, .if_icmp .eq 66, .sipush (3), .ireturn]),
  (66, [.aload 0, .aload 3, .invokevirtual 91, .sipush (-1), .if_icmp .ne 80, .aload 0, .aload 3, .invokevirtual 89, .goto_w 80]),
  (80, [.iinc 2 (1), .goto 2]),
  (86, [.sipush (0), .ireturn])]
def hq90 : List (List (List Nat)) := [[[], [], []],
  [[], [], [635], [], [], [], [], [632], [], [], [], [226], [], [], [635], [], [], [861, 687, 688, 83, 689], [], [], [], [], []],
  [[], [621], [], [], [626], [], [632], [], [], [], [], [870, 345, 346, 80, 347], [], [], []],
  [[], [], [871, 873, 31, 85, 874], [], [], [], [], [862, 864, 29, 85, 865], []],
  [[], []],
  [[], []]]
set_option maxRecDepth 100000 in
theorem cq90 : mm_chkM 90 bq90 hq90 = true := by decide +kernel
-- LispForge$Linker.beginningOf (LLispForge$Unit;)I
def bq91 : List (Nat × List Instr) := [(0, [.sipush (0), .istore 2, .goto_w 2]),
  (2, [.iload 2, .aload 0, .invokeinterface 4 3, .if_icmp .ge 33, .aload 0, .invokeinterface 4 1, .iload 2, .aaload, .aload 1, .if_acmp .ne 27, .aload 0, .invokeinterface 4 2, .iload 2, .iaload, .ireturn]),
  (27, [.iinc 2 (1), .goto 2]),
  (33, [.sipush (-1), .ireturn])]
def hq91 : List (List (List Nat)) := [[[], [], []],
  [[], [], [229], [], [], [227], [], [], [], [], [], [228], [], [], []],
  [[], []],
  [[], []]]
set_option maxRecDepth 100000 in
theorem cq91 : mm_chkM 91 bq91 hq91 = true := by decide +kernel
-- LispForge$Linker.fill (LLispForge$Bytes;)V
def bq92 : List (Nat × List Instr) := [(0, [.aload 1, .invokevirtual 43, .sipush (0), .istore 2, .goto_w 6]),
  (6, [.iload 2, .aload 0, .invokeinterface 4 3, .if_icmp .ge 70, .aload 1, .aload 0, .invokeinterface 4 1, .iload 2, .aaload, .invokeinterface 9 4, .invokevirtual 79, .aload 0, .aload 0, .invokeinterface 4 1, .iload 2, .aaload, .invokeinterface 9 4, .aload 1, .aload 0, .invokeinterface 4 2, .iload 2, .iaload, .invokevirtual 93, .aload 0, .aload 0, .invokeinterface 4 1, .iload 2, .aaload, .aload 1, .aload 0, .invokeinterface 4 2, .iload 2, .iaload, .invokevirtual 96, .iinc 2 (1), .goto 6]),
  (70, [.return_])]
def hq92 : List (List (List Nat)) := [[[], [880, 484, 485, 80, 486], [], [], []],
  [[], [], [229], [], [], [], [227], [], [], [626], [881, 792, 793, 80, 794], [], [], [227], [], [], [626], [], [], [228], [], [], [882, 884, 32, 85, 885], [], [], [227], [], [], [], [], [228], [], [], [896, 898, 33, 85, 899], [], []],
  [[]]]
set_option maxRecDepth 100000 in
theorem cq92 : mm_chkM 92 bq92 hq92 = true := by decide +kernel
-- LispForge$Linker.moveJumps (LLispForge$Bytes;LLispForge$Bytes;I)V
def bq93 : List (Nat × List Instr) := [(0, [.sipush (0), .istore 4, .goto_w 3]),
  (3, [.iload 4, .aload 1, .invokeinterface 1 1, .if_icmp .ge 71, .aload 1, .iload 4, .invokevirtual 16, .istore 5, .iload 5, .sipush (7), .if_icmp .eq 34, .iload 5, .sipush (8), .if_icmp .ne 54, .goto_w 34]),
  (34, [.aload 2, .iload 3, .iload 4, .iadd, .sipush (1), .iadd, .iload 3, .aload 1, .iload 4, .sipush (1), .iadd, .invokevirtual 94, .iadd, .invokevirtual 71, .goto_w 54]),
  (54, [.iload 4, .aload 1, .iload 4, .invokevirtual 16, .invokestatic 95, .iadd, .istore 4, .goto 3]),
  (71, [.return_])]
def hq93 : List (List (List Nat)) := [[[], [], []],
  [[], [], [119], [], [], [], [870, 345, 346, 80, 347], [], [], [], [], [], [], [], []],
  [[], [], [], [], [], [], [], [], [], [], [], [886, 887, 888, 80, 889], [], [890, 753, 754, 80, 755], []],
  [[], [], [], [870, 345, 346, 80, 347], [891, 892, 85, 893], [], [], []],
  [[]]]
set_option maxRecDepth 100000 in
theorem cq93 : mm_chkM 93 bq93 hq93 = true := by decide +kernel
-- LispForge$Bytes.twoAt (I)I
def bq94 : List (Nat × List Instr) := [(0, [.iload 1, .ifCond .lt 35, .iload 1, .aload 0, .invokeinterface 1 1, .sipush (1), .isub, .if_icmp .ge 35, .aload 0, .invokeinterface 1 0, .iload 1, .iaload, .sipush (8), .ishl, .aload 0, .invokeinterface 1 0, .iload 1, .sipush (1), .iadd, .iaload, .ior, .goto 36]),
  (35, [.sipush (-1), .goto_w 36]),
  (36, [.ireturn])]
def hq94 : List (List (List Nat)) := [[[], [], [], [], [117], [], [], [], [], [116], [], [], [], [], [], [116], [], [], [], [], [], []],
  [[], []],
  [[]]]
set_option maxRecDepth 100000 in
theorem cq94 : mm_chkM 94 bq94 hq94 = true := by decide +kernel
-- LispForge$Linker.lengthOf (I)I
def bq95 : List (Nat × List Instr) := [(0, [.iload 0, .ifCond .lt 20, .iload 0, .getstatic 0, .arraylength, .if_icmp .ge 20, .getstatic 0, .iload 0, .iaload, .goto 21]),
  (20, [.sipush (1), .goto_w 21]),
  (21, [.ireturn])]
def hq95 : List (List (List Nat)) := [[[], [], [], [894], [], [], [894], [], [], []],
  [[], []],
  [[]]]
set_option maxRecDepth 100000 in
theorem cq95 : mm_chkM 95 bq95 hq95 = true := by decide +kernel
-- LispForge$Linker.setCalls (LLispForge$Unit;LLispForge$Bytes;I)V
def bq96 : List (Nat × List Instr) := [(0, [.sipush (0), .istore 4, .goto_w 3]),
  (3, [.iload 4, .aload 1, .invokeinterface 9 7, .arraylength, .if_icmp .ge 65, .iload 4, .aload 1, .invokeinterface 9 6, .arraylength, .if_icmp .ge 65, .aload 0, .invokeinterface 4 0, .sipush (1), .aload 1, .invokeinterface 9 7, .iload 4, .iaload, .invokevirtual 59, .astore 5, .aload 2, .iload 3, .aload 1, .invokeinterface 9 6, .iload 4, .iaload, .iadd, .aload 0, .aload 5, .invokevirtual 91, .invokevirtual 71, .iinc 4 (1), .goto 3]),
  (65, [.return_])]
def hq96 : List (List (List Nat)) := [[[], [], []],
  [[], [], [635], [], [], [], [], [632], [], [], [], [226], [], [], [635], [], [], [861, 687, 688, 83, 689], [], [], [], [], [632], [], [], [], [], [], [871, 873, 31, 85, 874], [890, 753, 754, 80, 755], [], []],
  [[]]]
set_option maxRecDepth 100000 in
theorem cq96 : mm_chkM 96 bq96 hq96 = true := by decide +kernel
-- LispForge.run (I)I
def bq97 : List (Nat × List Instr) := [(0, [.iload 1, .ifCond .lt 11, .iload 1, .sipush (500), .if_icmp .le 21, .goto_w 11]),
  (11, [.checkcast 0]),
  (21, [.aload 0, .invokeinterface 0 5, .iload 1, .invokevirtual 98, .ireturn])]
def hq97 : List (List (List Nat)) := [[[], [], [], [], [], []],
  [[487, 907]],
  [[], [293], [], [908, 909, 910, 86, 911], []]]
set_option maxRecDepth 100000 in
theorem cq97 : mm_chkM 97 bq97 hq97 = true := by decide +kernel
-- LispForge$Machine.makeSteps (I)I
def bq98 : List (Nat × List Instr) := [(0, [.sipush (0), .istore 2, .goto_w 2]),
  (2, [.iload 2, .iload 1, .if_icmp .ge 25, .aload 0, .invokeinterface 5 6, .sipush (1), .if_icmp .ne 25, .aload 0, .invokevirtual 99, .iinc 2 (1), .goto 2]),
  (25, [.iload 2, .ireturn])]
def hq98 : List (List (List Nat)) := [[[], [], []],
  [[], [], [], [], [259], [], [], [], [912, 914, 34, 86, 915], [], []],
  [[], []]]
set_option maxRecDepth 100000 in
theorem cq98 : mm_chkM 98 bq98 hq98 = true := by decide +kernel
-- LispForge$Machine.makeStep ()V
def bq99 : List (Nat × List Instr) := [(0, [.aload 0, .invokeinterface 5 0, .aload 0, .invokeinterface 5 7, .invokevirtual 16, .istore 1, .aload 0, .iload 1, .invokevirtual 100, .ifCond .eq 26, .aload 0, .sipush (3), .multianewarray 5 6, .return_]),
  (26, [.aload 0, .dup, .invokeinterface 5 9, .sipush (1), .iadd, .multianewarray 5 9, .iload 1, .lookupswitch 336 #[(0, 108), (1, 139), (2, 178), (3, 178), (4, 178), (5, 178), (6, 178), (7, 196), (8, 216), (9, 252), (10, 269), (11, 287), (12, 322), (13, 329)]]),
  (108, [.aload 0, .aload 0, .invokeinterface 5 0, .aload 0, .invokeinterface 5 7, .sipush (1), .iadd, .invokevirtual 94, .i2s, .invokevirtual 101, .aload 0, .dup, .invokeinterface 5 7, .sipush (3), .iadd, .multianewarray 5 7, .goto 341]),
  (139, [.aload 0, .aload 0, .aload 0, .invokeinterface 5 8, .aload 0, .invokeinterface 5 0, .aload 0, .invokeinterface 5 7, .sipush (1), .iadd, .invokevirtual 16, .iadd, .invokevirtual 25, .invokevirtual 101, .aload 0, .dup, .invokeinterface 5 7, .sipush (2), .iadd, .multianewarray 5 7, .goto 341]),
  (178, [.aload 0, .iload 1, .invokevirtual 102, .aload 0, .dup, .invokeinterface 5 7, .sipush (1), .iadd, .multianewarray 5 7, .goto 341]),
  (196, [.aload 0, .aload 0, .invokeinterface 5 0, .aload 0, .invokeinterface 5 7, .sipush (1), .iadd, .invokevirtual 94, .multianewarray 5 7, .goto 341]),
  (216, [.aload 0, .aload 0, .invokevirtual 103, .ifCond .ne 240, .aload 0, .invokeinterface 5 0, .aload 0, .invokeinterface 5 7, .sipush (1), .iadd, .invokevirtual 94, .goto 246]),
  (240, [.aload 0, .invokeinterface 5 7, .sipush (3), .iadd, .goto_w 246]),
  (246, [.multianewarray 5 7, .goto 341]),
  (252, [.aload 0, .invokevirtual 104, .aload 0, .dup, .invokeinterface 5 7, .sipush (1), .iadd, .multianewarray 5 7, .goto 341]),
  (269, [.aload 0, .invokevirtual 103, .pop, .aload 0, .dup, .invokeinterface 5 7, .sipush (1), .iadd, .multianewarray 5 7, .goto 341]),
  (287, [.aload 0, .aload 0, .invokeinterface 5 8, .aload 0, .invokeinterface 5 0, .aload 0, .invokeinterface 5 7, .sipush (1), .iadd, .invokevirtual 16, .iadd, .invokevirtual 105, .aload 0, .dup, .invokeinterface 5 7, .sipush (2), .iadd, .multianewarray 5 7, .goto 341]),
  (322, [.aload 0, .invokevirtual 106, .goto 341]),
  (329, [.aload 0, .invokevirtual 107, .goto 341]),
  (336, [.aload 0, .sipush (2), .multianewarray 5 6, .goto_w 341]),
  (341, [.return_])]
def hq99 : List (List (List Nat)) := [[[], [250], [], [261], [916, 345, 346, 80, 347], [], [], [], [917, 919, 35, 86, 920], [], [], [], [259], []],
  [[], [], [265], [], [], [265], [], []],
  [[], [], [250], [], [261], [], [], [921, 887, 888, 80, 889], [], [922, 924, 36, 86, 925], [], [], [261], [], [], [261], []],
  [[], [], [], [263], [], [250], [], [261], [], [], [916, 345, 346, 80, 347], [], [926, 381, 382, 86, 383], [922, 924, 36, 86, 925], [], [], [261], [], [], [261], []],
  [[], [], [927, 929, 37, 86, 930], [], [], [261], [], [], [261], []],
  [[], [], [250], [], [261], [], [], [921, 887, 888, 80, 889], [261], []],
  [[], [], [931, 933, 38, 86, 934], [], [], [250], [], [261], [], [], [921, 887, 888, 80, 889], []],
  [[], [261], [], [], []],
  [[261], []],
  [[], [936, 938, 39, 86, 939], [], [], [261], [], [], [261], []],
  [[], [931, 933, 38, 86, 934], [], [], [], [261], [], [], [261], []],
  [[], [], [263], [], [250], [], [261], [], [], [916, 345, 346, 80, 347], [], [940, 942, 40, 86, 943], [], [], [261], [], [], [261], []],
  [[], [944, 946, 41, 86, 947], []],
  [[], [948, 950, 42, 86, 951], []],
  [[], [], [259], []],
  [[]]]
set_option maxRecDepth 100000 in
theorem cq99 : mm_chkM 99 bq99 hq99 = true := by decide +kernel
-- LispForge$Machine.hasNoRoomFor (I)Z
def bq100 : List (Nat × List Instr) := [(0, [.iload 1, .lookupswitch 66 #[(0, 36), (1, 36), (12, 51)]]),
  (36, [.aload 0, .invokeinterface 5 2, .sipush (120), .if_icmp .lt 49, .sipush (1), .goto 50]),
  (49, [.sipush (0), .goto_w 50]),
  (50, [.freturn]),
  (51, [.aload 0, .invokeinterface 5 5, .sipush (24), .if_icmp .lt 64, .sipush (1), .goto 65]),
  (64, [.sipush (0), .goto_w 65]),
  (65, [.freturn]),
  (66, [.sipush (0), .freturn])]
def hq100 : List (List (List Nat)) := [[[], []],
  [[], [253], [], [], [], []],
  [[], []],
  [[]],
  [[], [257], [], [], [], []],
  [[], []],
  [[]],
  [[], []]]
set_option maxRecDepth 100000 in
theorem cq100 : mm_chkM 100 bq100 hq100 = true := by decide +kernel
-- LispForge$Machine.put (I)V
def bq101 : List (Nat × List Instr) := [(0, [.aload 0, .invokeinterface 5 2, .ifCond .lt 36, .aload 0, .invokeinterface 5 2, .sipush (120), .if_icmp .ge 36, .aload 0, .invokeinterface 5 1, .aload 0, .invokeinterface 5 2, .iload 1, .iastore, .aload 0, .dup, .invokeinterface 5 2, .sipush (1), .iadd, .multianewarray 5 2, .goto_w 36]),
  (36, [.return_])]
def hq101 : List (List (List Nat)) := [[[], [253], [], [], [253], [], [], [], [252], [], [253], [], [], [], [], [253], [], [], [253], []],
  [[]]]
set_option maxRecDepth 100000 in
theorem cq101 : mm_chkM 101 bq101 hq101 = true := by decide +kernel
-- LispForge$Machine.joinTwo (I)V
def bq102 : List (Nat × List Instr) := [(0, [.aload 0, .invokevirtual 103, .istore 2, .aload 0, .invokevirtual 103, .istore 3, .iload 1, .lookupswitch 87 #[(2, 40), (3, 50), (4, 60), (5, 70)]]),
  (40, [.aload 0, .iload 3, .iload 2, .iadd, .invokevirtual 101, .goto 101]),
  (50, [.aload 0, .iload 3, .iload 2, .isub, .invokevirtual 101, .goto 101]),
  (60, [.aload 0, .iload 3, .iload 2, .imul, .invokevirtual 101, .goto 101]),
  (70, [.aload 0, .iload 3, .iload 2, .if_icmp .ge 80, .sipush (1), .goto 81]),
  (80, [.sipush (0), .goto_w 81]),
  (81, [.invokevirtual 101, .goto 101]),
  (87, [.aload 0, .iload 3, .iload 2, .if_icmp .ne 97, .sipush (1), .goto 98]),
  (97, [.sipush (0), .goto_w 98]),
  (98, [.invokevirtual 101, .goto_w 101]),
  (101, [.return_])]
def hq102 : List (List (List Nat)) := [[[], [931, 933, 38, 86, 934], [], [], [931, 933, 38, 86, 934], [], [], []],
  [[], [], [], [], [922, 924, 36, 86, 925], []],
  [[], [], [], [], [922, 924, 36, 86, 925], []],
  [[], [], [], [], [922, 924, 36, 86, 925], []],
  [[], [], [], [], [], []],
  [[], []],
  [[922, 924, 36, 86, 925], []],
  [[], [], [], [], [], []],
  [[], []],
  [[922, 924, 36, 86, 925], []],
  [[]]]
set_option maxRecDepth 100000 in
theorem cq102 : mm_chkM 102 bq102 hq102 = true := by decide +kernel
-- LispForge$Machine.takeOff ()I
def bq103 : List (Nat × List Instr) := [(0, [.aload 0, .aload 0, .invokeinterface 5 2, .sipush (1), .isub, .invokevirtual 25, .istore 1, .aload 0, .aload 0, .invokeinterface 5 2, .sipush (1), .isub, .sipush (0), .fadd, .multianewarray 5 2, .iload 1, .ireturn])]
def hq103 : List (List (List Nat)) := [[[], [], [253], [], [], [926, 381, 382, 86, 383], [], [], [], [253], [], [], [], [935, 114, 81, 115], [253], [], []]]
set_option maxRecDepth 100000 in
theorem cq103 : mm_chkM 103 bq103 hq103 = true := by decide +kernel
-- LispForge$Machine.takeOutBelow ()V
def bq104 : List (Nat × List Instr) := [(0, [.aload 0, .invokevirtual 103, .istore 1, .aload 0, .invokevirtual 103, .pop, .aload 0, .iload 1, .invokevirtual 101, .return_])]
def hq104 : List (List (List Nat)) := [[[], [931, 933, 38, 86, 934], [], [], [931, 933, 38, 86, 934], [], [], [], [922, 924, 36, 86, 925], []]]
set_option maxRecDepth 100000 in
theorem cq104 : mm_chkM 104 bq104 hq104 = true := by decide +kernel
-- LispForge$Machine.store (I)V
def bq105 : List (Nat × List Instr) := [(0, [.iload 1, .ifCond .lt 34, .iload 1, .aload 0, .invokeinterface 5 2, .if_icmp .ge 34, .iload 1, .sipush (120), .if_icmp .ge 34, .aload 0, .invokeinterface 5 1, .iload 1, .aload 0, .aload 0, .invokeinterface 5 2, .sipush (1), .isub, .invokevirtual 25, .iastore, .goto_w 34]),
  (34, [.return_])]
def hq105 : List (List (List Nat)) := [[[], [], [], [], [253], [], [], [], [], [], [252], [], [], [], [253], [], [], [926, 381, 382, 86, 383], [], []],
  [[]]]
set_option maxRecDepth 100000 in
theorem cq105 : mm_chkM 105 bq105 hq105 = true := by decide +kernel
-- LispForge$Machine.enter ()V
def bq106 : List (Nat × List Instr) := [(0, [.aload 0, .invokeinterface 5 5, .ifCond .lt 97, .aload 0, .invokeinterface 5 5, .sipush (24), .if_icmp .ge 97, .aload 0, .invokeinterface 5 3, .aload 0, .invokeinterface 5 5, .aload 0, .invokeinterface 5 8, .iastore, .aload 0, .invokeinterface 5 4, .aload 0, .invokeinterface 5 5, .aload 0, .invokeinterface 5 7, .sipush (4), .iadd, .iastore, .aload 0, .dup, .invokeinterface 5 5, .sipush (1), .iadd, .multianewarray 5 5, .aload 0, .aload 0, .invokeinterface 5 2, .aload 0, .invokeinterface 5 0, .aload 0, .invokeinterface 5 7, .sipush (3), .iadd, .invokevirtual 16, .isub, .sipush (0), .fadd, .multianewarray 5 8, .aload 0, .aload 0, .invokeinterface 5 0, .aload 0, .invokeinterface 5 7, .sipush (1), .iadd, .invokevirtual 94, .multianewarray 5 7, .goto_w 97]),
  (97, [.return_])]
def hq106 : List (List (List Nat)) := [[[], [257], [], [], [257], [], [], [], [255], [], [257], [], [263], [], [], [256], [], [257], [], [261], [], [], [], [], [], [257], [], [], [257], [], [], [253], [], [250], [], [261], [], [], [916, 345, 346, 80, 347], [], [], [935, 114, 81, 115], [263], [], [], [250], [], [261], [], [], [921, 887, 888, 80, 889], [261], []],
  [[]]]
set_option maxRecDepth 100000 in
theorem cq106 : mm_chkM 106 bq106 hq106 = true := by decide +kernel
-- LispForge$Machine.leave ()V
def bq107 : List (Nat × List Instr) := [(0, [.aload 0, .invokeinterface 5 5, .ifCond .le 70, .aload 0, .invokeinterface 5 5, .sipush (24), .if_icmp .gt 70, .aload 0, .invokevirtual 103, .istore 1, .aload 0, .aload 0, .invokeinterface 5 8, .multianewarray 5 2, .aload 0, .iload 1, .invokevirtual 101, .aload 0, .dup, .invokeinterface 5 5, .sipush (1), .isub, .multianewarray 5 5, .aload 0, .aload 0, .invokeinterface 5 3, .aload 0, .invokeinterface 5 5, .iaload, .multianewarray 5 8, .aload 0, .aload 0, .invokeinterface 5 4, .aload 0, .invokeinterface 5 5, .iaload, .multianewarray 5 7, .goto_w 70]),
  (70, [.return_])]
def hq107 : List (List (List Nat)) := [[[], [257], [], [], [257], [], [], [], [931, 933, 38, 86, 934], [], [], [], [263], [253], [], [], [922, 924, 36, 86, 925], [], [], [257], [], [], [257], [], [], [255], [], [257], [], [263], [], [], [256], [], [257], [], [261], []],
  [[]]]
set_option maxRecDepth 100000 in
theorem cq107 : mm_chkM 107 bq107 hq107 = true := by decide +kernel
