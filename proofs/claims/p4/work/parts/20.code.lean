-- LispForge.link ()I
def bq87_0 : List (Nat × List Instr) := [(0, [.aload 0, .aload 0, .invokeinterface 0 4, .invokevirtual 88, .multianewarray 0 7, .aload 0, .invokeinterface 0 7, .ifCond .eq 28, .checkcast 2]),
  (28, [.aload 0, .invokeinterface 0 4, .aload 0, .invokeinterface 0 5, .invokeinterface 5 0, .invokevirtual 92, .aload 0, .invokeinterface 0 5, .invokevirtual 22, .aload 0, .invokeinterface 0 5, .invokeinterface 5 0, .invokeinterface 1 1, .ireturn])]
def hq87_0 : List (List (List Nat)) := [[[], [], [292], [857, 858, 859, 85, 860], [295], [], [295], [], [829, 875]],
  [[], [292], [], [293], [251], [876, 877, 878, 85, 879], [], [293], [368, 369, 370, 86, 371], [], [293], [251], [120], []]]
set_option maxRecDepth 100000 in
theorem cq87_0 : mm_chkM 87 bq87_0 hq87_0 = true := by decide +kernel
-- LispForge$Linker.gather ()I
def bq88_0 : List (Nat × List Instr) := [(0, [.aload 0, .sipush (0), .multianewarray 4 3, .aload 0, .sipush (0), .multianewarray 4 4, .aload 0, .invokeinterface 4 0, .sipush (0), .sipush (0), .invokevirtual 59, .astore 1, .aload 1, .ifnonnull 26, .sipush (1), .ireturn]),
  (26, [.aload 0, .aload 1, .invokevirtual 89, .sipush (0), .istore 2, .goto_w 33]),
  (33, [.iload 2, .sipush (16), .if_icmp .ge 70, .iload 2, .aload 0, .invokeinterface 4 3, .if_icmp .ge 70, .aload 0, .aload 0, .invokeinterface 4 1, .iload 2, .aaload, .invokevirtual 90, .istore 3, .iload 3, .ifCond .eq 64, .iload 3, .ireturn]),
  (64, [.iinc 2 (1), .goto 33])]
def hq88_0 : List (List (List Nat)) := [[[], [], [229], [], [], [230], [], [226], [], [], [861, 687, 688, 83, 689], [], [], [], [], []],
  [[], [], [862, 864, 29, 85, 865], [], [], []],
  [[], [], [], [], [], [229], [], [], [], [227], [], [], [866, 868, 30, 85, 869], [], [], [], [], []],
  [[], []]]
set_option maxRecDepth 100000 in
theorem cq88_0 : mm_chkM 88 bq88_0 hq88_0 = true := by decide +kernel
def bq88_1 : List (Nat × List Instr) := [(70, [.aload 0, .invokeinterface 4 4, .sipush (600), .if_icmp .le 84, .sipush (4), .goto 85]),
  (84, [.sipush (0), .goto_w 85]),
  (85, [.ireturn])]
def hq88_1 : List (List (List Nat)) := [[[], [230], [], [], [], []],
  [[], []],
  [[]]]
set_option maxRecDepth 100000 in
theorem cq88_1 : mm_chkM 88 bq88_1 hq88_1 = true := by decide +kernel
-- LispForge$Linker.add (LLispForge$Unit;)V
def bq89_0 : List (Nat × List Instr) := [(0, [.aload 0, .invokeinterface 4 3, .sipush (16), .if_icmp .ge 58, .aload 0, .invokeinterface 4 1, .aload 0, .invokeinterface 4 3, .aload 1, .aastore, .aload 0, .invokeinterface 4 2, .aload 0, .invokeinterface 4 3, .aload 0, .invokeinterface 4 4, .iastore, .aload 0, .dup, .invokeinterface 4 3, .sipush (1), .iadd, .multianewarray 4 3, .aload 0, .dup, .invokeinterface 4 4, .aload 1, .invokeinterface 9 4, .invokeinterface 1 1, .iadd, .multianewarray 4 4, .goto_w 58]),
  (58, [.return_])]
def hq89_0 : List (List (List Nat)) := [[[], [229], [], [], [], [227], [], [229], [], [], [], [228], [], [229], [], [230], [], [], [], [229], [], [], [229], [], [], [230], [], [626], [119], [], [230], []],
  [[]]]
set_option maxRecDepth 100000 in
theorem cq89_0 : mm_chkM 89 bq89_0 hq89_0 = true := by decide +kernel
-- LispForge$Linker.gatherCalledBy (LLispForge$Unit;)I
def bq90_0 : List (Nat × List Instr) := [(0, [.sipush (0), .istore 2, .goto_w 2]),
  (2, [.iload 2, .aload 1, .invokeinterface 9 7, .arraylength, .if_icmp .ge 86, .iload 2, .aload 1, .invokeinterface 9 6, .arraylength, .if_icmp .ge 86, .aload 0, .invokeinterface 4 0, .sipush (1), .aload 1, .invokeinterface 9 7, .iload 2, .iaload, .invokevirtual 59, .astore 3, .aload 3, .ifnonnull 41, .sipush (2), .ireturn]),
  (41, [.aload 3, .invokeinterface 9 2, .arraylength, .aload 1, .invokeinterface 9 4, .aload 1, .invokeinterface 9 6, .iload 2, .iaload, .sipush (2), .iadd, .invokevirtual 16, .if_icmp .eq 66, .sipush (3), .ireturn])]
def hq90_0 : List (List (List Nat)) := [[[], [], []],
  [[], [], [635], [], [], [], [], [632], [], [], [], [226], [], [], [635], [], [], [861, 687, 688, 83, 689], [], [], [], [], []],
  [[], [621], [], [], [626], [], [632], [], [], [], [], [870, 345, 346, 80, 347], [], [], []]]
set_option maxRecDepth 100000 in
theorem cq90_0 : mm_chkM 90 bq90_0 hq90_0 = true := by decide +kernel
def bq90_1 : List (Nat × List Instr) := [(66, [.aload 0, .aload 3, .invokevirtual 91, .sipush (-1), .if_icmp .ne 80, .aload 0, .aload 3, .invokevirtual 89, .goto_w 80]),
  (80, [.iinc 2 (1), .goto 2]),
  (86, [.sipush (0), .ireturn])]
def hq90_1 : List (List (List Nat)) := [[[], [], [871, 873, 31, 85, 874], [], [], [], [], [862, 864, 29, 85, 865], []],
  [[], []],
  [[], []]]
set_option maxRecDepth 100000 in
theorem cq90_1 : mm_chkM 90 bq90_1 hq90_1 = true := by decide +kernel
-- LispForge$Linker.beginningOf (LLispForge$Unit;)I
def bq91_0 : List (Nat × List Instr) := [(0, [.sipush (0), .istore 2, .goto_w 2]),
  (2, [.iload 2, .aload 0, .invokeinterface 4 3, .if_icmp .ge 33, .aload 0, .invokeinterface 4 1, .iload 2, .aaload, .aload 1, .if_acmp .ne 27, .aload 0, .invokeinterface 4 2, .iload 2, .iaload, .ireturn]),
  (27, [.iinc 2 (1), .goto 2]),
  (33, [.sipush (-1), .ireturn])]
def hq91_0 : List (List (List Nat)) := [[[], [], []],
  [[], [], [229], [], [], [227], [], [], [], [], [], [228], [], [], []],
  [[], []],
  [[], []]]
set_option maxRecDepth 100000 in
theorem cq91_0 : mm_chkM 91 bq91_0 hq91_0 = true := by decide +kernel
-- LispForge$Linker.fill (LLispForge$Bytes;)V
def bq92_0 : List (Nat × List Instr) := [(0, [.aload 1, .invokevirtual 43, .sipush (0), .istore 2, .goto_w 6]),
  (6, [.iload 2, .aload 0, .invokeinterface 4 3, .if_icmp .ge 70, .aload 1, .aload 0, .invokeinterface 4 1, .iload 2, .aaload, .invokeinterface 9 4, .invokevirtual 79, .aload 0, .aload 0, .invokeinterface 4 1, .iload 2, .aaload, .invokeinterface 9 4, .aload 1, .aload 0, .invokeinterface 4 2, .iload 2, .iaload, .invokevirtual 93, .aload 0, .aload 0, .invokeinterface 4 1, .iload 2, .aaload, .aload 1, .aload 0, .invokeinterface 4 2, .iload 2, .iaload, .invokevirtual 96, .iinc 2 (1), .goto 6]),
  (70, [.return_])]
def hq92_0 : List (List (List Nat)) := [[[], [880, 484, 485, 80, 486], [], [], []],
  [[], [], [229], [], [], [], [227], [], [], [626], [881, 792, 793, 80, 794], [], [], [227], [], [], [626], [], [], [228], [], [], [882, 884, 32, 85, 885], [], [], [227], [], [], [], [], [228], [], [], [896, 898, 33, 85, 899], [], []],
  [[]]]
set_option maxRecDepth 100000 in
theorem cq92_0 : mm_chkM 92 bq92_0 hq92_0 = true := by decide +kernel
-- LispForge$Linker.moveJumps (LLispForge$Bytes;LLispForge$Bytes;I)V
def bq93_0 : List (Nat × List Instr) := [(0, [.sipush (0), .istore 4, .goto_w 3]),
  (3, [.iload 4, .aload 1, .invokeinterface 1 1, .if_icmp .ge 71, .aload 1, .iload 4, .invokevirtual 16, .istore 5, .iload 5, .sipush (7), .if_icmp .eq 34, .iload 5, .sipush (8), .if_icmp .ne 54, .goto_w 34]),
  (34, [.aload 2, .iload 3, .iload 4, .iadd, .sipush (1), .iadd, .iload 3, .aload 1, .iload 4, .sipush (1), .iadd, .invokevirtual 94, .iadd, .invokevirtual 71, .goto_w 54]),
  (54, [.iload 4, .aload 1, .iload 4, .invokevirtual 16, .invokestatic 95, .iadd, .istore 4, .goto 3]),
  (71, [.return_])]
def hq93_0 : List (List (List Nat)) := [[[], [], []],
  [[], [], [119], [], [], [], [870, 345, 346, 80, 347], [], [], [], [], [], [], [], []],
  [[], [], [], [], [], [], [], [], [], [], [], [886, 887, 888, 80, 889], [], [890, 753, 754, 80, 755], []],
  [[], [], [], [870, 345, 346, 80, 347], [891, 892, 85, 893], [], [], []],
  [[]]]
set_option maxRecDepth 100000 in
theorem cq93_0 : mm_chkM 93 bq93_0 hq93_0 = true := by decide +kernel
-- LispForge$Bytes.twoAt (I)I
def bq94_0 : List (Nat × List Instr) := [(0, [.iload 1, .ifCond .lt 35, .iload 1, .aload 0, .invokeinterface 1 1, .sipush (1), .isub, .if_icmp .ge 35, .aload 0, .invokeinterface 1 0, .iload 1, .iaload, .sipush (8), .ishl, .aload 0, .invokeinterface 1 0, .iload 1, .sipush (1), .iadd, .iaload, .ior, .goto 36]),
  (35, [.sipush (-1), .goto_w 36]),
  (36, [.ireturn])]
def hq94_0 : List (List (List Nat)) := [[[], [], [], [], [117], [], [], [], [], [116], [], [], [], [], [], [116], [], [], [], [], [], []],
  [[], []],
  [[]]]
set_option maxRecDepth 100000 in
theorem cq94_0 : mm_chkM 94 bq94_0 hq94_0 = true := by decide +kernel
-- LispForge$Linker.lengthOf (I)I
def bq95_0 : List (Nat × List Instr) := [(0, [.iload 0, .ifCond .lt 20, .iload 0, .getstatic 0, .arraylength, .if_icmp .ge 20, .getstatic 0, .iload 0, .iaload, .goto 21]),
  (20, [.sipush (1), .goto_w 21]),
  (21, [.ireturn])]
def hq95_0 : List (List (List Nat)) := [[[], [], [], [894], [], [], [894], [], [], []],
  [[], []],
  [[]]]
set_option maxRecDepth 100000 in
theorem cq95_0 : mm_chkM 95 bq95_0 hq95_0 = true := by decide +kernel
-- LispForge$Linker.setCalls (LLispForge$Unit;LLispForge$Bytes;I)V
def bq96_0 : List (Nat × List Instr) := [(0, [.sipush (0), .istore 4, .goto_w 3]),
  (3, [.iload 4, .aload 1, .invokeinterface 9 7, .arraylength, .if_icmp .ge 65, .iload 4, .aload 1, .invokeinterface 9 6, .arraylength, .if_icmp .ge 65, .aload 0, .invokeinterface 4 0, .sipush (1), .aload 1, .invokeinterface 9 7, .iload 4, .iaload, .invokevirtual 59, .astore 5, .aload 2, .iload 3, .aload 1, .invokeinterface 9 6, .iload 4, .iaload, .iadd, .aload 0, .aload 5, .invokevirtual 91, .invokevirtual 71, .iinc 4 (1), .goto 3]),
  (65, [.return_])]
def hq96_0 : List (List (List Nat)) := [[[], [], []],
  [[], [], [635], [], [], [], [], [632], [], [], [], [226], [], [], [635], [], [], [861, 687, 688, 83, 689], [], [], [], [], [632], [], [], [], [], [], [871, 873, 31, 85, 874], [890, 753, 754, 80, 755], [], []],
  [[]]]
set_option maxRecDepth 100000 in
theorem cq96_0 : mm_chkM 96 bq96_0 hq96_0 = true := by decide +kernel
-- LispForge.run (I)I
def bq97_0 : List (Nat × List Instr) := [(0, [.iload 1, .ifCond .lt 11, .iload 1, .sipush (500), .if_icmp .le 21, .goto_w 11]),
  (11, [.checkcast 0]),
  (21, [.aload 0, .invokeinterface 0 5, .iload 1, .invokevirtual 98, .ireturn])]
def hq97_0 : List (List (List Nat)) := [[[], [], [], [], [], []],
  [[487, 907]],
  [[], [293], [], [908, 909, 910, 86, 911], []]]
set_option maxRecDepth 100000 in
theorem cq97_0 : mm_chkM 97 bq97_0 hq97_0 = true := by decide +kernel
-- LispForge$Machine.makeSteps (I)I
def bq98_0 : List (Nat × List Instr) := [(0, [.sipush (0), .istore 2, .goto_w 2]),
  (2, [.iload 2, .iload 1, .if_icmp .ge 25, .aload 0, .invokeinterface 5 6, .sipush (1), .if_icmp .ne 25, .aload 0, .invokevirtual 99, .iinc 2 (1), .goto 2]),
  (25, [.iload 2, .ireturn])]
def hq98_0 : List (List (List Nat)) := [[[], [], []],
  [[], [], [], [], [259], [], [], [], [912, 914, 34, 86, 915], [], []],
  [[], []]]
set_option maxRecDepth 100000 in
theorem cq98_0 : mm_chkM 98 bq98_0 hq98_0 = true := by decide +kernel
