-- LispForge$Compiler.settle (LLispForge$Form;LLispForge$Replacement;)V
def bq55_0 : List (Nat × List Instr) := [(0, [.aload 1, .astore 3, .aload 2, .astore 4, .sipush (0), .istore 5, .goto_w 8]),
  (8, [.iload 5, .sipush (12), .if_icmp .gt 104, .aload 0, .aload 3, .aload 4, .invokevirtual 56, .aload 0, .invokeinterface 2 10, .astore 3, .aload 0, .invokeinterface 2 11, .astore 4, .aload 3, .ifnonnull 48, .checkcast 1]),
  (48, [.aload 0, .aload 3, .invokeinterface 3 3, .aload 4, .invokevirtual 56, .aload 0, .invokevirtual 58, .astore 6, .aload 6, .ifnonnull 81, .aload 0, .aload 3, .multianewarray 2 10, .aload 0, .aload 4, .multianewarray 2 11, .return_])]
def hq55_0 : List (List (List Nat)) := [[[], [], [], [], [], [], []],
  [[], [], [], [], [], [], [673, 675, 12, 84, 676], [], [192], [], [], [193], [], [], [], [568, 681]],
  [[], [], [446], [], [673, 675, 12, 84, 676], [], [682, 684, 13, 84, 685], [], [], [], [], [], [192], [], [], [193], []]]
set_option maxRecDepth 100000 in
theorem cq55_0 : mm_chkM 55 bq55_0 hq55_0 = true := by decide +kernel
def bq55_1 : List (Nat × List Instr) := [(81, [.aload 0, .aload 6, .aload 3, .aload 4, .invokevirtual 60, .astore 4, .aload 6, .invokeinterface 9 3, .astore 3, .iinc 5 (1), .goto 8]),
  (104, [.checkcast 1])]
def hq55_1 : List (List (List Nat)) := [[[], [], [], [], [690, 692, 14, 84, 693], [], [], [624], [], [], []],
  [[568, 698]]]
set_option maxRecDepth 100000 in
theorem cq55_1 : mm_chkM 55 bq55_1 hq55_1 = true := by decide +kernel
-- LispForge$Compiler.follow (LLispForge$Form;LLispForge$Replacement;)V
def bq56_0 : List (Nat × List Instr) := [(0, [.aload 0, .aload 1, .multianewarray 2 10, .aload 0, .aload 2, .multianewarray 2 11, .aload 2, .astore 3, .goto_w 12]),
  (12, [.aload 3, .ifnull 79, .aload 0, .invokeinterface 2 10, .ifnull 34, .aload 0, .invokeinterface 2 10, .invokeinterface 3 0, .sipush (1), .if_icmp .eq 38, .goto_w 34]),
  (34, [.aconst_null, .goto 49]),
  (38, [.aload 3, .aload 0, .invokeinterface 2 10, .invokeinterface 3 1, .invokevirtual 57, .goto_w 49]),
  (49, [.astore 4, .aload 4, .ifnonnull 57, .return_]),
  (57, [.aload 0, .aload 4, .multianewarray 2 10, .aload 0, .aload 3, .invokeinterface 7 2, .multianewarray 2 11, .aload 3, .invokeinterface 7 2, .astore 3, .goto 12]),
  (79, [.return_])]
def hq56_0 : List (List (List Nat)) := [[[], [], [192], [], [], [193], [], [], []],
  [[], [], [], [192], [], [], [192], [438], [], [], []],
  [[], []],
  [[], [], [192], [441], [677, 678, 679, 95, 680], []],
  [[], [], [], []],
  [[], [], [192], [], [], [708], [193], [], [708], [], []],
  [[]]]
set_option maxRecDepth 100000 in
theorem cq56_0 : mm_chkM 56 bq56_0 hq56_0 = true := by decide +kernel
-- LispForge$Replacement.argumentFor (I)LLispForge$Form;
def bq57_0 : List (Nat × List Instr) := [(0, [.aload 0, .invokeinterface 7 1, .astore 2, .sipush (0), .istore 3, .goto_w 7]),
  (7, [.iload 3, .aload 0, .invokeinterface 7 0, .invokeinterface 9 2, .arraylength, .if_icmp .ge 49, .aload 2, .ifnull 49, .aload 0, .invokeinterface 7 0, .invokeinterface 9 2, .iload 3, .iaload, .iload 1, .if_icmp .ne 38, .aload 2, .areturn]),
  (38, [.aload 2, .invokeinterface 3 5, .astore 2, .iinc 3 (1), .goto 7]),
  (49, [.aconst_null, .areturn])]
def hq57_0 : List (List (List Nat)) := [[[], [706], [], [], [], []],
  [[], [], [705], [620], [], [], [], [], [], [705], [620], [], [], [], [], [], []],
  [[], [448], [], [], []],
  [[], []]]
set_option maxRecDepth 100000 in
theorem cq57_0 : mm_chkM 57 bq57_0 hq57_0 = true := by decide +kernel
-- LispForge$Compiler.macroSeen ()LLispForge$Unit;
def bq58_0 : List (Nat × List Instr) := [(0, [.aload 0, .invokeinterface 2 10, .ifnull 36, .aload 0, .invokeinterface 2 10, .invokeinterface 3 0, .sipush (1), .if_icmp .ne 36, .aload 0, .invokeinterface 2 0, .sipush (2), .aload 0, .invokeinterface 2 10, .invokeinterface 3 1, .invokevirtual 59, .goto 37]),
  (36, [.aconst_null, .goto_w 37]),
  (37, [.areturn])]
def hq58_0 : List (List (List Nat)) := [[[], [192], [], [], [192], [438], [], [], [], [182], [], [], [192], [441], [686, 687, 688, 83, 689], []],
  [[], []],
  [[]]]
set_option maxRecDepth 100000 in
theorem cq58_0 : mm_chkM 58 bq58_0 hq58_0 = true := by decide +kernel
-- LispForge$Shelf.latest (II)LLispForge$Unit;
def bq59_0 : List (Nat × List Instr) := [(0, [.aload 0, .invokeinterface 8 1, .sipush (1), .isub, .istore 3, .goto_w 7]),
  (7, [.iload 3, .ifCond .lt 51, .aload 0, .invokeinterface 8 0, .iload 3, .aaload, .astore 4, .aload 4, .ifnull 45, .aload 4, .invokeinterface 9 0, .iload 1, .if_icmp .ne 45, .aload 4, .invokeinterface 9 1, .iload 2, .if_icmp .ne 45, .aload 4, .areturn]),
  (45, [.iinc 3 (-1), .goto 7]),
  (51, [.aconst_null, .areturn])]
def hq59_0 : List (List (List Nat)) := [[[], [168], [], [], [], []],
  [[], [], [], [167], [], [], [], [], [], [], [614], [], [], [], [617], [], [], [], []],
  [[], []],
  [[], []]]
set_option maxRecDepth 100000 in
theorem cq59_0 : mm_chkM 59 bq59_0 hq59_0 = true := by decide +kernel
-- LispForge$Compiler.replacementBy (LLispForge$Unit;LLispForge$Form;LLispForge$Replacement;)LLispForge$Replacement;
def bq60_0 : List (Nat × List Instr) := [(0, [.aload 2, .aload 1, .invokeinterface 9 2, .arraylength, .sipush (1), .iadd, .invokestatic 61, .aload 0, .invokeinterface 2 9, .sipush (12), .if_icmp .ne 31, .checkcast 1]),
  (31, [.aload 0, .dup, .invokeinterface 2 9, .sipush (1), .iadd, .multianewarray 2 9, .new 7, .dup, .aload 1, .aload 2, .sipush (1), .invokevirtual 45, .aload 3, .invokevirtual 62, .areturn])]
def hq60_0 : List (List (List Nat)) := [[[], [], [622], [], [], [], [694, 695, 84, 696], [], [191], [], [], [568, 698]],
  [[], [], [191], [], [], [191], [699, 700, 95], [], [], [], [], [559, 560, 561, 88, 562], [], [701, 702, 95, 703], []]]
set_option maxRecDepth 100000 in
theorem cq60_0 : mm_chkM 60 bq60_0 hq60_0 = true := by decide +kernel
-- LispForge$Compiler.requireSize (LLispForge$Form;I)V
def bq61_0 : List (Nat × List Instr) := [(0, [.aload 0, .invokeinterface 3 2, .iload 1, .if_icmp .eq 19, .checkcast 1]),
  (19, [.return_])]
def hq61_0 : List (List (List Nat)) := [[[], [443], [], [], [568, 697]],
  [[]]]
set_option maxRecDepth 100000 in
theorem cq61_0 : mm_chkM 61 bq61_0 hq61_0 = true := by decide +kernel
-- LispForge$Replacement.<init> (LLispForge$Unit;LLispForge$Form;LLispForge$Replacement;)V
def bq62_0 : List (Nat × List Instr) := [(0, [.aload 0, .invokespecial 0, .aload 0, .aload 1, .multianewarray 7 0, .aload 0, .aload 2, .multianewarray 7 1, .aload 0, .aload 3, .multianewarray 7 2, .return_])]
def hq62_0 : List (List (List Nat)) := [[[], [704, 105, 106], [], [], [705], [], [], [706], [], [], [707], []]]
set_option maxRecDepth 100000 in
theorem cq62_0 : mm_chkM 62 bq62_0 hq62_0 = true := by decide +kernel
-- LispForge$Compiler.putNumber (I)V
def bq63_0 : List (Nat × List Instr) := [(0, [.aload 0, .sipush (0), .invokevirtual 64, .aload 0, .iload 1, .sipush (8), .ishr, .invokevirtual 64, .aload 0, .iload 1, .invokevirtual 64, .return_])]
def hq63_0 : List (List (List Nat)) := [[[], [], [720, 722, 16, 84, 723], [], [], [], [], [720, 722, 16, 84, 723], [], [], [720, 722, 16, 84, 723], []]]
set_option maxRecDepth 100000 in
theorem cq63_0 : mm_chkM 63 bq63_0 hq63_0 = true := by decide +kernel
-- LispForge$Compiler.emit (I)V
def bq64_0 : List (Nat × List Instr) := [(0, [.aload 0, .invokeinterface 2 1, .invokevirtual 10, .ifCond .ne 20, .checkcast 1]),
  (20, [.aload 0, .invokeinterface 2 1, .iload 1, .invokevirtual 11, .return_])]
def hq64_0 : List (List (List Nat)) := [[[], [183], [724, 321, 322, 80, 323], [], [568, 725]],
  [[], [183], [], [726, 325, 326, 80, 327], []]]
set_option maxRecDepth 100000 in
theorem cq64_0 : mm_chkM 64 bq64_0 hq64_0 = true := by decide +kernel
-- LispForge$Compiler.slotOf (I)I
def bq65_0 : List (Nat × List Instr) := [(0, [.aload 0, .invokeinterface 2 8, .sipush (1), .isub, .istore 2, .goto_w 7]),
  (7, [.iload 2, .ifCond .lt 34, .aload 0, .invokeinterface 2 6, .iload 2, .iaload, .iload 1, .if_icmp .ne 28, .aload 0, .invokeinterface 2 7, .iload 2, .iaload, .ireturn]),
  (28, [.iinc 2 (-1), .goto 7]),
  (34, [.checkcast 1])]
def hq65_0 : List (List (List Nat)) := [[[], [190], [], [], [], []],
  [[], [], [], [188], [], [], [], [], [], [189], [], [], []],
  [[], []],
  [[568, 731]]]
set_option maxRecDepth 100000 in
theorem cq65_0 : mm_chkM 65 bq65_0 hq65_0 = true := by decide +kernel
-- LispForge$Compiler.symbolSeen ()I
def bq66_0 : List (Nat × List Instr) := [(0, [.aload 0, .invokeinterface 2 10, .ifnull 18, .aload 0, .invokeinterface 2 10, .invokeinterface 3 0, .sipush (1), .if_icmp .eq 29, .goto_w 18]),
  (18, [.checkcast 1]),
  (29, [.aload 0, .invokeinterface 2 10, .invokeinterface 3 1, .ireturn])]
def hq66_0 : List (List (List Nat)) := [[[], [192], [], [], [192], [438], [], [], []],
  [[568, 736]],
  [[], [192], [441], []]]
set_option maxRecDepth 100000 in
theorem cq66_0 : mm_chkM 66 bq66_0 hq66_0 = true := by decide +kernel
-- LispForge$Compiler.operationOf (I)I
def bq67_0 : List (Nat × List Instr) := [(0, [.iload 0, .lookupswitch 52 #[(42, 48), (43, 44), (45, 46), (60, 50)]]),
  (44, [.sipush (2), .ireturn]),
  (46, [.sipush (3), .ireturn]),
  (48, [.sipush (4), .ireturn]),
  (50, [.sipush (5), .ireturn]),
  (52, [.sipush (6), .ireturn])]
def hq67_0 : List (List (List Nat)) := [[[], []],
  [[], []],
  [[], []],
  [[], []],
  [[], []],
  [[], []]]
set_option maxRecDepth 100000 in
theorem cq67_0 : mm_chkM 67 bq67_0 hq67_0 = true := by decide +kernel
-- LispForge$Compiler.putPair (LLispForge$Form;LLispForge$Replacement;III)V
def bq68_0 : List (Nat × List Instr) := [(0, [.aload 1, .sipush (3), .invokestatic 61, .aload 0, .aload 1, .sipush (1), .invokevirtual 45, .aload 2, .iload 3, .iload 4, .sipush (1), .iadd, .invokevirtual 54, .aload 0, .aload 1, .sipush (2), .invokevirtual 45, .aload 2, .iload 3, .sipush (1), .iadd, .iload 4, .sipush (1), .iadd, .invokevirtual 54, .aload 0, .iload 5, .invokevirtual 64, .return_])]
def hq68_0 : List (List (List Nat)) := [[[], [], [694, 695, 84, 696], [], [], [], [559, 560, 561, 88, 562], [], [], [], [], [], [664, 666, 10, 84, 667], [], [], [], [559, 560, 561, 88, 562], [], [], [], [], [], [], [], [664, 666, 10, 84, 667], [], [], [720, 722, 16, 84, 723], []]]
set_option maxRecDepth 100000 in
theorem cq68_0 : mm_chkM 68 bq68_0 hq68_0 = true := by decide +kernel
-- LispForge$Compiler.putIf (LLispForge$Form;LLispForge$Replacement;II)V
def bq69_0 : List (Nat × List Instr) := [(0, [.aload 1, .sipush (4), .invokestatic 61, .aload 0, .aload 1, .sipush (1), .invokevirtual 45, .aload 2, .iload 3, .iload 4, .sipush (1), .iadd, .invokevirtual 54, .aload 0, .sipush (8), .invokevirtual 70, .istore 5, .aload 0, .aload 1, .sipush (2), .invokevirtual 45, .aload 2, .iload 3, .iload 4, .sipush (1), .iadd, .invokevirtual 54, .aload 0, .sipush (7), .invokevirtual 70, .istore 6, .aload 0, .invokeinterface 2 1, .iload 5, .aload 0, .invokeinterface 2 1, .invokeinterface 1 1, .invokevirtual 71, .aload 0, .aload 1, .sipush (3), .invokevirtual 45, .aload 2, .iload 3, .iload 4, .sipush (1), .iadd, .invokevirtual 54, .aload 0, .invokeinterface 2 1, .iload 6, .aload 0, .invokeinterface 2 1, .invokeinterface 1 1, .invokevirtual 71, .return_])]
def hq69_0 : List (List (List Nat)) := [[[], [], [694, 695, 84, 696], [], [], [], [559, 560, 561, 88, 562], [], [], [], [], [], [664, 666, 10, 84, 667], [], [], [748, 750, 21, 84, 751], [], [], [], [], [559, 560, 561, 88, 562], [], [], [], [], [], [664, 666, 10, 84, 667], [], [], [748, 750, 21, 84, 751], [], [], [183], [], [], [183], [121], [752, 753, 754, 80, 755], [], [], [], [559, 560, 561, 88, 562], [], [], [], [], [], [664, 666, 10, 84, 667], [], [183], [], [], [183], [121], [752, 753, 754, 80, 755], []]]
set_option maxRecDepth 100000 in
theorem cq69_0 : mm_chkM 69 bq69_0 hq69_0 = true := by decide +kernel
-- LispForge$Compiler.putJump (I)I
def bq70_0 : List (Nat × List Instr) := [(0, [.aload 0, .iload 1, .invokevirtual 64, .aload 0, .sipush (0), .invokevirtual 64, .aload 0, .sipush (0), .invokevirtual 64, .aload 0, .invokeinterface 2 1, .invokeinterface 1 1, .sipush (2), .isub, .ireturn])]
def hq70_0 : List (List (List Nat)) := [[[], [], [720, 722, 16, 84, 723], [], [], [720, 722, 16, 84, 723], [], [], [720, 722, 16, 84, 723], [], [183], [121], [], [], []]]
set_option maxRecDepth 100000 in
theorem cq70_0 : mm_chkM 70 bq70_0 hq70_0 = true := by decide +kernel
-- LispForge$Bytes.setTwo (II)V
def bq71_0 : List (Nat × List Instr) := [(0, [.iload 1, .ifCond .lt 41, .iload 1, .aload 0, .invokeinterface 1 1, .sipush (1), .isub, .if_icmp .ge 41, .aload 0, .invokeinterface 1 0, .iload 1, .iload 2, .sipush (8), .ishr, .sipush (255), .iand, .iastore, .aload 0, .invokeinterface 1 0, .iload 1, .sipush (1), .iadd, .iload 2, .sipush (255), .iand, .iastore, .goto_w 41]),
  (41, [.return_])]
def hq71_0 : List (List (List Nat)) := [[[], [], [], [], [117], [], [], [], [], [116], [], [], [], [], [], [], [], [], [116], [], [], [], [], [], [], [], []],
  [[]]]
set_option maxRecDepth 100000 in
theorem cq71_0 : mm_chkM 71 bq71_0 hq71_0 = true := by decide +kernel
