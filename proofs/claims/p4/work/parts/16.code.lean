-- LispForge$Reader.read (LLispForge$Bytes;)LLispForge$Form;
def bq28_0 : List (Nat × List Instr) := [(0, [.aload 0, .sipush (0), .multianewarray 6 1, .aload 0, .aconst_null, .multianewarray 6 2, .aload 0, .aconst_null, .multianewarray 6 3, .sipush (0), .istore 2, .goto_w 17]),
  (17, [.iload 2, .aload 1, .invokeinterface 1 1, .if_icmp .ge 50, .aload 0, .aload 1, .iload 2, .invokevirtual 16, .invokevirtual 29, .ifCond .ne 44, .aload 0, .iload 2, .multianewarray 6 6, .aconst_null, .areturn]),
  (44, [.iinc 2 (1), .goto 17]),
  (50, [.aload 0, .aload 1, .invokeinterface 1 1, .multianewarray 6 6, .aload 0, .invokeinterface 6 1, .ifCond .ne 72, .aload 0, .invokeinterface 6 2, .goto 73]),
  (72, [.aconst_null, .goto_w 73]),
  (73, [.areturn])]
def hq28_0 : List (List (List Nat)) := [[[], [], [137], [], [], [138], [], [], [139], [], [], []],
  [[], [], [118], [], [], [], [], [402, 345, 346, 80, 347], [403, 405, 0, 82, 406], [], [], [], [142], [], []],
  [[], []],
  [[], [], [118], [142], [], [137], [], [], [138], []],
  [[], []],
  [[]]]
set_option maxRecDepth 100000 in
theorem cq28_0 : mm_chkM 28 bq28_0 hq28_0 = true := by decide +kernel
-- LispForge$Reader.takes (I)Z
def bq29_0 : List (Nat × List Instr) := [(0, [.aload 0, .iload 1, .invokevirtual 30, .ifCond .eq 10, .sipush (1), .freturn]),
  (10, [.aload 0, .invokeinterface 6 3, .ifnull 21, .sipush (1), .goto 22]),
  (21, [.sipush (0), .goto_w 22]),
  (22, [.istore 2, .aload 0, .aconst_null, .multianewarray 6 3, .iload 1, .lookupswitch 76 #[(32, 64), (40, 66), (41, 71)]]),
  (64, [.sipush (1), .freturn]),
  (66, [.aload 0, .invokevirtual 36, .freturn]),
  (71, [.aload 0, .invokevirtual 40, .freturn]),
  (76, [.iload 2, .ifCond .ne 92, .aload 0, .iload 1, .invokevirtual 41, .ifCond .eq 92, .sipush (1), .goto 93]),
  (92, [.sipush (0), .goto_w 93]),
  (93, [.freturn])]
def hq29_0 : List (List (List Nat)) := [[[], [], [407, 409, 1, 82, 410], [], [], []],
  [[], [139], [], [], []],
  [[], []],
  [[], [], [], [139], [], []],
  [[], []],
  [[], [428, 430, 3, 82, 431], []],
  [[], [472, 474, 5, 82, 475], []],
  [[], [], [], [], [476, 478, 6, 82, 479], [], [], []],
  [[], []],
  [[]]]
set_option maxRecDepth 100000 in
theorem cq29_0 : mm_chkM 29 bq29_0 hq29_0 = true := by decide +kernel
-- LispForge$Reader.lengthensAtom (I)Z
def bq30_0 : List (Nat × List Instr) := [(0, [.aload 0, .invokeinterface 6 3, .ifnonnull 9, .sipush (0), .freturn]),
  (9, [.iload 1, .invokestatic 31, .ifCond .eq 25, .aload 0, .iload 1, .sipush (48), .isub, .invokevirtual 32, .freturn]),
  (25, [.iload 1, .invokestatic 33, .ifCond .eq 50, .aload 0, .invokeinterface 6 3, .invokevirtual 34, .ifCond .eq 50, .aload 0, .invokeinterface 6 4, .sipush (4), .if_icmp .ne 52, .goto_w 50]),
  (50, [.sipush (0), .freturn])]
def hq30_0 : List (List (List Nat)) := [[[], [139], [], [], []],
  [[], [411, 412, 82, 413], [], [], [], [], [], [414, 416, 2, 82, 417], []],
  [[], [418, 419, 82, 420], [], [], [139], [421, 422, 423, 88, 424], [], [], [140], [], [], []],
  [[], []]]
set_option maxRecDepth 100000 in
theorem cq30_0 : mm_chkM 30 bq30_0 hq30_0 = true := by decide +kernel
def bq30_1 : List (Nat × List Instr) := [(52, [.aload 0, .invokeinterface 6 3, .aload 0, .invokeinterface 6 3, .invokeinterface 3 1, .sipush (8), .ishl, .iload 1, .ior, .multianewarray 3 1, .aload 0, .dup, .invokeinterface 6 4, .sipush (1), .iadd, .multianewarray 6 4, .sipush (1), .freturn])]
def hq30_1 : List (List (List Nat)) := [[[], [139], [], [139], [442], [], [], [], [], [442], [], [], [140], [], [], [140], [], []]]
set_option maxRecDepth 100000 in
theorem cq30_1 : mm_chkM 30 bq30_1 hq30_1 = true := by decide +kernel
-- LispForge$Reader.isDigit (I)Z
def bq31_0 : List (Nat × List Instr) := [(0, [.iload 0, .sipush (48), .if_icmp .lt 16, .iload 0, .sipush (57), .if_icmp .gt 16, .sipush (1), .goto 17]),
  (16, [.sipush (0), .goto_w 17]),
  (17, [.freturn])]
def hq31_0 : List (List (List Nat)) := [[[], [], [], [], [], [], [], []],
  [[], []],
  [[]]]
set_option maxRecDepth 100000 in
theorem cq31_0 : mm_chkM 31 bq31_0 hq31_0 = true := by decide +kernel
-- LispForge$Reader.addsDigit (I)Z
def bq32_0 : List (Nat × List Instr) := [(0, [.aload 0, .invokeinterface 6 3, .invokeinterface 3 0, .sipush (1), .if_icmp .ne 49, .aload 0, .invokeinterface 6 3, .invokeinterface 3 1, .sipush (45), .if_icmp .ne 49, .aload 0, .invokeinterface 6 3, .sipush (0), .multianewarray 3 0, .aload 0, .invokeinterface 6 3, .sipush (0), .multianewarray 3 1, .aload 0, .sipush (0), .multianewarray 6 4, .aload 0, .sipush (1), .multianewarray 6 5, .goto_w 49]),
  (49, [.aload 0, .invokeinterface 6 3, .invokeinterface 3 0, .ifCond .ne 67, .aload 0, .invokeinterface 6 4, .sipush (4), .if_icmp .ne 69, .goto_w 67]),
  (67, [.sipush (0), .freturn])]
def hq32_0 : List (List (List Nat)) := [[[], [139], [439], [], [], [], [139], [442], [], [], [], [139], [], [439], [], [139], [], [442], [], [], [140], [], [], [141], []],
  [[], [139], [439], [], [], [140], [], [], []],
  [[], []]]
set_option maxRecDepth 100000 in
theorem cq32_0 : mm_chkM 32 bq32_0 hq32_0 = true := by decide +kernel
def bq32_1 : List (Nat × List Instr) := [(69, [.aload 0, .invokeinterface 6 3, .aload 0, .invokeinterface 6 3, .invokeinterface 3 1, .sipush (10), .imul, .aload 0, .invokeinterface 6 5, .ifCond .eq 95, .iload 1, .ineg, .goto 96]),
  (95, [.iload 1, .goto_w 96]),
  (96, [.iadd, .multianewarray 3 1, .aload 0, .dup, .invokeinterface 6 4, .sipush (1), .iadd, .multianewarray 6 4, .sipush (1), .freturn])]
def hq32_1 : List (List (List Nat)) := [[[], [139], [], [139], [442], [], [], [], [141], [], [], [], []],
  [[], []],
  [[], [442], [], [], [140], [], [], [140], [], []]]
set_option maxRecDepth 100000 in
theorem cq32_1 : mm_chkM 32 bq32_1 hq32_1 = true := by decide +kernel
-- LispForge$Reader.isLetter (I)Z
def bq33_0 : List (Nat × List Instr) := [(0, [.iload 0, .sipush (97), .if_icmp .lt 16, .iload 0, .sipush (122), .if_icmp .gt 16, .sipush (1), .goto 17]),
  (16, [.sipush (0), .goto_w 17]),
  (17, [.freturn])]
def hq33_0 : List (List (List Nat)) := [[[], [], [], [], [], [], [], []],
  [[], []],
  [[]]]
set_option maxRecDepth 100000 in
theorem cq33_0 : mm_chkM 33 bq33_0 hq33_0 = true := by decide +kernel
-- LispForge$Form.isSymbolOfLetters ()Z
def bq34_0 : List (Nat × List Instr) := [(0, [.aload 0, .invokeinterface 3 0, .sipush (1), .if_icmp .ne 22, .aload 0, .invokeinterface 3 1, .invokestatic 35, .ifCond .eq 22, .sipush (1), .goto 23]),
  (22, [.sipush (0), .goto_w 23]),
  (23, [.freturn])]
def hq34_0 : List (List (List Nat)) := [[[], [437], [], [], [], [440], [425, 426, 79, 427], [], [], []],
  [[], []],
  [[]]]
set_option maxRecDepth 100000 in
theorem cq34_0 : mm_chkM 34 bq34_0 hq34_0 = true := by decide +kernel
-- LispForge.isOfLetters (I)Z
def bq35_0 : List (Nat × List Instr) := [(0, [.iload 0, .sipush (255), .iand, .sipush (97), .if_icmp .lt 14, .sipush (1), .goto 15]),
  (14, [.sipush (0), .goto_w 15]),
  (15, [.freturn])]
def hq35_0 : List (List (List Nat)) := [[[], [], [], [], [], [], []],
  [[], []],
  [[]]]
set_option maxRecDepth 100000 in
theorem cq35_0 : mm_chkM 35 bq35_0 hq35_0 = true := by decide +kernel
-- LispForge$Reader.opensList ()Z
def bq36_0 : List (Nat × List Instr) := [(0, [.aload 0, .invokeinterface 6 1, .sipush (8), .if_icmp .lt 11, .sipush (0), .freturn]),
  (11, [.new 3, .dup, .sipush (2), .sipush (0), .invokevirtual 37, .astore 1, .aload 0, .aload 1, .invokevirtual 38, .ifCond .ne 31, .sipush (0), .freturn]),
  (31, [.aload 0, .invokeinterface 6 0, .aload 0, .invokeinterface 6 1, .aload 1, .aastore, .aload 0, .dup, .invokeinterface 6 1, .sipush (1), .iadd, .multianewarray 6 1, .sipush (1), .freturn])]
def hq36_0 : List (List (List Nat)) := [[[], [137], [], [], [], []],
  [[134, 432, 88], [], [], [], [433, 434, 88, 435], [], [], [], [464, 466, 4, 82, 467], [], [], []],
  [[], [136], [], [137], [], [], [], [], [137], [], [], [137], [], []]]
set_option maxRecDepth 100000 in
theorem cq36_0 : mm_chkM 36 bq36_0 hq36_0 = true := by decide +kernel
-- LispForge$Form.<init> (II)V
def bq37_0 : List (Nat × List Instr) := [(0, [.aload 0, .invokespecial 0, .aload 0, .iload 1, .multianewarray 3 0, .aload 0, .iload 2, .multianewarray 3 1, .return_])]
def hq37_0 : List (List (List Nat)) := [[[], [436, 105, 106], [], [], [437], [], [], [440], []]]
set_option maxRecDepth 100000 in
theorem cq37_0 : mm_chkM 37 bq37_0 hq37_0 = true := by decide +kernel
-- LispForge$Reader.adds (LLispForge$Form;)Z
def bq38_0 : List (Nat × List Instr) := [(0, [.aload 0, .invokeinterface 6 1, .ifCond .le 30, .aload 0, .invokeinterface 6 1, .sipush (8), .if_icmp .gt 30, .aload 0, .invokeinterface 6 0, .aload 0, .invokeinterface 6 1, .sipush (1), .isub, .aaload, .goto 31]),
  (30, [.aconst_null, .goto_w 31]),
  (31, [.astore 2, .aload 2, .ifnull 43, .aload 2, .aload 1, .invokevirtual 39, .sipush (1), .freturn]),
  (43, [.aload 0, .invokeinterface 6 2, .ifnull 52, .sipush (0), .freturn]),
  (52, [.aload 0, .aload 1, .multianewarray 6 2, .sipush (1), .freturn])]
def hq38_0 : List (List (List Nat)) := [[[], [137], [], [], [137], [], [], [], [136], [], [137], [], [], [], []],
  [[], []],
  [[], [], [], [], [], [468, 469, 470, 88, 471], [], []],
  [[], [138], [], [], []],
  [[], [], [138], [], []]]
set_option maxRecDepth 100000 in
theorem cq38_0 : mm_chkM 38 bq38_0 hq38_0 = true := by decide +kernel
-- LispForge$Form.append (LLispForge$Form;)V
def bq39_0 : List (Nat × List Instr) := [(0, [.aload 0, .invokeinterface 3 4, .ifnonnull 15, .aload 0, .aload 1, .multianewarray 3 3, .goto 23]),
  (15, [.aload 0, .invokeinterface 3 4, .aload 1, .multianewarray 3 5, .goto_w 23]),
  (23, [.aload 0, .aload 1, .multianewarray 3 4, .aload 0, .dup, .invokeinterface 3 2, .sipush (1), .iadd, .multianewarray 3 2, .return_])]
def hq39_0 : List (List (List Nat)) := [[[], [447], [], [], [], [445], []],
  [[], [447], [], [449], []],
  [[], [], [447], [], [], [444], [], [], [444], []]]
set_option maxRecDepth 100000 in
theorem cq39_0 : mm_chkM 39 bq39_0 hq39_0 = true := by decide +kernel
-- LispForge$Reader.closesList ()Z
def bq40_0 : List (Nat × List Instr) := [(0, [.aload 0, .invokeinterface 6 1, .ifCond .ne 9, .sipush (0), .freturn]),
  (9, [.aload 0, .dup, .invokeinterface 6 1, .sipush (1), .isub, .multianewarray 6 1, .sipush (1), .freturn])]
def hq40_0 : List (List (List Nat)) := [[[], [137], [], [], []],
  [[], [], [137], [], [], [137], [], []]]
set_option maxRecDepth 100000 in
theorem cq40_0 : mm_chkM 40 bq40_0 hq40_0 = true := by decide +kernel
-- LispForge$Reader.beginsAtom (I)Z
def bq41_0 : List (Nat × List Instr) := [(0, [.iload 1, .invokestatic 31, .istore 2, .iload 2, .ifCond .ne 25, .iload 1, .invokestatic 33, .ifCond .ne 25, .iload 1, .invokestatic 42, .ifCond .ne 25, .sipush (0), .freturn]),
  (25, [.aload 0, .new 3, .dup, .iload 2, .ifCond .eq 38, .sipush (0), .goto 39]),
  (38, [.sipush (1), .goto_w 39]),
  (39, [.iload 2, .ifCond .eq 50, .iload 1, .sipush (48), .isub, .goto 51]),
  (50, [.iload 1, .goto_w 51]),
  (51, [.invokevirtual 37, .multianewarray 6 3, .aload 0, .sipush (1), .multianewarray 6 4, .aload 0, .sipush (0), .multianewarray 6 5, .aload 0, .aload 0, .invokeinterface 6 3, .invokevirtual 38, .freturn])]
def hq41_0 : List (List (List Nat)) := [[[], [411, 412, 82, 413], [], [], [], [], [418, 419, 82, 420], [], [], [480, 481, 82, 482], [], [], []],
  [[], [134, 432, 88], [], [], [], [], []],
  [[], []],
  [[], [], [], [], [], []],
  [[], []],
  [[433, 434, 88, 435], [139], [], [], [140], [], [], [141], [], [], [139], [464, 466, 4, 82, 467], []]]
set_option maxRecDepth 100000 in
theorem cq41_0 : mm_chkM 41 bq41_0 hq41_0 = true := by decide +kernel
-- LispForge$Reader.isSign (I)Z
def bq42_0 : List (Nat × List Instr) := [(0, [.iload 0, .sipush (43), .if_icmp .eq 30, .iload 0, .sipush (45), .if_icmp .eq 30, .iload 0, .sipush (42), .if_icmp .eq 30, .iload 0, .sipush (60), .if_icmp .eq 30, .iload 0, .sipush (61), .if_icmp .ne 34, .goto_w 30]),
  (30, [.sipush (1), .goto 35]),
  (34, [.sipush (0), .goto_w 35]),
  (35, [.freturn])]
def hq42_0 : List (List (List Nat)) := [[[], [], [], [], [], [], [], [], [], [], [], [], [], [], [], []],
  [[], []],
  [[], []],
  [[]]]
set_option maxRecDepth 100000 in
theorem cq42_0 : mm_chkM 42 bq42_0 hq42_0 = true := by decide +kernel
-- LispForge$Bytes.empty ()V
def bq43_0 : List (Nat × List Instr) := [(0, [.aload 0, .sipush (0), .multianewarray 1 1, .return_])]
def hq43_0 : List (List (List Nat)) := [[[], [], [117], []]]
set_option maxRecDepth 100000 in
theorem cq43_0 : mm_chkM 43 bq43_0 hq43_0 = true := by decide +kernel
-- LispForge$Compiler.unitOf (LLispForge$Form;)LLispForge$Unit;
def bq44_0 : List (Nat × List Instr) := [(0, [.aload 1, .sipush (0), .invokevirtual 45, .astore 2, .aload 2, .ifnull 50, .aload 2, .invokeinterface 3 0, .sipush (1), .if_icmp .ne 50, .aload 2, .invokeinterface 3 1, .sipush (6579558), .if_icmp .ne 34, .aload 0, .aload 1, .sipush (1), .invokevirtual 46, .areturn]),
  (34, [.aload 2, .invokeinterface 3 1, .sipush (7168355), .if_icmp .ne 50, .aload 0, .aload 1, .sipush (2), .invokevirtual 46, .areturn]),
  (50, [.new 9, .dup, .sipush (0), .sipush (0), .sipush (0), .newarray .int, .aload 1, .invokevirtual 51, .areturn])]
def hq44_0 : List (List (List Nat)) := [[[], [], [559, 560, 561, 88, 562], [], [], [], [], [438], [], [], [], [441], [563], [], [], [], [], [564, 566, 8, 84, 567], []],
  [[], [441], [588], [], [], [], [], [564, 566, 8, 84, 567], []],
  [[600, 601, 94], [], [], [], [], [127], [], [606, 607, 94, 608], []]]
set_option maxRecDepth 100000 in
theorem cq44_0 : mm_chkM 44 bq44_0 hq44_0 = true := by decide +kernel
