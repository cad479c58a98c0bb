-- LispForge$Reader.isDigit (I)Z
def bq31 : List (Nat × List Instr) := [(0, [.iload 0, .sipush (48), .if_icmp .lt 16, .iload 0, .sipush (57), .if_icmp .gt 16, .sipush (1), .goto 17]),
  (16, [.sipush (0), .goto_w 17]),
  (17, [.freturn])]
def hq31 : List (List (List Nat)) := [[[], [], [], [], [], [], [], []],
  [[], []],
  [[]]]
set_option maxRecDepth 100000 in
theorem cq31 : mm_chkM 31 bq31 hq31 = true := by decide +kernel
-- LispForge$Reader.addsDigit (I)Z
def bq32 : List (Nat × List Instr) := [(0, [.aload 0, .invokeinterface 6 3, .invokeinterface 3 0, .sipush (1), .if_icmp .ne 49, .aload 0, .invokeinterface 6 3, .invokeinterface 3 1, .sipush (45), .if_icmp .ne 49, .aload 0, .invokeinterface 6 3, .sipush (0), .multianewarray 3 0, .aload 0, .invokeinterface 6 3, .sipush (0), .multianewarray 3 1, .aload 0, .sipush (0), .multianewarray 6 4, .aload 0, .sipush (1), .multianewarray 6 5, .goto_w 49]),
  (49, [.aload 0, .invokeinterface 6 3, .invokeinterface 3 0, .ifCond .ne 67, .aload 0, .invokeinterface 6 4, .sipush (4), .if_icmp .ne 69, .goto_w 67]),
  (67, [.sipush (0), .freturn]),
  (69, [.aload 0, .invokeinterface 6 3, .aload 0, .invokeinterface 6 3, .invokeinterface 3 1, .sipush (10), .imul, .aload 0, .invokeinterface 6 5, .ifCond .eq 95, .iload 1, .ineg, .goto 96]),
  (95, [.iload 1, .goto_w 96]),
  (96, [.iadd, .multianewarray 3 1, .aload 0, .dup, .invokeinterface 6 4, .sipush (1), .iadd, .multianewarray 6 4, .sipush (1), .freturn])]
def hq32 : List (List (List Nat)) := [[[], [139], [439], [], [], [], [139], [442], [], [], [], [139], [], [439], [], [139], [], [442], [], [], [140], [], [], [141], []],
  [[], [139], [439], [], [], [140], [], [], []],
  [[], []],
  [[], [139], [], [139], [442], [], [], [], [141], [], [], [], []],
  [[], []],
  [[], [442], [], [], [140], [], [], [140], [], []]]
set_option maxRecDepth 100000 in
theorem cq32 : mm_chkM 32 bq32 hq32 = true := by decide +kernel
-- LispForge$Reader.isLetter (I)Z
def bq33 : List (Nat × List Instr) := [(0, [.iload 0, .sipush (97), .if_icmp .lt 16, .iload 0, .sipush (122), .if_icmp .gt 16, .sipush (1), .goto 17]),
  (16, [.sipush (0), .goto_w 17]),
  (17, [.freturn])]
def hq33 : List (List (List Nat)) := [[[], [], [], [], [], [], [], []],
  [[], []],
  [[]]]
set_option maxRecDepth 100000 in
theorem cq33 : mm_chkM 33 bq33 hq33 = true := by decide +kernel
-- LispForge$Form.isSymbolOfLetters ()Z
def bq34 : List (Nat × List Instr) := [(0, [.aload 0, .invokeinterface 3 0, .sipush (1), .if_icmp .ne 22, .aload 0, .invokeinterface 3 1, .invokestatic 35, .ifCond .eq 22, .sipush (1), .goto 23]),
  (22, [.sipush (0), .goto_w 23]),
  (23, [.freturn])]
def hq34 : List (List (List Nat)) := [[[], [437], [], [], [], [440], [425, 426, 79, 427], [], [], []],
  [[], []],
  [[]]]
set_option maxRecDepth 100000 in
theorem cq34 : mm_chkM 34 bq34 hq34 = true := by decide +kernel
-- LispForge.isOfLetters (I)Z
def bq35 : List (Nat × List Instr) := [(0, [.iload 0, .sipush (255), .iand, .sipush (97), .if_icmp .lt 14, .sipush (1), .goto 15]),
  (14, [.sipush (0), .goto_w 15]),
  (15, [.freturn])]
def hq35 : List (List (List Nat)) := [[[], [], [], [], [], [], []],
  [[], []],
  [[]]]
set_option maxRecDepth 100000 in
theorem cq35 : mm_chkM 35 bq35 hq35 = true := by decide +kernel
-- LispForge$Reader.opensList ()Z
def bq36 : List (Nat × List Instr) := [(0, [.aload 0, .invokeinterface 6 1, .sipush (8), .if_icmp .lt 11, .sipush (0), .freturn]),
  (11, [.new 3, .dup, .sipush (2), .sipush (0), .invokevirtual 37, .astore 1, .aload 0, .aload 1, .invokevirtual 38, .ifCond .ne 31, .sipush (0), .freturn]),
  (31, [.aload 0, .invokeinterface 6 0, .aload 0, .invokeinterface 6 1, .aload 1, .aastore, .aload 0, .dup, .invokeinterface 6 1, .sipush (1), .iadd, .multianewarray 6 1, .sipush (1), .freturn])]
def hq36 : List (List (List Nat)) := [[[], [137], [], [], [], []],
  [[134, 432, 88], [], [], [], [433, 434, 88, 435], [], [], [], [464, 466, 4, 82, 467], [], [], []],
  [[], [136], [], [137], [], [], [], [], [137], [], [], [137], [], []]]
set_option maxRecDepth 100000 in
theorem cq36 : mm_chkM 36 bq36 hq36 = true := by decide +kernel
-- LispForge$Form.<init> (II)V
def bq37 : List (Nat × List Instr) := [(0, [.aload 0, .invokespecial 0, .aload 0, .iload 1, .multianewarray 3 0, .aload 0, .iload 2, .multianewarray 3 1, .return_])]
def hq37 : List (List (List Nat)) := [[[], [436, 105, 106], [], [], [437], [], [], [440], []]]
set_option maxRecDepth 100000 in
theorem cq37 : mm_chkM 37 bq37 hq37 = true := by decide +kernel
-- LispForge$Reader.adds (LLispForge$Form;)Z
def bq38 : List (Nat × List Instr) := [(0, [.aload 0, .invokeinterface 6 1, .ifCond .le 30, .aload 0, .invokeinterface 6 1, .sipush (8), .if_icmp .gt 30, .aload 0, .invokeinterface 6 0, .aload 0, .invokeinterface 6 1, .sipush (1), .isub, .aaload, .goto 31]),
  (30, [.aconst_null, .goto_w 31]),
  (31, [.astore 2, .aload 2, .ifnull 43, .aload 2, .aload 1, .invokevirtual 39, .sipush (1), .freturn]),
  (43, [.aload 0, .invokeinterface 6 2, .ifnull 52, .sipush (0), .freturn]),
  (52, [.aload 0, .aload 1, .multianewarray 6 2, .sipush (1), .freturn])]
def hq38 : List (List (List Nat)) := [[[], [137], [], [], [137], [], [], [], [136], [], [137], [], [], [], []],
  [[], []],
  [[], [], [], [], [], [468, 469, 470, 88, 471], [], []],
  [[], [138], [], [], []],
  [[], [], [138], [], []]]
set_option maxRecDepth 100000 in
theorem cq38 : mm_chkM 38 bq38 hq38 = true := by decide +kernel
-- LispForge$Form.append (LLispForge$Form;)V
def bq39 : List (Nat × List Instr) := [(0, [.aload 0, .invokeinterface 3 4, .ifnonnull 15, .aload 0, .aload 1, .multianewarray 3 3, .goto 23]),
  (15, [.aload 0, .invokeinterface 3 4, .aload 1, .multianewarray 3 5, .goto_w 23]),
  (23, [.aload 0, .aload 1, .multianewarray 3 4, .aload 0, .dup, .invokeinterface 3 2, .sipush (1), .iadd, .multianewarray 3 2, .return_])]
def hq39 : List (List (List Nat)) := [[[], [447], [], [], [], [445], []],
  [[], [447], [], [449], []],
  [[], [], [447], [], [], [444], [], [], [444], []]]
set_option maxRecDepth 100000 in
theorem cq39 : mm_chkM 39 bq39 hq39 = true := by decide +kernel
-- LispForge$Reader.closesList ()Z
def bq40 : List (Nat × List Instr) := [(0, [.aload 0, .invokeinterface 6 1, .ifCond .ne 9, .sipush (0), .freturn]),
  (9, [.aload 0, .dup, .invokeinterface 6 1, .sipush (1), .isub, .multianewarray 6 1, .sipush (1), .freturn])]
def hq40 : List (List (List Nat)) := [[[], [137], [], [], []],
  [[], [], [137], [], [], [137], [], []]]
set_option maxRecDepth 100000 in
theorem cq40 : mm_chkM 40 bq40 hq40 = true := by decide +kernel
-- LispForge$Reader.beginsAtom (I)Z
def bq41 : List (Nat × List Instr) := [(0, [.iload 1, .invokestatic 31, .istore 2, .iload 2, .ifCond .ne 25, .iload 1, .invokestatic 33, .ifCond .ne 25, .iload 1, .invokestatic 42, .ifCond .ne 25, .sipush (0), .freturn]),
  (25, [.aload 0, .new 3, .dup, .iload 2, .ifCond .eq 38, .sipush (0), .goto 39]),
  (38, [.sipush (1), .goto_w 39]),
  (39, [.iload 2, .ifCond .eq 50, .iload 1, .sipush (48), .isub, .goto 51]),
  (50, [.iload 1, .goto_w 51]),
  (51, [.invokevirtual 37, .multianewarray 6 3, .aload 0, .sipush (1), .multianewarray 6 4, .aload 0, .sipush (0), .multianewarray 6 5, .aload 0, .aload 0, .invokeinterface 6 3, .invokevirtual 38, .freturn])]
def hq41 : List (List (List Nat)) := [[[], [411, 412, 82, 413], [], [], [], [], [418, 419, 82, 420], [], [], [480, 481, 82, 482], [], [], []],
  [[], [134, 432, 88], [], [], [], [], []],
  [[], []],
  [[], [], [], [], [], []],
  [[], []],
  [[433, 434, 88, 435], [139], [], [], [140], [], [], [141], [], [], [139], [464, 466, 4, 82, 467], []]]
set_option maxRecDepth 100000 in
theorem cq41 : mm_chkM 41 bq41 hq41 = true := by decide +kernel
-- LispForge$Reader.isSign (I)Z
def bq42 : List (Nat × List Instr) := [(0, [.iload 0, .sipush (43), .if_icmp .eq 30, .iload 0, .sipush (45), .if_icmp .eq 30, .iload 0, .sipush (42), .if_icmp .eq 30, .iload 0, .sipush (60), .if_icmp .eq 30, .iload 0, .sipush (61), .if_icmp .ne 34, .goto_w 30]),
  (30, [.sipush (1), .goto 35]),
  (34, [.sipush (0), .goto_w 35]),
  (35, [.freturn])]
def hq42 : List (List (List Nat)) := [[[], [], [], [], [], [], [], [], [], [], [], [], [], [], [], []],
  [[], []],
  [[], []],
  [[]]]
set_option maxRecDepth 100000 in
theorem cq42 : mm_chkM 42 bq42 hq42 = true := by decide +kernel
-- LispForge$Bytes.empty ()V
def bq43 : List (Nat × List Instr) := [(0, [.aload 0, .sipush (0), .multianewarray 1 1, .return_])]
def hq43 : List (List (List Nat)) := [[[], [], [117], []]]
set_option maxRecDepth 100000 in
theorem cq43 : mm_chkM 43 bq43 hq43 = true := by decide +kernel
-- LispForge$Compiler.unitOf (LLispForge$Form;)LLispForge$Unit;
def bq44 : List (Nat × List Instr) := [(0, [.aload 1, .sipush (0), .invokevirtual 45, .astore 2, .aload 2, .ifnull 50, .aload 2, .invokeinterface 3 0, .sipush (1), .if_icmp .ne 50, .aload 2, .invokeinterface 3 1, .sipush (6579558), .if_icmp .ne 34, .aload 0, .aload 1, .sipush (1), .invokevirtual 46, .areturn]),
  (34, [.aload 2, .invokeinterface 3 1, .sipush (7168355), .if_icmp .ne 50, .aload 0, .aload 1, .sipush (2), .invokevirtual 46, .areturn]),
  (50, [.new 9, .dup, .sipush (0), .sipush (0), .sipush (0), .newarray .int, .aload 1, .invokevirtual 51, .areturn])]
def hq44 : List (List (List Nat)) := [[[], [], [559, 560, 561, 88, 562], [], [], [], [], [438], [], [], [], [441], [563], [], [], [], [], [564, 566, 8, 84, 567], []],
  [[], [441], [588], [], [], [], [], [564, 566, 8, 84, 567], []],
  [[600, 601, 94], [], [], [], [], [127], [], [606, 607, 94, 608], []]]
set_option maxRecDepth 100000 in
theorem cq44 : mm_chkM 44 bq44 hq44 = true := by decide +kernel
-- LispForge$Form.part (I)LLispForge$Form;
def bq45 : List (Nat × List Instr) := [(0, [.aload 0, .invokeinterface 3 3, .astore 2, .sipush (0), .istore 3, .goto_w 7]),
  (7, [.iload 3, .iload 1, .if_icmp .ge 27, .aload 2, .ifnull 27, .aload 2, .invokeinterface 3 5, .astore 2, .iinc 3 (1), .goto 7]),
  (27, [.aload 2, .areturn])]
def hq45 : List (List (List Nat)) := [[[], [445], [], [], [], []],
  [[], [], [], [], [], [], [449], [], [], []],
  [[], []]]
set_option maxRecDepth 100000 in
theorem cq45 : mm_chkM 45 bq45 hq45 = true := by decide +kernel
-- LispForge$Compiler.definitionOf (LLispForge$Form;I)LLispForge$Unit;
def bq46 : List (Nat × List Instr) := [(0, [.aload 1, .sipush (1), .invokevirtual 45, .astore 3, .aload 1, .sipush (2), .invokevirtual 45, .astore 4, .aload 1, .sipush (3), .invokevirtual 45, .astore 5, .aload 1, .invokeinterface 3 2, .sipush (4), .if_icmp .ne 42, .aload 3, .ifnull 42, .aload 4, .ifnull 42, .aload 5, .ifnonnull 52, .goto_w 42]),
  (42, [.checkcast 1]),
  (52, [.aload 3, .invokevirtual 34, .ifCond .eq 69, .aload 3, .invokeinterface 3 1, .invokestatic 47, .ifCond .eq 79, .goto_w 69]),
  (69, [.checkcast 1]),
  (79, [.aload 4, .invokestatic 48, .ifCond .ne 97, .checkcast 1]),
  (97, [.new 9, .dup, .iload 2, .aload 3, .invokeinterface 3 1, .aload 4, .invokestatic 50, .aload 5, .invokevirtual 51, .areturn])]
def hq46 : List (List (List Nat)) := [[[], [], [559, 560, 561, 88, 562], [], [], [], [559, 560, 561, 88, 562], [], [], [], [559, 560, 561, 88, 562], [], [], [443], [], [], [], [], [], [], [], [], []],
  [[568, 577]],
  [[], [584, 422, 423, 88, 424], [], [], [441], [585, 586, 84, 587], [], []],
  [[568, 592]],
  [[], [593, 594, 84, 595], [], [568, 599]],
  [[600, 601, 94], [], [], [], [441], [], [602, 603, 84, 604], [], [606, 607, 94, 608], []]]
set_option maxRecDepth 100000 in
theorem cq46 : mm_chkM 46 bq46 hq46 = true := by decide +kernel
-- LispForge$Compiler.isWord (I)Z
def bq47 : List (Nat × List Instr) := [(0, [.iload 0, .sipush (6579558), .if_icmp .eq 44, .iload 0, .sipush (7168355), .if_icmp .eq 44, .iload 0, .sipush (26982), .if_icmp .eq 44, .iload 0, .sipush (7103860), .if_icmp .eq 44, .iload 0, .sipush (25711), .if_icmp .eq 44, .iload 0, .sipush (7562612), .if_icmp .eq 44, .iload 0, .sipush (7501166), .if_icmp .ne 48, .goto_w 44]),
  (44, [.sipush (1), .goto 49]),
  (48, [.sipush (0), .goto_w 49]),
  (49, [.freturn])]
def hq47 : List (List (List Nat)) := [[[], [563], [], [], [588], [], [], [], [], [], [589], [], [], [], [], [], [590], [], [], [591], [], []],
  [[], []],
  [[], []],
  [[]]]
set_option maxRecDepth 100000 in
theorem cq47 : mm_chkM 47 bq47 hq47 = true := by decide +kernel
-- LispForge$Compiler.areParameters (LLispForge$Form;)Z
def bq48 : List (Nat × List Instr) := [(0, [.aload 0, .invokeinterface 3 0, .sipush (2), .if_icmp .ne 16, .aload 0, .invokeinterface 3 2, .sipush (4), .if_icmp .le 18, .goto_w 16]),
  (16, [.sipush (0), .freturn]),
  (18, [.aload 0, .invokeinterface 3 3, .astore 1, .goto_w 23]),
  (23, [.aload 1, .ifnull 51, .aload 1, .invokevirtual 34, .ifCond .eq 41, .aload 1, .invokestatic 49, .ifCond .eq 43, .goto_w 41]),
  (41, [.sipush (0), .freturn]),
  (43, [.aload 1, .invokeinterface 3 5, .astore 1, .goto 23]),
  (51, [.sipush (1), .freturn])]
def hq48 : List (List (List Nat)) := [[[], [438], [], [], [], [443], [], [], []],
  [[], []],
  [[], [446], [], []],
  [[], [], [], [584, 422, 423, 88, 424], [], [], [596, 597, 84, 598], [], []],
  [[], []],
  [[], [450], [], []],
  [[], []]]
set_option maxRecDepth 100000 in
theorem cq48 : mm_chkM 48 bq48 hq48 = true := by decide +kernel
-- LispForge$Compiler.isRepeatedBehind (LLispForge$Form;)Z
def bq49 : List (Nat × List Instr) := [(0, [.aload 0, .invokeinterface 3 5, .astore 1, .goto_w 5]),
  (5, [.aload 1, .ifnull 38, .aload 1, .invokeinterface 3 0, .sipush (1), .if_icmp .ne 30, .aload 1, .invokeinterface 3 1, .aload 0, .invokeinterface 3 1, .if_icmp .ne 30, .sipush (1), .freturn]),
  (30, [.aload 1, .invokeinterface 3 5, .astore 1, .goto 5]),
  (38, [.sipush (0), .freturn])]
def hq49 : List (List (List Nat)) := [[[], [450], [], []],
  [[], [], [], [438], [], [], [], [441], [], [441], [], [], []],
  [[], [450], [], []],
  [[], []]]
set_option maxRecDepth 100000 in
theorem cq49 : mm_chkM 49 bq49 hq49 = true := by decide +kernel
-- LispForge$Compiler.symbolsOf (LLispForge$Form;)[I
def bq50 : List (Nat × List Instr) := [(0, [.aload 0, .invokeinterface 3 2, .sipush (0), .fadd, .newarray .int, .astore 1, .aload 0, .invokeinterface 3 3, .astore 2, .sipush (0), .istore 3, .goto_w 18]),
  (18, [.iload 3, .aload 1, .arraylength, .if_icmp .ge 46, .aload 2, .ifnull 46, .aload 1, .iload 3, .aload 2, .invokeinterface 3 1, .iastore, .aload 2, .invokeinterface 3 5, .astore 2, .iinc 3 (1), .goto 18]),
  (46, [.aload 1, .areturn])]
def hq50 : List (List (List Nat)) := [[[], [443], [], [605, 114, 81, 115], [127], [], [], [446], [], [], [], []],
  [[], [], [], [], [], [], [], [], [], [441], [], [], [450], [], [], []],
  [[], []]]
set_option maxRecDepth 100000 in
theorem cq50 : mm_chkM 50 bq50 hq50 = true := by decide +kernel
-- LispForge$Unit.<init> (II[ILLispForge$Form;)V
def bq51 : List (Nat × List Instr) := [(0, [.aload 0, .invokespecial 0, .aload 0, .new 1, .dup, .sipush (0), .invokevirtual 1, .multianewarray 9 4, .aload 0, .new 1, .dup, .sipush (0), .invokevirtual 1, .multianewarray 9 5, .aload 0, .sipush (0), .newarray .int, .multianewarray 9 6, .aload 0, .sipush (0), .newarray .int, .multianewarray 9 7, .aload 0, .iload 1, .multianewarray 9 0, .aload 0, .iload 2, .multianewarray 9 1, .aload 0, .aload 3, .multianewarray 9 2, .aload 0, .aload 4, .multianewarray 9 3, .return_])]
def hq51 : List (List (List Nat)) := [[[], [609, 105, 106], [], [610, 108, 80], [], [], [611, 110, 80, 111], [625], [], [610, 108, 80], [], [], [611, 110, 80, 111], [628], [], [], [127], [631], [], [], [127], [634], [], [], [612], [], [], [616], [], [], [619], [], [], [623], []]]
set_option maxRecDepth 100000 in
theorem cq51 : mm_chkM 51 bq51 hq51 = true := by decide +kernel
-- LispForge$Compiler.complete (LLispForge$Unit;)V
def bq52 : List (Nat × List Instr) := [(0, [.aload 1, .invokeinterface 9 2, .arraylength, .istore 2, .aload 0, .invokeinterface 2 1, .invokevirtual 43, .aload 0, .sipush (0), .multianewarray 2 5, .aload 0, .sipush (0), .multianewarray 2 8, .aload 0, .sipush (0), .multianewarray 2 9, .sipush (0), .istore 3, .goto_w 30]),
  (30, [.iload 3, .iload 2, .if_icmp .ge 52, .aload 0, .aload 1, .invokeinterface 9 2, .iload 3, .iaload, .iload 3, .invokevirtual 53, .iinc 3 (1), .goto 30]),
  (52, [.aload 0, .aload 1, .invokeinterface 9 3, .aconst_null, .iload 2, .sipush (1), .invokevirtual 54, .aload 1, .invokeinterface 9 0, .ifCond .ne 79, .aload 0, .sipush (14), .invokevirtual 64, .goto 90]),
  (79, [.aload 0, .sipush (13), .invokevirtual 64, .aload 0, .iload 2, .invokevirtual 64, .goto_w 90]),
  (90, [.aload 1, .aload 0, .invokeinterface 2 1, .invokevirtual 78, .multianewarray 9 4, .aload 1, .aload 0, .invokeinterface 2 3, .aload 0, .invokeinterface 2 5, .invokestatic 80, .multianewarray 9 6, .aload 1, .aload 0, .invokeinterface 2 4, .aload 0, .invokeinterface 2 5, .invokestatic 80, .multianewarray 9 7, .aload 1, .aload 0, .aload 1, .invokevirtual 82, .multianewarray 9 5, .return_])]
def hq52 : List (List (List Nat)) := [[[], [622], [], [], [], [183], [658, 484, 485, 80, 486], [], [], [187], [], [], [190], [], [], [191], [], [], []],
  [[], [], [], [], [], [622], [], [], [], [659, 661, 9, 84, 662], [], []],
  [[], [], [624], [], [], [], [664, 666, 10, 84, 667], [], [615], [], [], [], [720, 722, 16, 84, 723], []],
  [[], [], [720, 722, 16, 84, 723], [], [], [720, 722, 16, 84, 723], []],
  [[], [], [183], [785, 786, 787, 80, 788], [627], [], [], [185], [], [187], [796, 797, 96, 798], [633], [], [], [186], [], [187], [796, 797, 96, 798], [636], [], [], [], [812, 814, 28, 84, 815], [630], []]]
set_option maxRecDepth 100000 in
theorem cq52 : mm_chkM 52 bq52 hq52 = true := by decide +kernel
-- LispForge$Compiler.bind (II)V
def bq53 : List (Nat × List Instr) := [(0, [.aload 0, .invokeinterface 2 8, .sipush (104), .if_icmp .lt 20, .checkcast 1]),
  (20, [.aload 0, .invokeinterface 2 6, .aload 0, .invokeinterface 2 8, .iload 1, .iastore, .aload 0, .invokeinterface 2 7, .aload 0, .invokeinterface 2 8, .iload 2, .iastore, .aload 0, .dup, .invokeinterface 2 8, .sipush (1), .iadd, .multianewarray 2 8, .return_])]
def hq53 : List (List (List Nat)) := [[[], [190], [], [], [568, 663]],
  [[], [188], [], [190], [], [], [], [189], [], [190], [], [], [], [], [190], [], [], [190], []]]
set_option maxRecDepth 100000 in
theorem cq53 : mm_chkM 53 bq53 hq53 = true := by decide +kernel
-- LispForge$Compiler.translate (LLispForge$Form;LLispForge$Replacement;II)V
def bq54 : List (Nat × List Instr) := [(0, [.iload 4, .sipush (100), .if_icmp .le 17, .checkcast 1]),
  (17, [.aload 0, .aload 1, .aload 2, .invokevirtual 55, .aload 0, .invokeinterface 2 10, .astore 5, .aload 0, .invokeinterface 2 11, .astore 6, .aload 5, .invokeinterface 3 0, .ifCond .ne 53, .aload 0, .aload 5, .invokeinterface 3 1, .invokevirtual 63, .return_]),
  (53, [.aload 5, .invokeinterface 3 0, .sipush (1), .if_icmp .ne 81, .aload 0, .sipush (1), .invokevirtual 64, .aload 0, .aload 0, .aload 5, .invokeinterface 3 1, .invokevirtual 65, .invokevirtual 64, .return_]),
  (81, [.aload 0, .aload 5, .invokeinterface 3 3, .aload 6, .invokevirtual 55, .aload 0, .invokevirtual 66, .istore 7, .iload 7, .lookupswitch 307 #[(42, 208), (43, 208), (45, 208), (60, 208), (61, 208), (25711, 255), (26982, 227), (6579558, 297), (7103860, 241), (7168355, 297), (7501166, 283), (7562612, 269)]]),
  (208, [.aload 0, .aload 5, .aload 6, .iload 3, .iload 4, .iload 7, .invokestatic 67, .invokevirtual 68, .goto 320]),
  (227, [.aload 0, .aload 5, .aload 6, .iload 3, .iload 4, .invokevirtual 69, .goto 320]),
  (241, [.aload 0, .aload 5, .aload 6, .iload 3, .iload 4, .invokevirtual 72, .goto 320]),
  (255, [.aload 0, .aload 5, .aload 6, .iload 3, .iload 4, .invokevirtual 73, .goto 320]),
  (269, [.aload 0, .aload 5, .aload 6, .iload 3, .iload 4, .invokevirtual 74, .goto 320]),
  (283, [.aload 0, .aload 5, .aload 6, .iload 3, .iload 4, .invokevirtual 75, .goto 320]),
  (297, [.checkcast 1]),
  (307, [.aload 0, .iload 7, .aload 5, .aload 6, .iload 3, .iload 4, .invokevirtual 76, .goto_w 320]),
  (320, [.return_])]
def hq54 : List (List (List Nat)) := [[[], [], [], [568, 668]],
  [[], [], [], [669, 671, 11, 84, 672], [], [192], [], [], [193], [], [], [438], [], [], [], [441], [716, 718, 15, 84, 719], []],
  [[], [438], [], [], [], [], [720, 722, 16, 84, 723], [], [], [], [441], [727, 729, 17, 84, 730], [720, 722, 16, 84, 723], []],
  [[], [], [446], [], [669, 671, 11, 84, 672], [], [732, 734, 18, 84, 735], [], [], []],
  [[], [], [], [], [], [], [737, 738, 84, 739], [740, 742, 19, 84, 743], []],
  [[], [], [], [], [], [744, 746, 20, 84, 747], []],
  [[], [], [], [], [], [756, 758, 22, 84, 759], []],
  [[], [], [], [], [], [762, 764, 23, 84, 765], []],
  [[], [], [], [], [], [767, 769, 24, 84, 770], []],
  [[], [], [], [], [], [771, 773, 25, 84, 774], []],
  [[568, 775]],
  [[], [], [], [], [], [], [776, 778, 26, 84, 779], []],
  [[]]]
set_option maxRecDepth 100000 in
theorem cq54 : mm_chkM 54 bq54 hq54 = true := by decide +kernel
-- LispForge$Compiler.settle (LLispForge$Form;LLispForge$Replacement;)V
def bq55 : List (Nat × List Instr) := [(0, [.aload 1, .astore 3, .aload 2, .astore 4, .sipush (0), .istore 5, .goto_w 8]),
  (8, [.iload 5, .sipush (12), .if_icmp .gt 104, .aload 0, .aload 3, .aload 4, .invokevirtual 56, .aload 0, .invokeinterface 2 10, .astore 3, .aload 0, .invokeinterface 2 11, .astore 4, .aload 3, .ifnonnull 48, .checkcast 1]),
  (48, [.aload 0, .aload 3, .invokeinterface 3 3, .aload 4, .invokevirtual 56, .aload 0, .invokevirtual 58, .astore 6, .aload 6, .ifnonnull 81, .aload 0, .aload 3, .multianewarray 2 10, .aload 0, .aload 4, .multianewarray 2 11, .return_]),
  (81, [.aload 0, .aload 6, .aload 3, .aload 4, .invokevirtual 60, .astore 4, .aload 6, .invokeinterface 9 3, .astore 3, .iinc 5 (1), .goto 8]),
  (104, [.checkcast 1])]
def hq55 : List (List (List Nat)) := [[[], [], [], [], [], [], []],
  [[], [], [], [], [], [], [673, 675, 12, 84, 676], [], [192], [], [], [193], [], [], [], [568, 681]],
  [[], [], [446], [], [673, 675, 12, 84, 676], [], [682, 684, 13, 84, 685], [], [], [], [], [], [192], [], [], [193], []],
  [[], [], [], [], [690, 692, 14, 84, 693], [], [], [624], [], [], []],
  [[568, 698]]]
set_option maxRecDepth 100000 in
theorem cq55 : mm_chkM 55 bq55 hq55 = true := by decide +kernel
-- LispForge$Compiler.follow (LLispForge$Form;LLispForge$Replacement;)V
def bq56 : List (Nat × List Instr) := [(0, [.aload 0, .aload 1, .multianewarray 2 10, .aload 0, .aload 2, .multianewarray 2 11, .aload 2, .astore 3, .goto_w 12]),
  (12, [.aload 3, .ifnull 79, .aload 0, .invokeinterface 2 10, .ifnull 34, .aload 0, .invokeinterface 2 10, .invokeinterface 3 0, .sipush (1), .if_icmp .eq 38, .goto_w 34]),
  (34, [.aconst_null, .goto 49]),
  (38, [.aload 3, .aload 0, .invokeinterface 2 10, .invokeinterface 3 1, .invokevirtual 57, .goto_w 49]),
  (49, [.astore 4, .aload 4, .ifnonnull 57, .return_]),
  (57, [.aload 0, .aload 4, .multianewarray 2 10, .aload 0, .aload 3, .invokeinterface 7 2, .multianewarray 2 11, .aload 3, .invokeinterface 7 2, .astore 3, .goto 12]),
  (79, [.return_])]
def hq56 : List (List (List Nat)) := [[[], [], [192], [], [], [193], [], [], []],
  [[], [], [], [192], [], [], [192], [438], [], [], []],
  [[], []],
  [[], [], [192], [441], [677, 678, 679, 95, 680], []],
  [[], [], [], []],
  [[], [], [192], [], [], [708], [193], [], [708], [], []],
  [[]]]
set_option maxRecDepth 100000 in
theorem cq56 : mm_chkM 56 bq56 hq56 = true := by decide +kernel
-- LispForge$Replacement.argumentFor (I)LLispForge$Form;
def bq57 : List (Nat × List Instr) := [(0, [.aload 0, .invokeinterface 7 1, .astore 2, .sipush (0), .istore 3, .goto_w 7]),
  (7, [.iload 3, .aload 0, .invokeinterface 7 0, .invokeinterface 9 2, .arraylength, .if_icmp .ge 49, .aload 2, .ifnull 49, .aload 0, .invokeinterface 7 0, .invokeinterface 9 2, .iload 3, .iaload, .iload 1, .if_icmp .ne 38, .aload 2, .areturn]),
  (38, [.aload 2, .invokeinterface 3 5, .astore 2, .iinc 3 (1), .goto 7]),
  (49, [.aconst_null, .areturn])]
def hq57 : List (List (List Nat)) := [[[], [706], [], [], [], []],
  [[], [], [705], [620], [], [], [], [], [], [705], [620], [], [], [], [], [], []],
  [[], [448], [], [], []],
  [[], []]]
set_option maxRecDepth 100000 in
theorem cq57 : mm_chkM 57 bq57 hq57 = true := by decide +kernel
-- LispForge$Compiler.macroSeen ()LLispForge$Unit;
def bq58 : List (Nat × List Instr) := [(0, [.aload 0, .invokeinterface 2 10, .ifnull 36, .aload 0, .invokeinterface 2 10, .invokeinterface 3 0, .sipush (1), .if_icmp .ne 36, .aload 0, .invokeinterface 2 0, .sipush (2), .aload 0, .invokeinterface 2 10, .invokeinterface 3 1, .invokevirtual 59, .goto 37]),
  (36, [.aconst_null, .goto_w 37]),
  (37, [.areturn])]
def hq58 : List (List (List Nat)) := [[[], [192], [], [], [192], [438], [], [], [], [182], [], [], [192], [441], [686, 687, 688, 83, 689], []],
  [[], []],
  [[]]]
set_option maxRecDepth 100000 in
theorem cq58 : mm_chkM 58 bq58 hq58 = true := by decide +kernel
-- LispForge$Shelf.latest (II)LLispForge$Unit;
def bq59 : List (Nat × List Instr) := [(0, [.aload 0, .invokeinterface 8 1, .sipush (1), .isub, .istore 3, .goto_w 7]),
  (7, [.iload 3, .ifCond .lt 51, .aload 0, .invokeinterface 8 0, .iload 3, .aaload, .astore 4, .aload 4, .ifnull 45, .aload 4, .invokeinterface 9 0, .iload 1, .if_icmp .ne 45, .aload 4, .invokeinterface 9 1, .iload 2, .if_icmp .ne 45, .aload 4, .areturn]),
  (45, [.iinc 3 (-1), .goto 7]),
  (51, [.aconst_null, .areturn])]
def hq59 : List (List (List Nat)) := [[[], [168], [], [], [], []],
  [[], [], [], [167], [], [], [], [], [], [], [614], [], [], [], [617], [], [], [], []],
  [[], []],
  [[], []]]
set_option maxRecDepth 100000 in
theorem cq59 : mm_chkM 59 bq59 hq59 = true := by decide +kernel
-- LispForge$Compiler.replacementBy (LLispForge$Unit;LLispForge$Form;LLispForge$Replacement;)LLispForge$Replacement;
def bq60 : List (Nat × List Instr) := [(0, [.aload 2, .aload 1, .invokeinterface 9 2, .arraylength, .sipush (1), .iadd, .invokestatic 61, .aload 0, .invokeinterface 2 9, .sipush (12), .if_icmp .ne 31, .checkcast 1]),
  (31, [.aload 0, .dup, .invokeinterface 2 9, .sipush (1), .iadd, .multianewarray 2 9, .new 7, .dup, .aload 1, .aload 2, .sipush (1), .invokevirtual 45, .aload 3, .invokevirtual 62, .areturn])]
def hq60 : List (List (List Nat)) := [[[], [], [622], [], [], [], [694, 695, 84, 696], [], [191], [], [], [568, 698]],
  [[], [], [191], [], [], [191], [699, 700, 95], [], [], [], [], [559, 560, 561, 88, 562], [], [701, 702, 95, 703], []]]
set_option maxRecDepth 100000 in
theorem cq60 : mm_chkM 60 bq60 hq60 = true := by decide +kernel
-- LispForge$Compiler.requireSize (LLispForge$Form;I)V
def bq61 : List (Nat × List Instr) := [(0, [.aload 0, .invokeinterface 3 2, .iload 1, .if_icmp .eq 19, .checkcast 1]),
  (19, [.return_])]
def hq61 : List (List (List Nat)) := [[[], [443], [], [], [568, 697]],
  [[]]]
set_option maxRecDepth 100000 in
theorem cq61 : mm_chkM 61 bq61 hq61 = true := by decide +kernel
-- LispForge$Replacement.<init> (LLispForge$Unit;LLispForge$Form;LLispForge$Replacement;)V
def bq62 : List (Nat × List Instr) := [(0, [.aload 0, .invokespecial 0, .aload 0, .aload 1, .multianewarray 7 0, .aload 0, .aload 2, .multianewarray 7 1, .aload 0, .aload 3, .multianewarray 7 2, .return_])]
def hq62 : List (List (List Nat)) := [[[], [704, 105, 106], [], [], [705], [], [], [706], [], [], [707], []]]
set_option maxRecDepth 100000 in
theorem cq62 : mm_chkM 62 bq62 hq62 = true := by decide +kernel
-- LispForge$Compiler.putNumber (I)V
def bq63 : List (Nat × List Instr) := [(0, [.aload 0, .sipush (0), .invokevirtual 64, .aload 0, .iload 1, .sipush (8), .ishr, .invokevirtual 64, .aload 0, .iload 1, .invokevirtual 64, .return_])]
def hq63 : List (List (List Nat)) := [[[], [], [720, 722, 16, 84, 723], [], [], [], [], [720, 722, 16, 84, 723], [], [], [720, 722, 16, 84, 723], []]]
set_option maxRecDepth 100000 in
theorem cq63 : mm_chkM 63 bq63 hq63 = true := by decide +kernel
-- LispForge$Compiler.emit (I)V
def bq64 : List (Nat × List Instr) := [(0, [.aload 0, .invokeinterface 2 1, .invokevirtual 10, .ifCond .ne 20, .checkcast 1]),
  (20, [.aload 0, .invokeinterface 2 1, .iload 1, .invokevirtual 11, .return_])]
def hq64 : List (List (List Nat)) := [[[], [183], [724, 321, 322, 80, 323], [], [568, 725]],
  [[], [183], [], [726, 325, 326, 80, 327], []]]
set_option maxRecDepth 100000 in
theorem cq64 : mm_chkM 64 bq64 hq64 = true := by decide +kernel
-- LispForge$Compiler.slotOf (I)I
def bq65 : List (Nat × List Instr) := [(0, [.aload 0, .invokeinterface 2 8, .sipush (1), .isub, .istore 2, .goto_w 7]),
  (7, [.iload 2, .ifCond .lt 34, .aload 0, .invokeinterface 2 6, .iload 2, .iaload, .iload 1, .if_icmp .ne 28, .aload 0, .invokeinterface 2 7, .iload 2, .iaload, .ireturn]),
  (28, [.iinc 2 (-1), .goto 7]),
  (34, [.checkcast 1])]
def hq65 : List (List (List Nat)) := [[[], [190], [], [], [], []],
  [[], [], [], [188], [], [], [], [], [], [189], [], [], []],
  [[], []],
  [[568, 731]]]
set_option maxRecDepth 100000 in
theorem cq65 : mm_chkM 65 bq65 hq65 = true := by decide +kernel
-- LispForge$Compiler.symbolSeen ()I
def bq66 : List (Nat × List Instr) := [(0, [.aload 0, .invokeinterface 2 10, .ifnull 18, .aload 0, .invokeinterface 2 10, .invokeinterface 3 0, .sipush (1), .if_icmp .eq 29, .goto_w 18]),
  (18, [.checkcast 1]),
  (29, [.aload 0, .invokeinterface 2 10, .invokeinterface 3 1, .ireturn])]
def hq66 : List (List (List Nat)) := [[[], [192], [], [], [192], [438], [], [], []],
  [[568, 736]],
  [[], [192], [441], []]]
set_option maxRecDepth 100000 in
theorem cq66 : mm_chkM 66 bq66 hq66 = true := by decide +kernel
-- LispForge$Compiler.operationOf (I)I
def bq67 : List (Nat × List Instr) := [(0, [.iload 0, .lookupswitch 52 #[(42, 48), (43, 44), (45, 46), (60, 50)]]),
  (44, [.sipush (2), .ireturn]),
  (46, [.sipush (3), .ireturn]),
  (48, [.sipush (4), .ireturn]),
  (50, [.sipush (5), .ireturn]),
  (52, [.sipush (6), .ireturn])]
def hq67 : List (List (List Nat)) := [[[], []],
  [[], []],
  [[], []],
  [[], []],
  [[], []],
  [[], []]]
set_option maxRecDepth 100000 in
theorem cq67 : mm_chkM 67 bq67 hq67 = true := by decide +kernel
-- LispForge$Compiler.putPair (LLispForge$Form;LLispForge$Replacement;III)V
def bq68 : List (Nat × List Instr) := [(0, [.aload 1, .sipush (3), .invokestatic 61, .aload 0, .aload 1, .sipush (1), .invokevirtual 45, .aload 2, .iload 3, .iload 4, .sipush (1), .iadd, .invokevirtual 54, .aload 0, .aload 1, .sipush (2), .invokevirtual 45, .aload 2, .iload 3, .sipush (1), .iadd, .iload 4, .sipush (1), .iadd, .invokevirtual 54, .aload 0, .iload 5, .invokevirtual 64, .return_])]
def hq68 : List (List (List Nat)) := [[[], [], [694, 695, 84, 696], [], [], [], [559, 560, 561, 88, 562], [], [], [], [], [], [664, 666, 10, 84, 667], [], [], [], [559, 560, 561, 88, 562], [], [], [], [], [], [], [], [664, 666, 10, 84, 667], [], [], [720, 722, 16, 84, 723], []]]
set_option maxRecDepth 100000 in
theorem cq68 : mm_chkM 68 bq68 hq68 = true := by decide +kernel
-- LispForge$Compiler.putIf (LLispForge$Form;LLispForge$Replacement;II)V
def bq69 : List (Nat × List Instr) := [(0, [.aload 1, .sipush (4), .invokestatic 61, .aload 0, .aload 1, .sipush (1), .invokevirtual 45, .aload 2, .iload 3, .iload 4, .sipush (1), .iadd, .invokevirtual 54, .aload 0, .sipush (8), .invokevirtual 70, .istore 5, .aload 0, .aload 1, .sipush (2), .invokevirtual 45, .aload 2, .iload 3, .iload 4, .sipush (1), .iadd, .invokevirtual 54, .aload 0, .sipush (7), .invokevirtual 70, .istore 6, .aload 0, .invokeinterface 2 1, .iload 5, .aload 0, .invokeinterface 2 1, .invokeinterface 1 1, .invokevirtual 71, .aload 0, .aload 1, .sipush (3), .invokevirtual 45, .aload 2, .iload 3, .iload 4, .sipush (1), .iadd, .invokevirtual 54, .aload 0, .invokeinterface 2 1, .iload 6, .aload 0, .invokeinterface 2 1, .invokeinterface 1 1, .invokevirtual 71, .return_])]
def hq69 : List (List (List Nat)) := [[[], [], [694, 695, 84, 696], [], [], [], [559, 560, 561, 88, 562], [], [], [], [], [], [664, 666, 10, 84, 667], [], [], [748, 750, 21, 84, 751], [], [], [], [], [559, 560, 561, 88, 562], [], [], [], [], [], [664, 666, 10, 84, 667], [], [], [748, 750, 21, 84, 751], [], [], [183], [], [], [183], [121], [752, 753, 754, 80, 755], [], [], [], [559, 560, 561, 88, 562], [], [], [], [], [], [664, 666, 10, 84, 667], [], [183], [], [], [183], [121], [752, 753, 754, 80, 755], []]]
set_option maxRecDepth 100000 in
theorem cq69 : mm_chkM 69 bq69 hq69 = true := by decide +kernel
-- LispForge$Compiler.putJump (I)I
def bq70 : List (Nat × List Instr) := [(0, [.aload 0, .iload 1, .invokevirtual 64, .aload 0, .sipush (0), .invokevirtual 64, .aload 0, .sipush (0), .invokevirtual 64, .aload 0, .invokeinterface 2 1, .invokeinterface 1 1, .sipush (2), .isub, .ireturn])]
def hq70 : List (List (List Nat)) := [[[], [], [720, 722, 16, 84, 723], [], [], [720, 722, 16, 84, 723], [], [], [720, 722, 16, 84, 723], [], [183], [121], [], [], []]]
set_option maxRecDepth 100000 in
theorem cq70 : mm_chkM 70 bq70 hq70 = true := by decide +kernel
