-- LispForgeModel.read (III)I
def bq111_0 : List (Nat × List Instr) := [(0, [.aload 0, .iload 2, .multianewarray 10 23, .aload 0, .sipush (-1), .multianewarray 10 24, .aload 0, .sipush (0), .multianewarray 10 25, .sipush (-1), .istore 4, .sipush (1), .istore 5, .goto_w 21]),
  (21, [.aload 0, .invokeinterface 10 24, .ifCond .ge 384, .iload 4, .ifCond .lt 37, .iload 1, .ifCond .ge 384, .goto_w 37]),
  (37, [.aload 0, .iload 1, .aload 0, .invokeinterface 10 23, .invokevirtual 112, .istore 6, .iload 6, .invokestatic 113, .ifCond .ne 72, .iload 6, .invokestatic 114, .ifCond .ne 72, .iload 6, .invokestatic 115, .ifCond .eq 76, .goto_w 72]),
  (72, [.sipush (1), .goto 77]),
  (76, [.sipush (0), .goto_w 77])]
def hq111_0 : List (List (List Nat)) := [[[], [], [981], [], [], [982], [], [], [983], [], [], [], [], []],
  [[], [982], [], [], [], [], [], []],
  [[], [], [], [981], [1143, 1145, 44, 87, 1146], [], [], [1147, 1148, 87, 1149], [], [], [1150, 1151, 87, 1152], [], [], [1153, 1154, 87, 1155], [], []],
  [[], []],
  [[], []]]
set_option maxRecDepth 100000 in
theorem cq111_0 : mm_chkM 111 bq111_0 hq111_0 = true := by decide +kernel
def bq111_1 : List (Nat × List Instr) := [(77, [.istore 7, .iload 6, .sipush (32), .if_icmp .ne 102, .aload 0, .dup, .invokeinterface 10 23, .sipush (1), .iadd, .multianewarray 10 23, .sipush (1), .istore 5, .goto 381]),
  (102, [.iload 6, .ifCond .ne 115, .iload 4, .ifCond .lt 115, .iload 4, .ireturn])]
def hq111_1 : List (List (List Nat)) := [[[], [], [], [], [], [], [981], [], [], [981], [], [], []],
  [[], [], [], [], [], []]]
set_option maxRecDepth 100000 in
theorem cq111_1 : mm_chkM 111 bq111_1 hq111_1 = true := by decide +kernel
def bq111_2 : List (Nat × List Instr) := [(115, [.iload 6, .sipush (41), .if_icmp .ne 174, .aload 0, .invokeinterface 10 25, .ifCond .le 174, .aload 0, .dup, .invokeinterface 10 23, .sipush (1), .iadd, .multianewarray 10 23, .aload 0, .dup, .invokeinterface 10 25, .sipush (1), .isub, .multianewarray 10 25, .sipush (1), .istore 5, .aload 0, .invokeinterface 10 25, .ifCond .ne 168, .aload 0, .invokeinterface 10 26, .sipush (1), .iaload, .goto 169]),
  (168, [.sipush (-1), .goto_w 169]),
  (169, [.istore 4, .goto 381]),
  (174, [.iload 4, .ifCond .ge 212, .iload 6, .sipush (40), .if_icmp .eq 196, .iload 7, .ifCond .eq 212, .iload 5, .ifCond .eq 212, .goto_w 196])]
def hq111_2 : List (List (List Nat)) := [[[], [], [], [], [983], [], [], [], [981], [], [], [981], [], [], [983], [], [], [983], [], [], [], [983], [], [], [984], [], [], []],
  [[], []],
  [[], []],
  [[], [], [], [], [], [], [], [], [], []]]
set_option maxRecDepth 100000 in
theorem cq111_2 : mm_chkM 111 bq111_2 hq111_2 = true := by decide +kernel
def bq111_3 : List (Nat × List Instr) := [(196, [.iload 6, .sipush (40), .if_icmp .ne 223, .aload 0, .invokeinterface 10 25, .sipush (8), .if_icmp .ne 223, .goto_w 212]),
  (212, [.aload 0, .aload 0, .invokeinterface 10 23, .multianewarray 10 24, .goto 381]),
  (223, [.iload 6, .sipush (40), .if_icmp .ne 298, .aload 0, .sipush (2), .sipush (-1), .invokevirtual 116, .istore 8, .aload 0, .invokeinterface 10 25, .ifCond .le 251, .aload 0, .iload 8, .invokevirtual 117, .goto_w 251])]
def hq111_3 : List (List (List Nat)) := [[[], [], [], [], [983], [], [], []],
  [[], [], [981], [982], []],
  [[], [], [], [], [], [], [1156, 1158, 45, 87, 1159], [], [], [983], [], [], [], [1160, 1162, 46, 87, 1163], []]]
set_option maxRecDepth 100000 in
theorem cq111_3 : mm_chkM 111 bq111_3 hq111_3 = true := by decide +kernel
def bq111_4 : List (Nat × List Instr) := [(251, [.aload 0, .dup, .invokeinterface 10 23, .sipush (1), .iadd, .multianewarray 10 23, .aload 0, .dup, .invokeinterface 10 25, .sipush (1), .iadd, .multianewarray 10 25, .aload 0, .invokeinterface 10 26, .aload 0, .invokeinterface 10 25, .iload 8, .iastore, .aload 0, .invokeinterface 10 27, .aload 0, .invokeinterface 10 25, .sipush (-1), .iastore, .sipush (1), .istore 5, .goto 381]),
  (298, [.iload 6, .invokestatic 113, .ifCond .ne 330, .iload 6, .sipush (45), .if_icmp .ne 334, .aload 0, .iload 1, .aload 0, .invokeinterface 10 23, .sipush (1), .iadd, .invokevirtual 112, .invokestatic 113, .ifCond .eq 334, .goto_w 330]),
  (330, [.sipush (1), .goto 335])]
def hq111_4 : List (List (List Nat)) := [[[], [], [981], [], [], [981], [], [], [983], [], [], [983], [], [984], [], [983], [], [], [], [985], [], [983], [], [], [], [], []],
  [[], [1147, 1148, 87, 1149], [], [], [], [], [], [], [], [981], [], [], [1143, 1145, 44, 87, 1146], [1147, 1148, 87, 1149], [], []],
  [[], []]]
set_option maxRecDepth 100000 in
theorem cq111_4 : mm_chkM 111 bq111_4 hq111_4 = true := by decide +kernel
def bq111_5 : List (Nat × List Instr) := [(334, [.sipush (0), .goto_w 335]),
  (335, [.istore 8, .iload 8, .ifCond .eq 350, .aload 0, .iload 1, .invokevirtual 118, .goto 356]),
  (350, [.aload 0, .iload 1, .iload 3, .invokevirtual 119, .goto_w 356]),
  (356, [.istore 9, .aload 0, .invokeinterface 10 25, .ifCond .le 374, .aload 0, .iload 9, .invokevirtual 117, .goto 378]),
  (374, [.iload 9, .istore 4, .goto_w 378]),
  (378, [.sipush (0), .istore 5, .goto_w 381]),
  (381, [.goto 21]),
  (384, [.iload 4, .ireturn])]
def hq111_5 : List (List (List Nat)) := [[[], []],
  [[], [], [], [], [], [1164, 1166, 47, 87, 1167], []],
  [[], [], [], [1168, 1170, 48, 87, 1171], []],
  [[], [], [983], [], [], [], [1160, 1162, 46, 87, 1163], []],
  [[], [], []],
  [[], [], []],
  [[]],
  [[], []]]
set_option maxRecDepth 100000 in
theorem cq111_5 : mm_chkM 111 bq111_5 hq111_5 = true := by decide +kernel
-- LispForgeModel.at (II)I
def bq112_0 : List (Nat × List Instr) := [(0, [.iload 1, .ifCond .ge 23, .iload 2, .aload 0, .invokeinterface 10 1, .if_icmp .ge 21, .aload 0, .invokeinterface 10 5, .iload 2, .caload, .goto 22]),
  (21, [.sipush (0), .goto_w 22]),
  (22, [.ireturn]),
  (23, [.iload 2, .aload 0, .invokeinterface 10 16, .iload 1, .iaload, .if_icmp .ge 47, .aload 0, .invokeinterface 10 15, .sipush (120), .iload 1, .imul, .iload 2, .iadd, .caload, .goto 48]),
  (47, [.sipush (0), .goto_w 48]),
  (48, [.ireturn])]
def hq112_0 : List (List (List Nat)) := [[[], [], [], [], [959], [], [], [963], [], [], []],
  [[], []],
  [[]],
  [[], [], [974], [], [], [], [], [973], [], [], [], [], [], [], []],
  [[], []],
  [[]]]
set_option maxRecDepth 100000 in
theorem cq112_0 : mm_chkM 112 bq112_0 hq112_0 = true := by decide +kernel
-- LispForgeModel.isDigit (I)Z
def bq113_0 : List (Nat × List Instr) := [(0, [.iload 0, .sipush (48), .if_icmp .lt 16, .iload 0, .sipush (57), .if_icmp .gt 16, .sipush (1), .goto 17]),
  (16, [.sipush (0), .goto_w 17]),
  (17, [.freturn])]
def hq113_0 : List (List (List Nat)) := [[[], [], [], [], [], [], [], []],
  [[], []],
  [[]]]
set_option maxRecDepth 100000 in
theorem cq113_0 : mm_chkM 113 bq113_0 hq113_0 = true := by decide +kernel
-- LispForgeModel.isLetter (I)Z
def bq114_0 : List (Nat × List Instr) := [(0, [.iload 0, .sipush (97), .if_icmp .lt 16, .iload 0, .sipush (122), .if_icmp .gt 16, .sipush (1), .goto 17]),
  (16, [.sipush (0), .goto_w 17]),
  (17, [.freturn])]
def hq114_0 : List (List (List Nat)) := [[[], [], [], [], [], [], [], []],
  [[], []],
  [[]]]
set_option maxRecDepth 100000 in
theorem cq114_0 : mm_chkM 114 bq114_0 hq114_0 = true := by decide +kernel
-- LispForgeModel.isSign (I)Z
def bq115_0 : List (Nat × List Instr) := [(0, [.iload 0, .sipush (43), .if_icmp .eq 30, .iload 0, .sipush (45), .if_icmp .eq 30, .iload 0, .sipush (42), .if_icmp .eq 30, .iload 0, .sipush (60), .if_icmp .eq 30, .iload 0, .sipush (61), .if_icmp .ne 34, .goto_w 30]),
  (30, [.sipush (1), .goto 35]),
  (34, [.sipush (0), .goto_w 35]),
  (35, [.freturn])]
def hq115_0 : List (List (List Nat)) := [[[], [], [], [], [], [], [], [], [], [], [], [], [], [], [], []],
  [[], []],
  [[], []],
  [[]]]
set_option maxRecDepth 100000 in
theorem cq115_0 : mm_chkM 115 bq115_0 hq115_0 = true := by decide +kernel
-- LispForgeModel.form (II)I
def bq116_0 : List (Nat × List Instr) := [(0, [.aload 0, .invokeinterface 10 19, .aload 0, .invokeinterface 10 17, .iload 1, .iastore, .aload 0, .invokeinterface 10 20, .aload 0, .invokeinterface 10 17, .iload 2, .iastore, .aload 0, .dup, .invokeinterface 10 17, .sipush (1), .iadd, .multianewarray 10 17, .aload 0, .invokeinterface 10 17, .sipush (1), .isub, .ireturn])]
def hq116_0 : List (List (List Nat)) := [[[], [977], [], [975], [], [], [], [978], [], [975], [], [], [], [], [975], [], [], [975], [], [975], [], [], []]]
set_option maxRecDepth 100000 in
theorem cq116_0 : mm_chkM 116 bq116_0 hq116_0 = true := by decide +kernel
-- LispForgeModel.joins (I)V
def bq117_0 : List (Nat × List Instr) := [(0, [.aload 0, .invokeinterface 10 21, .aload 0, .invokeinterface 10 18, .iload 1, .iastore, .aload 0, .invokeinterface 10 22, .aload 0, .invokeinterface 10 18, .sipush (-1), .iastore, .aload 0, .invokeinterface 10 27, .aload 0, .invokeinterface 10 25, .iaload, .ifCond .ge 53, .aload 0, .invokeinterface 10 20, .aload 0, .invokeinterface 10 26, .aload 0, .invokeinterface 10 25, .iaload, .aload 0, .invokeinterface 10 18, .iastore, .goto 71]),
  (53, [.aload 0, .invokeinterface 10 22, .aload 0, .invokeinterface 10 27, .aload 0, .invokeinterface 10 25, .iaload, .aload 0, .invokeinterface 10 18, .iastore, .goto_w 71])]
def hq117_0 : List (List (List Nat)) := [[[], [979], [], [976], [], [], [], [980], [], [976], [], [], [], [985], [], [983], [], [], [], [978], [], [984], [], [983], [], [], [976], [], []],
  [[], [980], [], [985], [], [983], [], [], [976], [], []]]
set_option maxRecDepth 100000 in
theorem cq117_0 : mm_chkM 117 bq117_0 hq117_0 = true := by decide +kernel
def bq117_1 : List (Nat × List Instr) := [(71, [.aload 0, .invokeinterface 10 27, .aload 0, .invokeinterface 10 25, .aload 0, .invokeinterface 10 18, .iastore, .aload 0, .dup, .invokeinterface 10 18, .sipush (1), .iadd, .multianewarray 10 18, .return_])]
def hq117_1 : List (List (List Nat)) := [[[], [985], [], [983], [], [976], [], [], [], [976], [], [], [976], []]]
set_option maxRecDepth 100000 in
theorem cq117_1 : mm_chkM 117 bq117_1 hq117_1 = true := by decide +kernel
-- LispForgeModel.number (I)I
def bq118_0 : List (Nat × List Instr) := [(0, [.sipush (1), .istore 2, .aload 0, .iload 1, .aload 0, .invokeinterface 10 23, .invokevirtual 112, .sipush (45), .if_icmp .ne 28, .sipush (-1), .istore 2, .aload 0, .dup, .invokeinterface 10 23, .sipush (1), .iadd, .multianewarray 10 23, .goto_w 28]),
  (28, [.sipush (0), .istore 3, .sipush (0), .istore 4, .goto_w 33])]
def hq118_0 : List (List (List Nat)) := [[[], [], [], [], [], [981], [1143, 1145, 44, 87, 1146], [], [], [], [], [], [], [981], [], [], [981], []],
  [[], [], [], [], []]]
set_option maxRecDepth 100000 in
theorem cq118_0 : mm_chkM 118 bq118_0 hq118_0 = true := by decide +kernel
def bq118_1 : List (Nat × List Instr) := [(33, [.iload 4, .sipush (4), .if_icmp .ge 88, .aload 0, .iload 1, .aload 0, .invokeinterface 10 23, .invokevirtual 112, .invokestatic 113, .ifCond .eq 88, .sipush (10), .iload 3, .imul, .aload 0, .iload 1, .aload 0, .invokeinterface 10 23, .invokevirtual 112, .iadd, .sipush (48), .isub, .istore 3, .aload 0, .dup, .invokeinterface 10 23, .sipush (1), .iadd, .multianewarray 10 23, .iinc 4 (1), .goto 33]),
  (88, [.aload 0, .sipush (0), .iload 2, .iload 3, .imul, .invokevirtual 116, .ireturn])]
def hq118_1 : List (List (List Nat)) := [[[], [], [], [], [], [], [981], [1143, 1145, 44, 87, 1146], [1147, 1148, 87, 1149], [], [], [], [], [], [], [], [981], [1143, 1145, 44, 87, 1146], [], [], [], [], [], [], [981], [], [], [981], [], []],
  [[], [], [], [], [], [1156, 1158, 45, 87, 1159], []]]
set_option maxRecDepth 100000 in
theorem cq118_1 : mm_chkM 118 bq118_1 hq118_1 = true := by decide +kernel
