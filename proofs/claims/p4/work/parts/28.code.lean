-- LispForgeModel.object (II)I
def bq143_0 : List (Nat × List Instr) := [(0, [.aload 0, .sipush (0), .multianewarray 10 0, .iload 1, .ifCond .lt 27, .iload 1, .aload 0, .invokeinterface 10 2, .if_icmp .ge 27, .aload 0, .invokeinterface 10 6, .iload 1, .iaload, .sipush (2), .if_icmp .ne 29, .goto_w 27]),
  (27, [.sipush (-1), .ireturn])]
def hq143_0 : List (List (List Nat)) := [[[], [], [958], [], [], [], [], [960], [], [], [964], [], [], [], [], []],
  [[], []]]
set_option maxRecDepth 100000 in
theorem cq143_0 : mm_chkM 143 bq143_0 hq143_0 = true := by decide +kernel
def bq143_1 : List (Nat × List Instr) := [(29, [.sipush (1), .aload 0, .invokeinterface 10 7, .iload 1, .iaload, .invokestatic 144, .iadd, .istore 3, .sipush (1), .iload 3, .iadd, .istore 4, .iload 4, .sipush (3), .iadd, .istore 5, .iload 5, .aload 0, .invokeinterface 10 9, .iload 1, .iaload, .iadd, .istore 6, .iload 2, .ifCond .ne 74, .aload 0, .invokeinterface 10 6, .iload 1, .iaload, .ireturn]),
  (74, [.iload 2, .ifCond .le 97, .iload 2, .iload 4, .if_icmp .ge 97, .aload 0, .invokeinterface 10 7, .iload 1, .iaload, .iload 2, .sipush (1), .isub, .invokestatic 145, .ireturn])]
def hq143_1 : List (List (List Nat)) := [[[], [], [965], [], [], [1265, 1266, 87, 1267], [], [], [], [], [], [], [], [], [], [], [], [], [967], [], [], [], [], [], [], [], [964], [], [], []],
  [[], [], [], [], [], [], [965], [], [], [], [], [], [1270, 1271, 87, 1272], []]]
set_option maxRecDepth 100000 in
theorem cq143_1 : mm_chkM 143 bq143_1 hq143_1 = true := by decide +kernel
def bq143_2 : List (Nat × List Instr) := [(97, [.iload 2, .iload 4, .if_icmp .lt 150, .iload 2, .iload 5, .if_icmp .ge 150, .iload 2, .iload 4, .if_icmp .ne 124, .aload 0, .invokeinterface 10 8, .iload 1, .iaload, .goto 149]),
  (124, [.aload 0, .invokeinterface 10 9, .iload 1, .iaload, .iload 2, .iload 4, .sipush (1), .iadd, .if_icmp .ne 143, .sipush (8), .goto 144]),
  (143, [.sipush (0), .goto_w 144]),
  (144, [.ishr, .sipush (255), .iand, .goto_w 149]),
  (149, [.ireturn])]
def hq143_2 : List (List (List Nat)) := [[[], [], [], [], [], [], [], [], [], [], [966], [], [], []],
  [[], [967], [], [], [], [], [], [], [], [], []],
  [[], []],
  [[], [], [], []],
  [[]]]
set_option maxRecDepth 100000 in
theorem cq143_2 : mm_chkM 143 bq143_2 hq143_2 = true := by decide +kernel
def bq143_3 : List (Nat × List Instr) := [(150, [.iload 2, .iload 5, .if_icmp .lt 182, .iload 2, .iload 6, .if_icmp .ge 182, .aload 0, .invokeinterface 10 10, .sipush (200), .iload 1, .imul, .iload 2, .iadd, .iload 5, .isub, .baload, .sipush (255), .iand, .ireturn]),
  (182, [.iload 2, .iload 6, .if_icmp .ne 195, .aload 0, .invokeinterface 10 11, .iload 1, .iaload, .ireturn]),
  (195, [.iload 6, .sipush (1), .iadd, .istore 7, .sipush (0), .istore 8, .goto_w 204])]
def hq143_3 : List (List (List Nat)) := [[[], [], [], [], [], [], [], [968], [], [], [], [], [], [], [], [], [], [], []],
  [[], [], [], [], [969], [], [], []],
  [[], [], [], [], [], [], []]]
set_option maxRecDepth 100000 in
theorem cq143_3 : mm_chkM 143 bq143_3 hq143_3 = true := by decide +kernel
def bq143_4 : List (Nat × List Instr) := [(204, [.iload 8, .aload 0, .invokeinterface 10 11, .iload 1, .iaload, .if_icmp .ge 324, .sipush (50), .iload 1, .imul, .iload 8, .iadd, .istore 9, .sipush (3), .aload 0, .invokeinterface 10 13, .iload 9, .iaload, .invokestatic 144, .iadd, .istore 10, .iload 2, .iload 7, .if_icmp .lt 311, .iload 2, .iload 7, .iload 10, .iadd, .if_icmp .ge 311, .iload 2, .iload 7, .if_icmp .ne 272, .aload 0, .invokeinterface 10 12, .iload 9, .iaload, .sipush (8), .ishr, .goto 310])]
def hq143_4 : List (List (List Nat)) := [[[], [], [969], [], [], [], [], [], [], [], [], [], [], [], [971], [], [], [1265, 1266, 87, 1267], [], [], [], [], [], [], [], [], [], [], [], [], [], [], [970], [], [], [], [], []]]
set_option maxRecDepth 100000 in
theorem cq143_4 : mm_chkM 143 bq143_4 hq143_4 = true := by decide +kernel
def bq143_5 : List (Nat × List Instr) := [(272, [.iload 2, .iload 7, .sipush (1), .iadd, .if_icmp .ne 294, .aload 0, .invokeinterface 10 12, .iload 9, .iaload, .sipush (255), .iand, .goto 310]),
  (294, [.aload 0, .invokeinterface 10 13, .iload 9, .iaload, .iload 2, .iload 7, .isub, .sipush (2), .isub, .invokestatic 145, .goto_w 310]),
  (310, [.ireturn]),
  (311, [.iload 7, .iload 10, .iadd, .istore 7, .iinc 8 (1), .goto 204]),
  (324, [.iload 2, .sipush (-1), .if_icmp .ne 334, .iload 7, .goto 335]),
  (334, [.sipush (-1), .goto_w 335]),
  (335, [.ireturn])]
def hq143_5 : List (List (List Nat)) := [[[], [], [], [], [], [], [970], [], [], [], [], []],
  [[], [971], [], [], [], [], [], [], [], [1270, 1271, 87, 1272], []],
  [[]],
  [[], [], [], [], [], []],
  [[], [], [], [], []],
  [[], []],
  [[]]]
set_option maxRecDepth 100000 in
theorem cq143_5 : mm_chkM 143 bq143_5 hq143_5 = true := by decide +kernel
-- LispForgeModel.letters (I)I
def bq144_0 : List (Nat × List Instr) := [(0, [.iload 0, .ifCond .ne 8, .sipush (0), .goto 42]),
  (8, [.iload 0, .sipush (256), .if_icmp .ge 19, .sipush (1), .goto 42]),
  (19, [.iload 0, .sipush (65536), .if_icmp .ge 30, .sipush (2), .goto 42]),
  (30, [.iload 0, .sipush (16777216), .if_icmp .ge 41, .sipush (3), .goto 42]),
  (41, [.sipush (4), .goto_w 42]),
  (42, [.ireturn])]
def hq144_0 : List (List (List Nat)) := [[[], [], [], []],
  [[], [], [], [], []],
  [[], [1268], [], [], []],
  [[], [1269], [], [], []],
  [[], []],
  [[]]]
set_option maxRecDepth 100000 in
theorem cq144_0 : mm_chkM 144 bq144_0 hq144_0 = true := by decide +kernel
-- LispForgeModel.nameByte (II)I
def bq145_0 : List (Nat × List Instr) := [(0, [.iload 0, .invokestatic 144, .istore 2, .iload 1, .ifCond .ne 13, .iload 2, .goto 25]),
  (13, [.iload 0, .sipush (8), .iload 2, .iload 1, .isub, .imul, .ishr, .sipush (255), .iand, .goto_w 25]),
  (25, [.ireturn])]
def hq145_0 : List (List (List Nat)) := [[[], [1265, 1266, 87, 1267], [], [], [], [], []],
  [[], [], [], [], [], [], [], [], [], []],
  [[]]]
set_option maxRecDepth 100000 in
theorem cq145_0 : mm_chkM 145 bq145_0 hq145_0 = true := by decide +kernel
-- LispForgeModel.clear ()V
def bq146_0 : List (Nat × List Instr) := [(0, [.aload 0, .sipush (0), .multianewarray 10 0, .aload 0, .sipush (0), .multianewarray 10 2, .return_])]
def hq146_0 : List (List (List Nat)) := [[[], [], [958], [], [], [960], []]]
set_option maxRecDepth 100000 in
theorem cq146_0 : mm_chkM 146 bq146_0 hq146_0 = true := by decide +kernel
-- LispForgeModel.link ()I
def bq147_0 : List (Nat × List Instr) := [(0, [.aload 0, .sipush (0), .sipush (0), .invokevirtual 148, .istore 1, .aload 0, .iload 1, .ifCond .ge 16, .sipush (1), .goto 17]),
  (16, [.sipush (0), .goto_w 17]),
  (17, [.multianewarray 10 4, .aload 0, .sipush (0), .multianewarray 10 43, .aload 0, .invokeinterface 10 4, .ifCond .ne 44, .aload 0, .invokeinterface 10 44, .sipush (0), .iload 1, .iastore, .aload 0, .sipush (1), .multianewarray 10 43, .goto_w 44]),
  (44, [.sipush (0), .istore 2, .goto_w 46])]
def hq147_0 : List (List (List Nat)) := [[[], [], [], [1281, 1283, 68, 87, 1284], [], [], [], [], [], []],
  [[], []],
  [[962], [], [], [1001], [], [962], [], [], [1002], [], [], [], [], [], [1001], []],
  [[], [], []]]
set_option maxRecDepth 100000 in
theorem cq147_0 : mm_chkM 147 bq147_0 hq147_0 = true := by decide +kernel
def bq147_1 : List (Nat × List Instr) := [(46, [.iload 2, .aload 0, .invokeinterface 10 43, .if_icmp .ge 81, .aload 0, .invokeinterface 10 4, .ifCond .ne 81, .aload 0, .aload 0, .aload 0, .invokeinterface 10 44, .iload 2, .iaload, .invokevirtual 149, .multianewarray 10 4, .iinc 2 (1), .goto 46]),
  (81, [.sipush (0), .istore 2, .sipush (0), .istore 3, .goto_w 85]),
  (85, [.iload 3, .aload 0, .invokeinterface 10 43, .if_icmp .ge 120, .aload 0, .invokeinterface 10 45, .iload 3, .iload 2, .iastore, .iload 2, .aload 0, .invokeinterface 10 9, .aload 0, .invokeinterface 10 44, .iload 3, .iaload, .iaload, .iadd, .istore 2, .iinc 3 (1), .goto 85])]
def hq147_1 : List (List (List Nat)) := [[[], [], [1001], [], [], [962], [], [], [], [], [1002], [], [], [1285, 1287, 69, 87, 1288], [962], [], []],
  [[], [], [], [], []],
  [[], [], [1001], [], [], [1003], [], [], [], [], [], [967], [], [1002], [], [], [], [], [], [], []]]
set_option maxRecDepth 100000 in
theorem cq147_1 : mm_chkM 147 bq147_1 hq147_1 = true := by decide +kernel
def bq147_2 : List (Nat × List Instr) := [(120, [.aload 0, .aload 0, .invokeinterface 10 4, .ifCond .ne 139, .iload 2, .sipush (600), .if_icmp .le 139, .sipush (4), .goto 143]),
  (139, [.aload 0, .invokeinterface 10 4, .goto_w 143]),
  (143, [.multianewarray 10 4, .aload 0, .aload 0, .invokeinterface 10 4, .ifCond .le 158, .sipush (1), .goto 159]),
  (158, [.sipush (0), .goto_w 159]),
  (159, [.multianewarray 10 0, .aload 0, .invokeinterface 10 0, .ifCond .le 171, .sipush (0), .ireturn]),
  (171, [.sipush (0), .istore 3, .goto_w 173])]
def hq147_2 : List (List (List Nat)) := [[[], [], [962], [], [], [], [], [], []],
  [[], [962], []],
  [[962], [], [], [962], [], [], []],
  [[], []],
  [[958], [], [958], [], [], []],
  [[], [], []]]
set_option maxRecDepth 100000 in
theorem cq147_2 : mm_chkM 147 bq147_2 hq147_2 = true := by decide +kernel
def bq147_3 : List (Nat × List Instr) := [(173, [.iload 3, .aload 0, .invokeinterface 10 43, .if_icmp .ge 203, .aload 0, .aload 0, .invokeinterface 10 44, .iload 3, .iaload, .aload 0, .invokeinterface 10 45, .iload 3, .iaload, .invokevirtual 151, .iinc 3 (1), .goto 173]),
  (203, [.aload 0, .iload 2, .multianewarray 10 46, .aload 0, .invokevirtual 154, .iload 2, .ireturn])]
def hq147_3 : List (List (List Nat)) := [[[], [], [1001], [], [], [], [1002], [], [], [], [1003], [], [], [1293, 1295, 71, 87, 1296], [], []],
  [[], [], [1004], [], [1304, 1306, 73, 87, 1307], [], []]]
set_option maxRecDepth 100000 in
theorem cq147_3 : mm_chkM 147 bq147_3 hq147_3 = true := by decide +kernel
-- LispForgeModel.latest (II)I
def bq148_0 : List (Nat × List Instr) := [(0, [.aload 0, .invokeinterface 10 2, .sipush (1), .isub, .istore 3, .goto_w 7]),
  (7, [.iload 3, .ifCond .lt 37, .aload 0, .invokeinterface 10 6, .iload 3, .iaload, .iload 1, .if_icmp .ne 31, .aload 0, .invokeinterface 10 7, .iload 3, .iaload, .iload 2, .if_icmp .eq 37, .goto_w 31]),
  (31, [.iinc 3 (-1), .goto 7]),
  (37, [.iload 3, .ireturn])]
def hq148_0 : List (List (List Nat)) := [[[], [960], [], [], [], []],
  [[], [], [], [964], [], [], [], [], [], [965], [], [], [], [], []],
  [[], []],
  [[], []]]
set_option maxRecDepth 100000 in
theorem cq148_0 : mm_chkM 148 bq148_0 hq148_0 = true := by decide +kernel
