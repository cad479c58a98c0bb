-- LispForgeModel.isLetter (I)Z
def bq115_0 : List (Nat × List Instr) := [(0, [.iload 0, .sipush (97), .if_icmp .lt 16, .iload 0, .sipush (122), .if_icmp .gt 16, .sipush (1), .goto 17]),
  (16, [.sipush (0), .goto_w 17]),
  (17, [.freturn])]
def hq115_0 : List (List (List Nat)) := [[[], [], [], [], [], [], [], []],
  [[], []],
  [[]]]
set_option maxRecDepth 100000 in
theorem cq115_0 : mm_chkM 115 bq115_0 hq115_0 = true := by decide +kernel
-- LispForgeModel.isSign (I)Z
def bq116_0 : List (Nat × List Instr) := [(0, [.iload 0, .sipush (43), .if_icmp .eq 30, .iload 0, .sipush (45), .if_icmp .eq 30, .iload 0, .sipush (42), .if_icmp .eq 30, .iload 0, .sipush (60), .if_icmp .eq 30, .iload 0, .sipush (61), .if_icmp .ne 34, .goto_w 30]),
  (30, [.sipush (1), .goto 35]),
  (34, [.sipush (0), .goto_w 35]),
  (35, [.freturn])]
def hq116_0 : List (List (List Nat)) := [[[], [], [], [], [], [], [], [], [], [], [], [], [], [], [], []],
  [[], []],
  [[], []],
  [[]]]
set_option maxRecDepth 100000 in
theorem cq116_0 : mm_chkM 116 bq116_0 hq116_0 = true := by decide +kernel
-- LispForgeModel.position ()I
def bq143_0 : List (Nat × List Instr) := [(0, [.aload 0, .sipush (0), .multianewarray 10 0, .aload 0, .invokeinterface 10 3, .ireturn])]
def hq143_0 : List (List (List Nat)) := [[[], [], [958], [], [961], []]]
set_option maxRecDepth 100000 in
theorem cq143_0 : mm_chkM 143 bq143_0 hq143_0 = true := by decide +kernel
-- LispForgeModel.object (II)I
def bq144_0 : List (Nat × List Instr) := [(0, [.aload 0, .sipush (0), .multianewarray 10 0, .iload 1, .ifCond .lt 27, .iload 1, .aload 0, .invokeinterface 10 2, .if_icmp .ge 27, .aload 0, .invokeinterface 10 6, .iload 1, .iaload, .sipush (2), .if_icmp .ne 29, .goto_w 27]),
  (27, [.sipush (-1), .ireturn])]
def hq144_0 : List (List (List Nat)) := [[[], [], [958], [], [], [], [], [960], [], [], [964], [], [], [], [], []],
  [[], []]]
set_option maxRecDepth 100000 in
theorem cq144_0 : mm_chkM 144 bq144_0 hq144_0 = true := by decide +kernel
def bq144_1 : List (Nat × List Instr) := [(29, [.sipush (1), .aload 0, .invokeinterface 10 7, .iload 1, .iaload, .invokestatic 145, .iadd, .istore 3, .sipush (1), .iload 3, .iadd, .istore 4, .iload 4, .sipush (3), .iadd, .istore 5, .iload 5, .aload 0, .invokeinterface 10 9, .iload 1, .iaload, .iadd, .istore 6, .iload 2, .ifCond .ne 74, .aload 0, .invokeinterface 10 6, .iload 1, .iaload, .ireturn]),
  (74, [.iload 2, .ifCond .le 97, .iload 2, .iload 4, .if_icmp .ge 97, .aload 0, .invokeinterface 10 7, .iload 1, .iaload, .iload 2, .sipush (1), .isub, .invokestatic 146, .ireturn])]
def hq144_1 : List (List (List Nat)) := [[[], [], [965], [], [], [1269, 1270, 87, 1271], [], [], [], [], [], [], [], [], [], [], [], [], [967], [], [], [], [], [], [], [], [964], [], [], []],
  [[], [], [], [], [], [], [965], [], [], [], [], [], [1274, 1275, 87, 1276], []]]
set_option maxRecDepth 100000 in
theorem cq144_1 : mm_chkM 144 bq144_1 hq144_1 = true := by decide +kernel
def bq144_2 : List (Nat × List Instr) := [(97, [.iload 2, .iload 4, .if_icmp .lt 150, .iload 2, .iload 5, .if_icmp .ge 150, .iload 2, .iload 4, .if_icmp .ne 124, .aload 0, .invokeinterface 10 8, .iload 1, .iaload, .goto 149]),
  (124, [.aload 0, .invokeinterface 10 9, .iload 1, .iaload, .iload 2, .iload 4, .sipush (1), .iadd, .if_icmp .ne 143, .sipush (8), .goto 144]),
  (143, [.sipush (0), .goto_w 144]),
  (144, [.ishr, .sipush (255), .iand, .goto_w 149]),
  (149, [.ireturn])]
def hq144_2 : List (List (List Nat)) := [[[], [], [], [], [], [], [], [], [], [], [966], [], [], []],
  [[], [967], [], [], [], [], [], [], [], [], []],
  [[], []],
  [[], [], [], []],
  [[]]]
set_option maxRecDepth 100000 in
theorem cq144_2 : mm_chkM 144 bq144_2 hq144_2 = true := by decide +kernel
def bq144_3 : List (Nat × List Instr) := [(150, [.iload 2, .iload 5, .if_icmp .lt 182, .iload 2, .iload 6, .if_icmp .ge 182, .aload 0, .invokeinterface 10 10, .sipush (200), .iload 1, .imul, .iload 2, .iadd, .iload 5, .isub, .baload, .sipush (255), .iand, .ireturn]),
  (182, [.iload 2, .iload 6, .if_icmp .ne 195, .aload 0, .invokeinterface 10 11, .iload 1, .iaload, .ireturn]),
  (195, [.iload 6, .sipush (1), .iadd, .istore 7, .sipush (0), .istore 8, .goto_w 204])]
def hq144_3 : List (List (List Nat)) := [[[], [], [], [], [], [], [], [968], [], [], [], [], [], [], [], [], [], [], []],
  [[], [], [], [], [969], [], [], []],
  [[], [], [], [], [], [], []]]
set_option maxRecDepth 100000 in
theorem cq144_3 : mm_chkM 144 bq144_3 hq144_3 = true := by decide +kernel
def bq144_4 : List (Nat × List Instr) := [(204, [.iload 8, .aload 0, .invokeinterface 10 11, .iload 1, .iaload, .if_icmp .ge 324, .sipush (50), .iload 1, .imul, .iload 8, .iadd, .istore 9, .sipush (3), .aload 0, .invokeinterface 10 13, .iload 9, .iaload, .invokestatic 145, .iadd, .istore 10, .iload 2, .iload 7, .if_icmp .lt 311, .iload 2, .iload 7, .iload 10, .iadd, .if_icmp .ge 311, .iload 2, .iload 7, .if_icmp .ne 272, .aload 0, .invokeinterface 10 12, .iload 9, .iaload, .sipush (8), .ishr, .goto 310])]
def hq144_4 : List (List (List Nat)) := [[[], [], [969], [], [], [], [], [], [], [], [], [], [], [], [971], [], [], [1269, 1270, 87, 1271], [], [], [], [], [], [], [], [], [], [], [], [], [], [], [970], [], [], [], [], []]]
set_option maxRecDepth 100000 in
theorem cq144_4 : mm_chkM 144 bq144_4 hq144_4 = true := by decide +kernel
def bq144_5 : List (Nat × List Instr) := [(272, [.iload 2, .iload 7, .sipush (1), .iadd, .if_icmp .ne 294, .aload 0, .invokeinterface 10 12, .iload 9, .iaload, .sipush (255), .iand, .goto 310]),
  (294, [.aload 0, .invokeinterface 10 13, .iload 9, .iaload, .iload 2, .iload 7, .isub, .sipush (2), .isub, .invokestatic 146, .goto_w 310]),
  (310, [.ireturn]),
  (311, [.iload 7, .iload 10, .iadd, .istore 7, .iinc 8 (1), .goto 204]),
  (324, [.iload 2, .sipush (-1), .if_icmp .ne 334, .iload 7, .goto 335]),
  (334, [.sipush (-1), .goto_w 335]),
  (335, [.ireturn])]
def hq144_5 : List (List (List Nat)) := [[[], [], [], [], [], [], [970], [], [], [], [], []],
  [[], [971], [], [], [], [], [], [], [], [1274, 1275, 87, 1276], []],
  [[]],
  [[], [], [], [], [], []],
  [[], [], [], [], []],
  [[], []],
  [[]]]
set_option maxRecDepth 100000 in
theorem cq144_5 : mm_chkM 144 bq144_5 hq144_5 = true := by decide +kernel
-- LispForgeModel.clear ()V
def bq147_0 : List (Nat × List Instr) := [(0, [.aload 0, .sipush (0), .multianewarray 10 0, .aload 0, .sipush (0), .multianewarray 10 2, .return_])]
def hq147_0 : List (List (List Nat)) := [[[], [], [958], [], [], [960], []]]
set_option maxRecDepth 100000 in
theorem cq147_0 : mm_chkM 147 bq147_0 hq147_0 = true := by decide +kernel
-- LispForgeModel.link ()I
def bq148_0 : List (Nat × List Instr) := [(0, [.aload 0, .sipush (0), .sipush (0), .invokevirtual 149, .istore 1, .aload 0, .iload 1, .ifCond .ge 16, .sipush (1), .goto 17]),
  (16, [.sipush (0), .goto_w 17]),
  (17, [.multianewarray 10 4, .aload 0, .sipush (0), .multianewarray 10 43, .aload 0, .invokeinterface 10 4, .ifCond .ne 44, .aload 0, .invokeinterface 10 44, .sipush (0), .iload 1, .iastore, .aload 0, .sipush (1), .multianewarray 10 43, .goto_w 44]),
  (44, [.sipush (0), .istore 2, .goto_w 46])]
def hq148_0 : List (List (List Nat)) := [[[], [], [], [1285, 1287, 68, 87, 1288], [], [], [], [], [], []],
  [[], []],
  [[962], [], [], [1001], [], [962], [], [], [1002], [], [], [], [], [], [1001], []],
  [[], [], []]]
set_option maxRecDepth 100000 in
theorem cq148_0 : mm_chkM 148 bq148_0 hq148_0 = true := by decide +kernel
def bq148_1 : List (Nat × List Instr) := [(46, [.iload 2, .aload 0, .invokeinterface 10 43, .if_icmp .ge 81, .aload 0, .invokeinterface 10 4, .ifCond .ne 81, .aload 0, .aload 0, .aload 0, .invokeinterface 10 44, .iload 2, .iaload, .invokevirtual 150, .multianewarray 10 4, .iinc 2 (1), .goto 46]),
  (81, [.sipush (0), .istore 2, .sipush (0), .istore 3, .goto_w 85]),
  (85, [.iload 3, .aload 0, .invokeinterface 10 43, .if_icmp .ge 120, .aload 0, .invokeinterface 10 45, .iload 3, .iload 2, .iastore, .iload 2, .aload 0, .invokeinterface 10 9, .aload 0, .invokeinterface 10 44, .iload 3, .iaload, .iaload, .iadd, .istore 2, .iinc 3 (1), .goto 85])]
def hq148_1 : List (List (List Nat)) := [[[], [], [1001], [], [], [962], [], [], [], [], [1002], [], [], [1289, 1291, 69, 87, 1292], [962], [], []],
  [[], [], [], [], []],
  [[], [], [1001], [], [], [1003], [], [], [], [], [], [967], [], [1002], [], [], [], [], [], [], []]]
set_option maxRecDepth 100000 in
theorem cq148_1 : mm_chkM 148 bq148_1 hq148_1 = true := by decide +kernel
def bq148_2 : List (Nat × List Instr) := [(120, [.aload 0, .aload 0, .invokeinterface 10 4, .ifCond .ne 139, .iload 2, .sipush (600), .if_icmp .le 139, .sipush (4), .goto 143]),
  (139, [.aload 0, .invokeinterface 10 4, .goto_w 143]),
  (143, [.multianewarray 10 4, .aload 0, .aload 0, .invokeinterface 10 4, .ifCond .le 158, .sipush (1), .goto 159]),
  (158, [.sipush (0), .goto_w 159]),
  (159, [.multianewarray 10 0, .aload 0, .invokeinterface 10 0, .ifCond .le 171, .sipush (0), .ireturn]),
  (171, [.sipush (0), .istore 3, .goto_w 173])]
def hq148_2 : List (List (List Nat)) := [[[], [], [962], [], [], [], [], [], []],
  [[], [962], []],
  [[962], [], [], [962], [], [], []],
  [[], []],
  [[958], [], [958], [], [], []],
  [[], [], []]]
set_option maxRecDepth 100000 in
theorem cq148_2 : mm_chkM 148 bq148_2 hq148_2 = true := by decide +kernel
def bq148_3 : List (Nat × List Instr) := [(173, [.iload 3, .aload 0, .invokeinterface 10 43, .if_icmp .ge 203, .aload 0, .aload 0, .invokeinterface 10 44, .iload 3, .iaload, .aload 0, .invokeinterface 10 45, .iload 3, .iaload, .invokevirtual 152, .iinc 3 (1), .goto 173]),
  (203, [.aload 0, .iload 2, .multianewarray 10 46, .aload 0, .invokevirtual 155, .iload 2, .ireturn])]
def hq148_3 : List (List (List Nat)) := [[[], [], [1001], [], [], [], [1002], [], [], [], [1003], [], [], [1297, 1299, 71, 87, 1300], [], []],
  [[], [], [1004], [], [1308, 1310, 73, 87, 1311], [], []]]
set_option maxRecDepth 100000 in
theorem cq148_3 : mm_chkM 148 bq148_3 hq148_3 = true := by decide +kernel
-- LispForgeModel.latest (II)I
def bq149_0 : List (Nat × List Instr) := [(0, [.aload 0, .invokeinterface 10 2, .sipush (1), .isub, .istore 3, .goto_w 7]),
  (7, [.iload 3, .ifCond .lt 37, .aload 0, .invokeinterface 10 6, .iload 3, .iaload, .iload 1, .if_icmp .ne 31, .aload 0, .invokeinterface 10 7, .iload 3, .iaload, .iload 2, .if_icmp .eq 37, .goto_w 31]),
  (31, [.iinc 3 (-1), .goto 7]),
  (37, [.iload 3, .ireturn])]
def hq149_0 : List (List (List Nat)) := [[[], [960], [], [], [], []],
  [[], [], [], [964], [], [], [], [], [], [965], [], [], [], [], []],
  [[], []],
  [[], []]]
set_option maxRecDepth 100000 in
theorem cq149_0 : mm_chkM 149 bq149_0 hq149_0 = true := by decide +kernel
-- LispForgeModel.begin ()V
def bq155_0 : List (Nat × List Instr) := [(0, [.aload 0, .sipush (1), .multianewarray 10 48, .aload 0, .sipush (0), .multianewarray 10 49, .aload 0, .sipush (0), .multianewarray 10 50, .aload 0, .sipush (0), .multianewarray 10 51, .aload 0, .sipush (0), .multianewarray 10 52, .aload 0, .sipush (0), .multianewarray 10 53, .return_])]
def hq155_0 : List (List (List Nat)) := [[[], [], [1006], [], [], [1007], [], [], [1008], [], [], [1009], [], [], [1010], [], [], [1011], []]]
set_option maxRecDepth 100000 in
theorem cq155_0 : mm_chkM 155 bq155_0 hq155_0 = true := by decide +kernel
-- LispForgeModel.failure ()I
def bq156_0 : List (Nat × List Instr) := [(0, [.aload 0, .sipush (0), .multianewarray 10 0, .aload 0, .invokeinterface 10 4, .ireturn])]
def hq156_0 : List (List (List Nat)) := [[[], [], [958], [], [962], []]]
set_option maxRecDepth 100000 in
theorem cq156_0 : mm_chkM 156 bq156_0 hq156_0 = true := by decide +kernel
