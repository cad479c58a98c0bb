-- LispForgeModel.meet (I)I
def bq149_0 : List (Nat × List Instr) := [(0, [.sipush (0), .istore 2, .goto_w 2]),
  (2, [.iload 2, .aload 0, .invokeinterface 10 11, .iload 1, .iaload, .if_icmp .ge 108, .aload 0, .sipush (1), .aload 0, .invokeinterface 10 13, .sipush (50), .iload 1, .imul, .iload 2, .iadd, .iaload, .invokevirtual 148, .istore 3, .iload 3, .ifCond .ge 35, .sipush (2), .ireturn])]
def hq149_0 : List (List (List Nat)) := [[[], [], []],
  [[], [], [969], [], [], [], [], [], [], [971], [], [], [], [], [], [], [1281, 1283, 68, 87, 1284], [], [], [], [], []]]
set_option maxRecDepth 100000 in
theorem cq149_0 : mm_chkM 149 bq149_0 hq149_0 = true := by decide +kernel
def bq149_1 : List (Nat × List Instr) := [(35, [.aload 0, .invokeinterface 10 10, .sipush (200), .iload 1, .imul, .aload 0, .invokeinterface 10 12, .sipush (50), .iload 1, .imul, .iload 2, .iadd, .iaload, .iadd, .sipush (2), .iadd, .baload, .sipush (255), .iand, .aload 0, .invokeinterface 10 8, .iload 3, .iaload, .if_icmp .eq 74, .sipush (3), .ireturn]),
  (74, [.aload 0, .iload 3, .invokevirtual 150, .ifCond .ge 102, .aload 0, .invokeinterface 10 44, .aload 0, .invokeinterface 10 43, .iload 3, .iastore, .aload 0, .dup, .invokeinterface 10 43, .sipush (1), .iadd, .multianewarray 10 43, .goto_w 102]),
  (102, [.iinc 2 (1), .goto 2])]
def hq149_1 : List (List (List Nat)) := [[[], [968], [], [], [], [], [970], [], [], [], [], [], [], [], [], [], [], [], [], [], [966], [], [], [], [], []],
  [[], [], [1289, 1291, 70, 87, 1292], [], [], [1002], [], [1001], [], [], [], [], [1001], [], [], [1001], []],
  [[], []]]
set_option maxRecDepth 100000 in
theorem cq149_1 : mm_chkM 149 bq149_1 hq149_1 = true := by decide +kernel
def bq149_2 : List (Nat × List Instr) := [(108, [.sipush (0), .ireturn])]
def hq149_2 : List (List (List Nat)) := [[[], []]]
set_option maxRecDepth 100000 in
theorem cq149_2 : mm_chkM 149 bq149_2 hq149_2 = true := by decide +kernel
-- LispForgeModel.stands (I)I
def bq150_0 : List (Nat × List Instr) := [(0, [.aload 0, .invokeinterface 10 43, .sipush (1), .isub, .istore 2, .goto_w 7]),
  (7, [.iload 2, .ifCond .lt 27, .aload 0, .invokeinterface 10 44, .iload 2, .iaload, .iload 1, .if_icmp .eq 27, .iinc 2 (-1), .goto 7]),
  (27, [.iload 2, .ireturn])]
def hq150_0 : List (List (List Nat)) := [[[], [1001], [], [], [], []],
  [[], [], [], [1002], [], [], [], [], [], []],
  [[], []]]
set_option maxRecDepth 100000 in
theorem cq150_0 : mm_chkM 150 bq150_0 hq150_0 = true := by decide +kernel
-- LispForgeModel.copy (II)V
def bq151_0 : List (Nat × List Instr) := [(0, [.sipush (0), .istore 3, .goto_w 2]),
  (2, [.iload 3, .aload 0, .invokeinterface 10 9, .iload 1, .iaload, .if_icmp .ge 38, .aload 0, .invokeinterface 10 47, .iload 2, .iload 3, .iadd, .aload 0, .invokeinterface 10 10, .sipush (200), .iload 1, .imul, .iload 3, .iadd, .baload, .bastore, .iinc 3 (1), .goto 2]),
  (38, [.sipush (0), .istore 3, .goto_w 40])]
def hq151_0 : List (List (List Nat)) := [[[], [], []],
  [[], [], [967], [], [], [], [], [1005], [], [], [], [], [968], [], [], [], [], [], [], [], [], []],
  [[], [], []]]
set_option maxRecDepth 100000 in
theorem cq151_0 : mm_chkM 151 bq151_0 hq151_0 = true := by decide +kernel
def bq151_1 : List (Nat × List Instr) := [(40, [.iload 3, .aload 0, .invokeinterface 10 9, .iload 1, .iaload, .if_icmp .ge 150, .aload 0, .invokeinterface 10 10, .sipush (200), .iload 1, .imul, .iload 3, .iadd, .baload, .istore 4, .iload 4, .sipush (7), .if_icmp .eq 78, .iload 4, .sipush (8), .if_icmp .ne 129, .goto_w 78])]
def hq151_1 : List (List (List Nat)) := [[[], [], [967], [], [], [], [], [968], [], [], [], [], [], [], [], [], [], [], [], [], [], []]]
set_option maxRecDepth 100000 in
theorem cq151_1 : mm_chkM 151 bq151_1 hq151_1 = true := by decide +kernel
def bq151_2 : List (Nat × List Instr) := [(78, [.aload 0, .iload 2, .iload 3, .iadd, .sipush (1), .iadd, .iload 2, .aload 0, .invokeinterface 10 10, .sipush (200), .iload 1, .imul, .iload 3, .iadd, .sipush (1), .iadd, .baload, .sipush (255), .iand, .sipush (8), .ishl, .aload 0, .invokeinterface 10 10, .sipush (200), .iload 1, .imul, .iload 3, .iadd, .sipush (2), .iadd, .baload, .sipush (255), .iand, .ior, .iadd, .invokevirtual 152, .goto_w 129])]
def hq151_2 : List (List (List Nat)) := [[[], [], [], [], [], [], [], [], [968], [], [], [], [], [], [], [], [], [], [], [], [], [], [968], [], [], [], [], [], [], [], [], [], [], [], [], [1297, 1299, 72, 87, 1300], []]]
set_option maxRecDepth 100000 in
theorem cq151_2 : mm_chkM 151 bq151_2 hq151_2 = true := by decide +kernel
def bq151_3 : List (Nat × List Instr) := [(129, [.iload 3, .aload 0, .invokeinterface 10 10, .sipush (200), .iload 1, .imul, .iload 3, .iadd, .baload, .invokestatic 153, .iadd, .istore 3, .goto 40]),
  (150, [.sipush (0), .istore 3, .goto_w 152])]
def hq151_3 : List (List (List Nat)) := [[[], [], [968], [], [], [], [], [], [], [1301, 1302, 87, 1303], [], [], []],
  [[], [], []]]
set_option maxRecDepth 100000 in
theorem cq151_3 : mm_chkM 151 bq151_3 hq151_3 = true := by decide +kernel
def bq151_4 : List (Nat × List Instr) := [(152, [.iload 3, .aload 0, .invokeinterface 10 11, .iload 1, .iaload, .if_icmp .ge 210, .aload 0, .iload 2, .aload 0, .invokeinterface 10 12, .sipush (50), .iload 1, .imul, .iload 3, .iadd, .iaload, .iadd, .aload 0, .invokeinterface 10 45, .aload 0, .aload 0, .sipush (1), .aload 0, .invokeinterface 10 13, .sipush (50), .iload 1, .imul, .iload 3, .iadd, .iaload, .invokevirtual 148, .invokevirtual 150, .iaload, .invokevirtual 152, .iinc 3 (1), .goto 152]),
  (210, [.return_])]
def hq151_4 : List (List (List Nat)) := [[[], [], [969], [], [], [], [], [], [], [970], [], [], [], [], [], [], [], [], [1003], [], [], [], [], [971], [], [], [], [], [], [], [1281, 1283, 68, 87, 1284], [1289, 1291, 70, 87, 1292], [], [1297, 1299, 72, 87, 1300], [], []],
  [[]]]
set_option maxRecDepth 100000 in
theorem cq151_4 : mm_chkM 151 bq151_4 hq151_4 = true := by decide +kernel
-- LispForgeModel.putPlace (II)V
def bq152_0 : List (Nat × List Instr) := [(0, [.aload 0, .invokeinterface 10 47, .iload 1, .iload 2, .sipush (8), .ishr, .i2b, .bastore, .aload 0, .invokeinterface 10 47, .iload 1, .sipush (1), .iadd, .iload 2, .i2b, .bastore, .return_])]
def hq152_0 : List (List (List Nat)) := [[[], [1005], [], [], [], [], [], [], [], [1005], [], [], [], [], [], [], []]]
set_option maxRecDepth 100000 in
theorem cq152_0 : mm_chkM 152 bq152_0 hq152_0 = true := by decide +kernel
-- LispForgeModel.wide (I)I
def bq153_0 : List (Nat × List Instr) := [(0, [.iload 0, .ifCond .eq 16, .iload 0, .sipush (7), .if_icmp .eq 16, .iload 0, .sipush (8), .if_icmp .ne 20, .goto_w 16]),
  (16, [.sipush (3), .goto 52]),
  (20, [.iload 0, .sipush (1), .if_icmp .eq 37, .iload 0, .sipush (11), .if_icmp .eq 37, .iload 0, .sipush (13), .if_icmp .ne 41, .goto_w 37]),
  (37, [.sipush (2), .goto 52]),
  (41, [.iload 0, .sipush (12), .if_icmp .ne 51, .sipush (4), .goto 52]),
  (51, [.sipush (1), .goto_w 52]),
  (52, [.ireturn])]
def hq153_0 : List (List (List Nat)) := [[[], [], [], [], [], [], [], [], []],
  [[], []],
  [[], [], [], [], [], [], [], [], [], []],
  [[], []],
  [[], [], [], [], []],
  [[], []],
  [[]]]
set_option maxRecDepth 100000 in
theorem cq153_0 : mm_chkM 153 bq153_0 hq153_0 = true := by decide +kernel
-- LispForgeModel.begin ()V
def bq154_0 : List (Nat × List Instr) := [(0, [.aload 0, .sipush (1), .multianewarray 10 48, .aload 0, .sipush (0), .multianewarray 10 49, .aload 0, .sipush (0), .multianewarray 10 50, .aload 0, .sipush (0), .multianewarray 10 51, .aload 0, .sipush (0), .multianewarray 10 52, .aload 0, .sipush (0), .multianewarray 10 53, .return_])]
def hq154_0 : List (List (List Nat)) := [[[], [], [1006], [], [], [1007], [], [], [1008], [], [], [1009], [], [], [1010], [], [], [1011], []]]
set_option maxRecDepth 100000 in
theorem cq154_0 : mm_chkM 154 bq154_0 hq154_0 = true := by decide +kernel
-- LispForgeModel.failure ()I
def bq155_0 : List (Nat × List Instr) := [(0, [.aload 0, .sipush (0), .multianewarray 10 0, .aload 0, .invokeinterface 10 4, .ireturn])]
def hq155_0 : List (List (List Nat)) := [[[], [], [958], [], [962], []]]
set_option maxRecDepth 100000 in
theorem cq155_0 : mm_chkM 155 bq155_0 hq155_0 = true := by decide +kernel
-- LispForgeModel.image (I)I
def bq156_0 : List (Nat × List Instr) := [(0, [.aload 0, .sipush (0), .multianewarray 10 0, .iload 1, .sipush (-1), .if_icmp .ne 17, .aload 0, .invokeinterface 10 46, .goto 43]),
  (17, [.iload 1, .ifCond .lt 42, .iload 1, .aload 0, .invokeinterface 10 46, .if_icmp .ge 42, .aload 0, .invokeinterface 10 47, .iload 1, .baload, .sipush (255), .iand, .goto 43]),
  (42, [.sipush (-1), .goto_w 43]),
  (43, [.ireturn])]
def hq156_0 : List (List (List Nat)) := [[[], [], [958], [], [], [], [], [1004], []],
  [[], [], [], [], [1004], [], [], [1005], [], [], [], [], []],
  [[], []],
  [[]]]
set_option maxRecDepth 100000 in
theorem cq156_0 : mm_chkM 156 bq156_0 hq156_0 = true := by decide +kernel
-- LispForgeModel.restart ()Z
def bq157_0 : List (Nat × List Instr) := [(0, [.aload 0, .sipush (0), .multianewarray 10 0, .aload 0, .invokeinterface 10 46, .ifCond .ne 14, .sipush (0), .freturn]),
  (14, [.aload 0, .invokevirtual 154, .sipush (1), .freturn])]
def hq157_0 : List (List (List Nat)) := [[[], [], [958], [], [1004], [], [], []],
  [[], [1304, 1306, 73, 87, 1307], [], []]]
set_option maxRecDepth 100000 in
theorem cq157_0 : mm_chkM 157 bq157_0 hq157_0 = true := by decide +kernel
-- LispForgeModel.run (I)I
def bq158_0 : List (Nat × List Instr) := [(0, [.aload 0, .iload 1, .ifCond .lt 12, .iload 1, .sipush (500), .if_icmp .le 16, .goto_w 12]),
  (12, [.sipush (1), .goto 17]),
  (16, [.sipush (0), .goto_w 17]),
  (17, [.multianewarray 10 0, .sipush (0), .istore 2, .goto_w 22]),
  (22, [.aload 0, .invokeinterface 10 0, .ifCond .ne 52, .iload 2, .iload 1, .if_icmp .ge 52, .aload 0, .invokeinterface 10 48, .sipush (1), .if_icmp .ne 52, .aload 0, .invokevirtual 159, .iinc 2 (1), .goto 22]),
  (52, [.iload 2, .ireturn])]
def hq158_0 : List (List (List Nat)) := [[[], [], [], [], [], [], []],
  [[], []],
  [[], []],
  [[958], [], [], []],
  [[], [958], [], [], [], [], [], [1006], [], [], [], [1324, 1326, 74, 87, 1327], [], []],
  [[], []]]
set_option maxRecDepth 100000 in
theorem cq158_0 : mm_chkM 158 bq158_0 hq158_0 = true := by decide +kernel
