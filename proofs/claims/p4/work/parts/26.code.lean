-- LispForgeModel.listed (I)V
def bq131_0 : List (Nat × List Instr) := [(0, [.aload 0, .iload 1, .invokevirtual 121, .istore 2, .aload 0, .iload 1, .invokevirtual 120, .istore 3, .aload 0, .iload 3, .invokevirtual 132, .istore 4, .iload 2, .ifCond .le 37, .aload 0, .invokeinterface 10 22, .aload 0, .invokeinterface 10 20, .iload 1, .iaload, .iaload, .goto 38]),
  (37, [.sipush (-1), .goto_w 38]),
  (38, [.istore 5, .iload 4, .ifCond .lt 56, .aload 0, .iload 1, .iload 4, .iload 2, .invokevirtual 133, .goto 392])]
def hq131_0 : List (List (List Nat)) := [[[], [], [1176, 1178, 50, 87, 1179], [], [], [], [1172, 1174, 49, 87, 1175], [], [], [], [1218, 1220, 59, 87, 1221], [], [], [], [], [980], [], [978], [], [], [], []],
  [[], []],
  [[], [], [], [], [], [], [], [1222, 1224, 60, 87, 1225], []]]
set_option maxRecDepth 100000 in
theorem cq131_0 : mm_chkM 131 bq131_0 hq131_0 = true := by decide +kernel
def bq131_1 : List (Nat × List Instr) := [(56, [.iload 3, .invokestatic 134, .ifCond .le 105, .iload 2, .sipush (3), .if_icmp .ne 105, .aload 0, .sipush (2), .iload 3, .invokestatic 134, .sipush (0), .invokevirtual 129, .aload 0, .sipush (0), .aload 0, .iload 1, .sipush (2), .invokevirtual 122, .sipush (0), .invokevirtual 129, .aload 0, .sipush (0), .aload 0, .iload 1, .sipush (1), .invokevirtual 122, .sipush (0), .invokevirtual 129, .goto 392])]
def hq131_1 : List (List (List Nat)) := [[[], [1226, 1227, 87, 1228], [], [], [], [], [], [], [], [1226, 1227, 87, 1228], [], [1206, 1208, 56, 87, 1209], [], [], [], [], [], [1180, 1182, 51, 87, 1183], [], [1206, 1208, 56, 87, 1209], [], [], [], [], [], [1180, 1182, 51, 87, 1183], [], [1206, 1208, 56, 87, 1209], []]]
set_option maxRecDepth 100000 in
theorem cq131_1 : mm_chkM 131 bq131_1 hq131_1 = true := by decide +kernel
def bq131_2 : List (Nat × List Instr) := [(105, [.iload 3, .sipush (0), .sipush (105), .sipush (102), .invokestatic 123, .if_icmp .ne 144, .iload 2, .sipush (4), .if_icmp .ne 144, .aload 0, .sipush (3), .iload 1, .sipush (0), .invokevirtual 129, .aload 0, .sipush (0), .aload 0, .iload 1, .sipush (1), .invokevirtual 122, .sipush (0), .invokevirtual 129, .goto 392])]
def hq131_2 : List (List (List Nat)) := [[[], [], [], [], [1184, 1185, 87, 1186], [], [], [], [], [], [], [], [], [1206, 1208, 56, 87, 1209], [], [], [], [], [], [1180, 1182, 51, 87, 1183], [], [1206, 1208, 56, 87, 1209], []]]
set_option maxRecDepth 100000 in
theorem cq131_2 : mm_chkM 131 bq131_2 hq131_2 = true := by decide +kernel
def bq131_3 : List (Nat × List Instr) := [(144, [.iload 3, .sipush (108), .sipush (101), .sipush (116), .invokestatic 123, .if_icmp .ne 198, .iload 2, .sipush (4), .if_icmp .ne 198, .aload 0, .aload 0, .iload 1, .sipush (1), .invokevirtual 122, .invokevirtual 124, .ifCond .eq 198, .aload 0, .sipush (6), .iload 1, .sipush (0), .invokevirtual 129, .aload 0, .sipush (0), .aload 0, .iload 1, .sipush (2), .invokevirtual 122, .sipush (0), .invokevirtual 129, .goto 392])]
def hq131_3 : List (List (List Nat)) := [[[], [], [], [], [1184, 1185, 87, 1186], [], [], [], [], [], [], [], [], [1180, 1182, 51, 87, 1183], [1187, 1189, 52, 87, 1190], [], [], [], [], [], [1206, 1208, 56, 87, 1209], [], [], [], [], [], [1180, 1182, 51, 87, 1183], [], [1206, 1208, 56, 87, 1209], []]]
set_option maxRecDepth 100000 in
theorem cq131_3 : mm_chkM 131 bq131_3 hq131_3 = true := by decide +kernel
def bq131_4 : List (Nat × List Instr) := [(198, [.iload 3, .sipush (0), .sipush (100), .sipush (111), .invokestatic 123, .if_icmp .ne 245, .iload 2, .sipush (1), .if_icmp .le 245, .aload 0, .sipush (8), .aload 0, .invokeinterface 10 22, .iload 5, .iaload, .sipush (0), .invokevirtual 129, .aload 0, .sipush (0), .aload 0, .invokeinterface 10 21, .iload 5, .iaload, .sipush (0), .invokevirtual 129, .goto 392])]
def hq131_4 : List (List (List Nat)) := [[[], [], [], [], [1184, 1185, 87, 1186], [], [], [], [], [], [], [], [980], [], [], [], [1206, 1208, 56, 87, 1209], [], [], [], [979], [], [], [], [1206, 1208, 56, 87, 1209], []]]
set_option maxRecDepth 100000 in
theorem cq131_4 : mm_chkM 131 bq131_4 hq131_4 = true := by decide +kernel
def bq131_5 : List (Nat × List Instr) := [(245, [.iload 3, .sipush (115), .sipush (101), .sipush (116), .invokestatic 123, .if_icmp .ne 304, .iload 2, .sipush (3), .if_icmp .ne 304, .aload 0, .aload 0, .iload 1, .sipush (1), .invokevirtual 122, .invokevirtual 124, .ifCond .eq 304, .aload 0, .sipush (9), .aload 0, .iload 1, .sipush (1), .invokevirtual 122, .sipush (0), .invokevirtual 129, .aload 0, .sipush (0), .aload 0, .iload 1, .sipush (2), .invokevirtual 122, .sipush (0), .invokevirtual 129, .goto 392])]
def hq131_5 : List (List (List Nat)) := [[[], [], [], [], [1184, 1185, 87, 1186], [], [], [], [], [], [], [], [], [1180, 1182, 51, 87, 1183], [1187, 1189, 52, 87, 1190], [], [], [], [], [], [], [1180, 1182, 51, 87, 1183], [], [1206, 1208, 56, 87, 1209], [], [], [], [], [], [1180, 1182, 51, 87, 1183], [], [1206, 1208, 56, 87, 1209], []]]
set_option maxRecDepth 100000 in
theorem cq131_5 : mm_chkM 131 bq131_5 hq131_5 = true := by decide +kernel
def bq131_6 : List (Nat × List Instr) := [(304, [.iload 3, .sipush (114), .sipush (117), .sipush (110), .invokestatic 123, .if_icmp .ne 348, .iload 2, .sipush (3), .if_icmp .ne 348, .aload 0, .sipush (10), .iload 1, .aload 0, .invokeinterface 10 30, .invokevirtual 129, .aload 0, .sipush (0), .aload 0, .iload 1, .sipush (1), .invokevirtual 122, .sipush (0), .invokevirtual 129, .goto 392]),
  (348, [.iload 3, .sipush (255), .iand, .invokestatic 114, .ifCond .eq 387, .iload 3, .invokestatic 125, .ifCond .ne 387, .aload 0, .sipush (12), .iload 3, .iload 2, .sipush (1), .isub, .invokevirtual 129, .aload 0, .sipush (1), .iload 5, .sipush (0), .invokevirtual 129, .goto 392])]
def hq131_6 : List (List (List Nat)) := [[[], [], [], [], [1184, 1185, 87, 1186], [], [], [], [], [], [], [], [], [988], [1206, 1208, 56, 87, 1209], [], [], [], [], [], [1180, 1182, 51, 87, 1183], [], [1206, 1208, 56, 87, 1209], []],
  [[], [], [], [1150, 1151, 87, 1152], [], [], [1191, 1192, 87, 1193], [], [], [], [], [], [], [], [1206, 1208, 56, 87, 1209], [], [], [], [], [1206, 1208, 56, 87, 1209], []]]
set_option maxRecDepth 100000 in
theorem cq131_6 : mm_chkM 131 bq131_6 hq131_6 = true := by decide +kernel
def bq131_7 : List (Nat × List Instr) := [(387, [.aload 0, .sipush (1), .multianewarray 10 28, .goto_w 392]),
  (392, [.return_])]
def hq131_7 : List (List (List Nat)) := [[[], [], [986], []],
  [[]]]
set_option maxRecDepth 100000 in
theorem cq131_7 : mm_chkM 131 bq131_7 hq131_7 = true := by decide +kernel
-- LispForgeModel.macro (I)I
def bq132_0 : List (Nat × List Instr) := [(0, [.aload 0, .invokeinterface 10 2, .sipush (1), .isub, .istore 2, .goto_w 7]),
  (7, [.iload 2, .ifCond .lt 37, .aload 0, .invokeinterface 10 6, .iload 2, .iaload, .sipush (2), .if_icmp .ne 31, .aload 0, .invokeinterface 10 7, .iload 2, .iaload, .iload 1, .if_icmp .eq 37, .goto_w 31]),
  (31, [.iinc 2 (-1), .goto 7]),
  (37, [.iload 1, .ifCond .ne 45, .sipush (-1), .goto 46]),
  (45, [.iload 2, .goto_w 46]),
  (46, [.ireturn])]
def hq132_0 : List (List (List Nat)) := [[[], [960], [], [], [], []],
  [[], [], [], [964], [], [], [], [], [], [965], [], [], [], [], []],
  [[], []],
  [[], [], [], []],
  [[], []],
  [[]]]
set_option maxRecDepth 100000 in
theorem cq132_0 : mm_chkM 132 bq132_0 hq132_0 = true := by decide +kernel
-- LispForgeModel.replace (III)V
def bq133_0 : List (Nat × List Instr) := [(0, [.aload 0, .dup, .invokeinterface 10 33, .sipush (1), .iadd, .multianewarray 10 33, .aload 0, .invokeinterface 10 33, .sipush (12), .if_icmp .gt 31, .iload 3, .aload 0, .invokeinterface 10 8, .iload 2, .iaload, .sipush (1), .iadd, .if_icmp .eq 37, .goto_w 31]),
  (31, [.aload 0, .sipush (1), .multianewarray 10 28, .return_]),
  (37, [.aload 0, .sipush (0), .aload 0, .iload 2, .sipush (0), .aload 0, .invokeinterface 10 22, .aload 0, .invokeinterface 10 20, .iload 1, .iaload, .iaload, .invokevirtual 111, .sipush (0), .invokevirtual 129, .return_])]
def hq133_0 : List (List (List Nat)) := [[[], [], [991], [], [], [991], [], [991], [], [], [], [], [966], [], [], [], [], [], []],
  [[], [], [986], []],
  [[], [], [], [], [], [], [980], [], [978], [], [], [], [1139, 1141, 43, 87, 1142], [], [1206, 1208, 56, 87, 1209], []]]
set_option maxRecDepth 100000 in
theorem cq133_0 : mm_chkM 133 bq133_0 hq133_0 = true := by decide +kernel
-- LispForgeModel.sign (I)I
def bq134_0 : List (Nat × List Instr) := [(0, [.iload 0, .sipush (43), .if_icmp .ne 10, .sipush (2), .goto 52]),
  (10, [.iload 0, .sipush (45), .if_icmp .ne 20, .sipush (3), .goto 52]),
  (20, [.iload 0, .sipush (42), .if_icmp .ne 30, .sipush (4), .goto 52]),
  (30, [.iload 0, .sipush (60), .if_icmp .ne 40, .sipush (5), .goto 52]),
  (40, [.iload 0, .sipush (61), .if_icmp .ne 51, .sipush (6), .goto 52]),
  (51, [.sipush (0), .goto_w 52]),
  (52, [.ireturn])]
def hq134_0 : List (List (List Nat)) := [[[], [], [], [], []],
  [[], [], [], [], []],
  [[], [], [], [], []],
  [[], [], [], [], []],
  [[], [], [], [], []],
  [[], []],
  [[]]]
set_option maxRecDepth 100000 in
theorem cq134_0 : mm_chkM 134 bq134_0 hq134_0 = true := by decide +kernel
-- LispForgeModel.atom (I)V
def bq135_0 : List (Nat × List Instr) := [(0, [.aload 0, .invokeinterface 10 19, .iload 1, .iaload, .ifCond .ne 27, .aload 0, .sipush (0), .invokevirtual 136, .aload 0, .aload 0, .invokeinterface 10 20, .iload 1, .iaload, .invokevirtual 137, .goto 43]),
  (27, [.aload 0, .iload 1, .invokevirtual 138, .istore 2, .aload 0, .sipush (1), .invokevirtual 136, .aload 0, .iload 2, .invokevirtual 136, .goto_w 43]),
  (43, [.aload 0, .dup, .invokeinterface 10 31, .sipush (1), .iadd, .multianewarray 10 31, .return_])]
def hq135_0 : List (List (List Nat)) := [[[], [977], [], [], [], [], [], [1233, 1235, 62, 87, 1236], [], [], [978], [], [], [1237, 1239, 63, 87, 1240], []],
  [[], [], [1241, 1243, 64, 87, 1244], [], [], [], [1233, 1235, 62, 87, 1236], [], [], [1233, 1235, 62, 87, 1236], []],
  [[], [], [989], [], [], [989], []]]
set_option maxRecDepth 100000 in
theorem cq135_0 : mm_chkM 135 bq135_0 hq135_0 = true := by decide +kernel
-- LispForgeModel.emit (I)V
def bq136_0 : List (Nat × List Instr) := [(0, [.aload 0, .invokeinterface 10 30, .sipush (260), .if_icmp .ge 31, .aload 0, .invokeinterface 10 38, .aload 0, .invokeinterface 10 30, .iload 1, .i2b, .bastore, .aload 0, .dup, .invokeinterface 10 30, .sipush (1), .iadd, .multianewarray 10 30, .goto_w 31]),
  (31, [.aload 0, .aload 0, .invokeinterface 10 28, .ifCond .ne 49, .aload 0, .invokeinterface 10 30, .sipush (200), .if_icmp .le 53, .goto_w 49]),
  (49, [.sipush (1), .goto 54]),
  (53, [.sipush (0), .goto_w 54]),
  (54, [.multianewarray 10 28, .return_])]
def hq136_0 : List (List (List Nat)) := [[[], [988], [], [], [], [996], [], [988], [], [], [], [], [], [988], [], [], [988], []],
  [[], [], [986], [], [], [988], [], [], []],
  [[], []],
  [[], []],
  [[986], []]]
set_option maxRecDepth 100000 in
theorem cq136_0 : mm_chkM 136 bq136_0 hq136_0 = true := by decide +kernel
-- LispForgeModel.emitPlace (I)V
def bq137_0 : List (Nat × List Instr) := [(0, [.aload 0, .iload 1, .sipush (8), .ishr, .invokevirtual 136, .aload 0, .iload 1, .invokevirtual 136, .return_])]
def hq137_0 : List (List (List Nat)) := [[[], [], [], [], [1233, 1235, 62, 87, 1236], [], [], [1233, 1235, 62, 87, 1236], []]]
set_option maxRecDepth 100000 in
theorem cq137_0 : mm_chkM 137 bq137_0 hq137_0 = true := by decide +kernel
-- LispForgeModel.slotOf (I)I
def bq138_0 : List (Nat × List Instr) := [(0, [.aload 0, .invokeinterface 10 32, .sipush (1), .isub, .istore 2, .goto_w 7]),
  (7, [.iload 2, .ifCond .lt 42, .aload 0, .invokeinterface 10 19, .iload 1, .iaload, .sipush (1), .if_icmp .ne 36, .aload 0, .invokeinterface 10 39, .iload 2, .iaload, .aload 0, .invokeinterface 10 20, .iload 1, .iaload, .if_icmp .eq 42, .goto_w 36]),
  (36, [.iinc 2 (-1), .goto 7]),
  (42, [.aload 0, .aload 0, .invokeinterface 10 28, .ifCond .ne 54, .iload 2, .ifCond .ge 58, .goto_w 54]),
  (54, [.sipush (1), .goto 59]),
  (58, [.sipush (0), .goto_w 59]),
  (59, [.multianewarray 10 28, .iload 2, .ifCond .ge 70, .sipush (0), .goto 76])]
def hq138_0 : List (List (List Nat)) := [[[], [990], [], [], [], []],
  [[], [], [], [977], [], [], [], [], [], [997], [], [], [], [978], [], [], [], []],
  [[], []],
  [[], [], [986], [], [], [], []],
  [[], []],
  [[], []],
  [[986], [], [], [], []]]
set_option maxRecDepth 100000 in
theorem cq138_0 : mm_chkM 138 bq138_0 hq138_0 = true := by decide +kernel
def bq138_1 : List (Nat × List Instr) := [(70, [.aload 0, .invokeinterface 10 40, .iload 2, .iaload, .goto_w 76]),
  (76, [.ireturn])]
def hq138_1 : List (List (List Nat)) := [[[], [998], [], [], []],
  [[]]]
set_option maxRecDepth 100000 in
theorem cq138_1 : mm_chkM 138 bq138_1 hq138_1 = true := by decide +kernel
