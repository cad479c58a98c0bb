-- LispForgeModel.listed (I)V
def bq132 : List (Nat × List Instr) := [(0, [.aload 0, .iload 1, .invokevirtual 122, .istore 2, .aload 0, .iload 1, .invokevirtual 121, .istore 3, .aload 0, .iload 3, .invokevirtual 133, .istore 4, .iload 2, .ifCond .le 37, .aload 0, .invokeinterface 10 22, .aload 0, .invokeinterface 10 20, .iload 1, .iaload, .iaload, .goto 38]),
  (37, [.sipush (-1), .goto_w 38]),
  (38, [.istore 5, .iload 4, .ifCond .lt 56, .aload 0, .iload 1, .iload 4, .iload 2, .invokevirtual 134, .goto 392]),
  (56, [.iload 3, .invokestatic 135, .ifCond .le 105, .iload 2, .sipush (3), .if_icmp .ne 105, .aload 0, .sipush (2), .iload 3, .invokestatic 135, .sipush (0), .invokevirtual 130, .aload 0, .sipush (0), .aload 0, .iload 1, .sipush (2), .invokevirtual 123, .sipush (0), .invokevirtual 130, .aload 0, .sipush (0), .aload 0, .iload 1, .sipush (1), .invokevirtual 123, .sipush (0), .invokevirtual 130, .goto 392]),
  (105, [.iload 3, .sipush (0), .sipush (105), .sipush (102), .invokestatic 124, .if_icmp .ne 144, .iload 2, .sipush (4), .if_icmp .ne 144, .aload 0, .sipush (3), .iload 1, .sipush (0), .invokevirtual 130, .aload 0, .sipush (0), .aload 0, .iload 1, .sipush (1), .invokevirtual 123, .sipush (0), .invokevirtual 130, .goto 392]),
  (144, [.iload 3, .sipush (108), .sipush (101), .sipush (116), .invokestatic 124, .if_icmp .ne 198, .iload 2, .sipush (4), .if_icmp .ne 198, .aload 0, .aload 0, .iload 1, .sipush (1), .invokevirtual 123, .invokevirtual 125, .ifCond .eq 198, .aload 0, .sipush (6), .iload 1, .sipush (0), .invokevirtual 130, .aload 0, .sipush (0), .aload 0, .iload 1, .sipush (2), .invokevirtual 123, .sipush (0), .invokevirtual 130, .goto 392]),
  (198, [.iload 3, .sipush (0), .sipush (100), .sipush (111), .invokestatic 124, .if_icmp .ne 245, .iload 2, .sipush (1), .if_icmp .le 245, .aload 0, .sipush (8), .aload 0, .invokeinterface 10 22, .iload 5, .iaload, .sipush (0), .invokevirtual 130, .aload 0, .sipush (0), .aload 0, .invokeinterface 10 21, .iload 5, .iaload, .sipush (0), .invokevirtual 130, .goto 392]),
  (245, [.iload 3, .sipush (115), .sipush (101), .sipush (116), .invokestatic 124, .if_icmp .ne 304, .iload 2, .sipush (3), .if_icmp .ne 304, .aload 0, .aload 0, .iload 1, .sipush (1), .invokevirtual 123, .invokevirtual 125, .ifCond .eq 304, .aload 0, .sipush (9), .aload 0, .iload 1, .sipush (1), .invokevirtual 123, .sipush (0), .invokevirtual 130, .aload 0, .sipush (0), .aload 0, .iload 1, .sipush (2), .invokevirtual 123, .sipush (0), .invokevirtual 130, .goto 392]),
  (304, [.iload 3, .sipush (114), .sipush (117), .sipush (110), .invokestatic 124, .if_icmp .ne 348, .iload 2, .sipush (3), .if_icmp .ne 348, .aload 0, .sipush (10), .iload 1, .aload 0, .invokeinterface 10 30, .invokevirtual 130, .aload 0, .sipush (0), .aload 0, .iload 1, .sipush (1), .invokevirtual 123, .sipush (0), .invokevirtual 130, .goto 392]),
  (348, [.iload 3, .sipush (255), .iand, .invokestatic 115, .ifCond .eq 387, .iload 3, .invokestatic 126, .ifCond .ne 387, .aload 0, .sipush (12), .iload 3, .iload 2, .sipush (1), .isub, .invokevirtual 130, .aload 0, .sipush (1), .iload 5, .sipush (0), .invokevirtual 130, .goto 392]),
  (387, [.aload 0, .sipush (1), .multianewarray 10 28, .goto_w 392]),
  (392, [.return_])]
def hq132 : List (List (List Nat)) := [[[], [], [1180, 1182, 50, 87, 1183], [], [], [], [1176, 1178, 49, 87, 1179], [], [], [], [1222, 1224, 59, 87, 1225], [], [], [], [], [980], [], [978], [], [], [], []],
  [[], []],
  [[], [], [], [], [], [], [], [1226, 1228, 60, 87, 1229], []],
  [[], [1230, 1231, 87, 1232], [], [], [], [], [], [], [], [1230, 1231, 87, 1232], [], [1210, 1212, 56, 87, 1213], [], [], [], [], [], [1184, 1186, 51, 87, 1187], [], [1210, 1212, 56, 87, 1213], [], [], [], [], [], [1184, 1186, 51, 87, 1187], [], [1210, 1212, 56, 87, 1213], []],
  [[], [], [], [], [1188, 1189, 87, 1190], [], [], [], [], [], [], [], [], [1210, 1212, 56, 87, 1213], [], [], [], [], [], [1184, 1186, 51, 87, 1187], [], [1210, 1212, 56, 87, 1213], []],
  [[], [], [], [], [1188, 1189, 87, 1190], [], [], [], [], [], [], [], [], [1184, 1186, 51, 87, 1187], [1191, 1193, 52, 87, 1194], [], [], [], [], [], [1210, 1212, 56, 87, 1213], [], [], [], [], [], [1184, 1186, 51, 87, 1187], [], [1210, 1212, 56, 87, 1213], []],
  [[], [], [], [], [1188, 1189, 87, 1190], [], [], [], [], [], [], [], [980], [], [], [], [1210, 1212, 56, 87, 1213], [], [], [], [979], [], [], [], [1210, 1212, 56, 87, 1213], []],
  [[], [], [], [], [1188, 1189, 87, 1190], [], [], [], [], [], [], [], [], [1184, 1186, 51, 87, 1187], [1191, 1193, 52, 87, 1194], [], [], [], [], [], [], [1184, 1186, 51, 87, 1187], [], [1210, 1212, 56, 87, 1213], [], [], [], [], [], [1184, 1186, 51, 87, 1187], [], [1210, 1212, 56, 87, 1213], []],
  [[], [], [], [], [1188, 1189, 87, 1190], [], [], [], [], [], [], [], [], [988], [1210, 1212, 56, 87, 1213], [], [], [], [], [], [1184, 1186, 51, 87, 1187], [], [1210, 1212, 56, 87, 1213], []],
  [[], [], [], [1154, 1155, 87, 1156], [], [], [1195, 1196, 87, 1197], [], [], [], [], [], [], [], [1210, 1212, 56, 87, 1213], [], [], [], [], [1210, 1212, 56, 87, 1213], []],
  [[], [], [986], []],
  [[]]]
set_option maxRecDepth 100000 in
theorem cq132 : mm_chkM 132 bq132 hq132 = true := by decide +kernel
-- LispForgeModel.macro (I)I
def bq133 : List (Nat × List Instr) := [(0, [.aload 0, .invokeinterface 10 2, .sipush (1), .isub, .istore 2, .goto_w 7]),
  (7, [.iload 2, .ifCond .lt 37, .aload 0, .invokeinterface 10 6, .iload 2, .iaload, .sipush (2), .if_icmp .ne 31, .aload 0, .invokeinterface 10 7, .iload 2, .iaload, .iload 1, .if_icmp .eq 37, .goto_w 31]),
  (31, [.iinc 2 (-1), .goto 7]),
  (37, [.iload 1, .ifCond .ne 45, .sipush (-1), .goto 46]),
  (45, [.iload 2, .goto_w 46]),
  (46, [.ireturn])]
def hq133 : List (List (List Nat)) := [[[], [960], [], [], [], []],
  [[], [], [], [964], [], [], [], [], [], [965], [], [], [], [], []],
  [[], []],
  [[], [], [], []],
  [[], []],
  [[]]]
set_option maxRecDepth 100000 in
theorem cq133 : mm_chkM 133 bq133 hq133 = true := by decide +kernel
-- LispForgeModel.replace (III)V
def bq134 : List (Nat × List Instr) := [(0, [.aload 0, .dup, .invokeinterface 10 33, .sipush (1), .iadd, .multianewarray 10 33, .aload 0, .invokeinterface 10 33, .sipush (12), .if_icmp .gt 31, .iload 3, .aload 0, .invokeinterface 10 8, .iload 2, .iaload, .sipush (1), .iadd, .if_icmp .eq 37, .goto_w 31]),
  (31, [.aload 0, .sipush (1), .multianewarray 10 28, .return_]),
  (37, [.aload 0, .sipush (0), .aload 0, .iload 2, .sipush (0), .aload 0, .invokeinterface 10 22, .aload 0, .invokeinterface 10 20, .iload 1, .iaload, .iaload, .invokevirtual 112, .sipush (0), .invokevirtual 130, .return_])]
def hq134 : List (List (List Nat)) := [[[], [], [991], [], [], [991], [], [991], [], [], [], [], [966], [], [], [], [], [], []],
  [[], [], [986], []],
  [[], [], [], [], [], [], [980], [], [978], [], [], [], [1143, 1145, 43, 87, 1146], [], [1210, 1212, 56, 87, 1213], []]]
set_option maxRecDepth 100000 in
theorem cq134 : mm_chkM 134 bq134 hq134 = true := by decide +kernel
-- LispForgeModel.sign (I)I
def bq135 : List (Nat × List Instr) := [(0, [.iload 0, .sipush (43), .if_icmp .ne 10, .sipush (2), .goto 52]),
  (10, [.iload 0, .sipush (45), .if_icmp .ne 20, .sipush (3), .goto 52]),
  (20, [.iload 0, .sipush (42), .if_icmp .ne 30, .sipush (4), .goto 52]),
  (30, [.iload 0, .sipush (60), .if_icmp .ne 40, .sipush (5), .goto 52]),
  (40, [.iload 0, .sipush (61), .if_icmp .ne 51, .sipush (6), .goto 52]),
  (51, [.sipush (0), .goto_w 52]),
  (52, [.ireturn])]
def hq135 : List (List (List Nat)) := [[[], [], [], [], []],
  [[], [], [], [], []],
  [[], [], [], [], []],
  [[], [], [], [], []],
  [[], [], [], [], []],
  [[], []],
  [[]]]
set_option maxRecDepth 100000 in
theorem cq135 : mm_chkM 135 bq135 hq135 = true := by decide +kernel
-- LispForgeModel.atom (I)V
def bq136 : List (Nat × List Instr) := [(0, [.aload 0, .invokeinterface 10 19, .iload 1, .iaload, .ifCond .ne 27, .aload 0, .sipush (0), .invokevirtual 137, .aload 0, .aload 0, .invokeinterface 10 20, .iload 1, .iaload, .invokevirtual 138, .goto 43]),
  (27, [.aload 0, .iload 1, .invokevirtual 139, .istore 2, .aload 0, .sipush (1), .invokevirtual 137, .aload 0, .iload 2, .invokevirtual 137, .goto_w 43]),
  (43, [.aload 0, .dup, .invokeinterface 10 31, .sipush (1), .iadd, .multianewarray 10 31, .return_])]
def hq136 : List (List (List Nat)) := [[[], [977], [], [], [], [], [], [1237, 1239, 62, 87, 1240], [], [], [978], [], [], [1241, 1243, 63, 87, 1244], []],
  [[], [], [1245, 1247, 64, 87, 1248], [], [], [], [1237, 1239, 62, 87, 1240], [], [], [1237, 1239, 62, 87, 1240], []],
  [[], [], [989], [], [], [989], []]]
set_option maxRecDepth 100000 in
theorem cq136 : mm_chkM 136 bq136 hq136 = true := by decide +kernel
-- LispForgeModel.emit (I)V
def bq137 : List (Nat × List Instr) := [(0, [.aload 0, .invokeinterface 10 30, .sipush (260), .if_icmp .ge 31, .aload 0, .invokeinterface 10 38, .aload 0, .invokeinterface 10 30, .iload 1, .i2b, .bastore, .aload 0, .dup, .invokeinterface 10 30, .sipush (1), .iadd, .multianewarray 10 30, .goto_w 31]),
  (31, [.aload 0, .aload 0, .invokeinterface 10 28, .ifCond .ne 49, .aload 0, .invokeinterface 10 30, .sipush (200), .if_icmp .le 53, .goto_w 49]),
  (49, [.sipush (1), .goto 54]),
  (53, [.sipush (0), .goto_w 54]),
  (54, [.multianewarray 10 28, .return_])]
def hq137 : List (List (List Nat)) := [[[], [988], [], [], [], [996], [], [988], [], [], [], [], [], [988], [], [], [988], []],
  [[], [], [986], [], [], [988], [], [], []],
  [[], []],
  [[], []],
  [[986], []]]
set_option maxRecDepth 100000 in
theorem cq137 : mm_chkM 137 bq137 hq137 = true := by decide +kernel
-- LispForgeModel.emitPlace (I)V
def bq138 : List (Nat × List Instr) := [(0, [.aload 0, .iload 1, .sipush (8), .ishr, .invokevirtual 137, .aload 0, .iload 1, .invokevirtual 137, .return_])]
def hq138 : List (List (List Nat)) := [[[], [], [], [], [1237, 1239, 62, 87, 1240], [], [], [1237, 1239, 62, 87, 1240], []]]
set_option maxRecDepth 100000 in
theorem cq138 : mm_chkM 138 bq138 hq138 = true := by decide +kernel
-- LispForgeModel.slotOf (I)I
def bq139 : List (Nat × List Instr) := [(0, [.aload 0, .invokeinterface 10 32, .sipush (1), .isub, .istore 2, .goto_w 7]),
  (7, [.iload 2, .ifCond .lt 42, .aload 0, .invokeinterface 10 19, .iload 1, .iaload, .sipush (1), .if_icmp .ne 36, .aload 0, .invokeinterface 10 39, .iload 2, .iaload, .aload 0, .invokeinterface 10 20, .iload 1, .iaload, .if_icmp .eq 42, .goto_w 36]),
  (36, [.iinc 2 (-1), .goto 7]),
  (42, [.aload 0, .aload 0, .invokeinterface 10 28, .ifCond .ne 54, .iload 2, .ifCond .ge 58, .goto_w 54]),
  (54, [.sipush (1), .goto 59]),
  (58, [.sipush (0), .goto_w 59]),
  (59, [.multianewarray 10 28, .iload 2, .ifCond .ge 70, .sipush (0), .goto 76]),
  (70, [.aload 0, .invokeinterface 10 40, .iload 2, .iaload, .goto_w 76]),
  (76, [.ireturn])]
def hq139 : List (List (List Nat)) := [[[], [990], [], [], [], []],
  [[], [], [], [977], [], [], [], [], [], [997], [], [], [], [978], [], [], [], []],
  [[], []],
  [[], [], [986], [], [], [], []],
  [[], []],
  [[], []],
  [[986], [], [], [], []],
  [[], [998], [], [], []],
  [[]]]
set_option maxRecDepth 100000 in
theorem cq139 : mm_chkM 139 bq139 hq139 = true := by decide +kernel
-- LispForgeModel.aim (I)V
def bq140 : List (Nat × List Instr) := [(0, [.aload 0, .invokeinterface 10 38, .iload 1, .aload 0, .invokeinterface 10 30, .sipush (8), .ishr, .i2b, .bastore, .aload 0, .invokeinterface 10 38, .iload 1, .sipush (1), .iadd, .aload 0, .invokeinterface 10 30, .i2b, .bastore, .return_])]
def hq140 : List (List (List Nat)) := [[[], [996], [], [], [988], [], [], [], [], [], [996], [], [], [], [], [988], [], [], []]]
set_option maxRecDepth 100000 in
theorem cq140 : mm_chkM 140 bq140 hq140 = true := by decide +kernel
-- LispForgeModel.fourth ()I
def bq141 : List (Nat × List Instr) := [(0, [.sipush (0), .istore 1, .sipush (0), .istore 2, .sipush (0), .istore 3, .sipush (0), .istore 4, .goto_w 9]),
  (9, [.iload 4, .aload 0, .invokeinterface 10 1, .if_icmp .ge 152, .aload 0, .invokeinterface 10 5, .iload 4, .caload, .istore 5, .iload 5, .sipush (32), .if_icmp .eq 52, .iload 5, .sipush (40), .if_icmp .eq 52, .iload 5, .sipush (41), .if_icmp .eq 52, .sipush (1), .goto 53]),
  (52, [.sipush (0), .goto_w 53]),
  (53, [.istore 6, .iload 2, .sipush (1), .if_icmp .ne 80, .iload 5, .sipush (40), .if_icmp .eq 76, .iload 6, .ifCond .eq 80, .iload 3, .ifCond .ne 80, .goto_w 76]),
  (76, [.sipush (1), .goto 81]),
  (80, [.sipush (0), .goto_w 81]),
  (81, [.istore 7, .iload 6, .ifCond .eq 97, .iload 2, .sipush (1), .if_icmp .ne 97, .sipush (1), .goto 98]),
  (97, [.sipush (0), .goto_w 98]),
  (98, [.istore 3, .iload 7, .ifCond .eq 110, .iload 1, .sipush (1), .iadd, .goto 111]),
  (110, [.iload 1, .goto_w 111]),
  (111, [.istore 1, .iload 1, .sipush (4), .if_icmp .ne 120, .iload 4, .ireturn]),
  (120, [.iload 2, .iload 5, .sipush (40), .if_icmp .ne 132, .sipush (1), .goto 144]),
  (132, [.iload 5, .sipush (41), .if_icmp .ne 143, .sipush (-1), .goto 144]),
  (143, [.sipush (0), .goto_w 144]),
  (144, [.iadd, .istore 2, .iinc 4 (1), .goto 9]),
  (152, [.sipush (0), .ireturn])]
def hq141 : List (List (List Nat)) := [[[], [], [], [], [], [], [], [], []],
  [[], [], [959], [], [], [963], [], [], [], [], [], [], [], [], [], [], [], [], [], []],
  [[], []],
  [[], [], [], [], [], [], [], [], [], [], [], []],
  [[], []],
  [[], []],
  [[], [], [], [], [], [], [], []],
  [[], []],
  [[], [], [], [], [], [], []],
  [[], []],
  [[], [], [], [], [], []],
  [[], [], [], [], [], []],
  [[], [], [], [], []],
  [[], []],
  [[], [], [], []],
  [[], []]]
set_option maxRecDepth 100000 in
theorem cq141 : mm_chkM 141 bq141 hq141 = true := by decide +kernel
-- LispForgeModel.keep (IIII)I
def bq142 : List (Nat × List Instr) := [(0, [.aload 0, .invokeinterface 10 2, .istore 5, .aload 0, .invokeinterface 10 6, .iload 5, .iload 1, .iastore, .aload 0, .invokeinterface 10 7, .iload 5, .iload 2, .iastore, .aload 0, .invokeinterface 10 8, .iload 5, .iload 3, .iastore, .aload 0, .invokeinterface 10 9, .iload 5, .iload 1, .sipush (2), .if_icmp .ne 45, .sipush (0), .goto 49]),
  (45, [.aload 0, .invokeinterface 10 30, .goto_w 49]),
  (49, [.iastore, .aload 0, .invokeinterface 10 11, .iload 5, .iload 1, .sipush (2), .if_icmp .ne 65, .sipush (0), .goto 69]),
  (65, [.aload 0, .invokeinterface 10 34, .goto_w 69]),
  (69, [.iastore, .sipush (0), .istore 6, .goto_w 73]),
  (73, [.iload 6, .aload 0, .invokeinterface 10 9, .iload 5, .iaload, .if_icmp .ge 112, .aload 0, .invokeinterface 10 10, .sipush (200), .iload 5, .imul, .iload 6, .iadd, .aload 0, .invokeinterface 10 38, .iload 6, .baload, .bastore, .iinc 6 (1), .goto 73]),
  (112, [.sipush (0), .istore 6, .goto_w 115]),
  (115, [.iload 6, .aload 0, .invokeinterface 10 11, .iload 5, .iaload, .if_icmp .ge 173, .aload 0, .invokeinterface 10 12, .sipush (50), .iload 5, .imul, .iload 6, .iadd, .aload 0, .invokeinterface 10 41, .iload 6, .iaload, .iastore, .aload 0, .invokeinterface 10 13, .sipush (50), .iload 5, .imul, .iload 6, .iadd, .aload 0, .invokeinterface 10 42, .iload 6, .iaload, .iastore, .iinc 6 (1), .goto 115]),
  (173, [.sipush (0), .istore 6, .goto_w 176]),
  (176, [.iload 6, .iload 3, .if_icmp .ge 212, .iload 1, .sipush (2), .if_icmp .ne 212, .aload 0, .invokeinterface 10 14, .sipush (4), .iload 5, .imul, .iload 6, .iadd, .aload 0, .invokeinterface 10 39, .iload 6, .iaload, .iastore, .iinc 6 (1), .goto 176]),
  (212, [.aload 0, .invokeinterface 10 16, .iload 5, .aload 0, .invokeinterface 10 1, .iload 4, .isub, .iastore, .iload 4, .istore 6, .goto_w 230]),
  (230, [.iload 6, .aload 0, .invokeinterface 10 1, .if_icmp .ge 273, .iload 1, .sipush (2), .if_icmp .ne 273, .aload 0, .invokeinterface 10 15, .sipush (120), .iload 5, .imul, .iload 6, .iadd, .iload 4, .isub, .aload 0, .invokeinterface 10 5, .iload 6, .caload, .castore, .iinc 6 (1), .goto 230]),
  (273, [.aload 0, .dup, .invokeinterface 10 2, .sipush (1), .iadd, .multianewarray 10 2, .iload 5, .ireturn])]
def hq142 : List (List (List Nat)) := [[[], [960], [], [], [964], [], [], [], [], [965], [], [], [], [], [966], [], [], [], [], [967], [], [], [], [], [], []],
  [[], [988], []],
  [[], [], [969], [], [], [], [], [], []],
  [[], [992], []],
  [[], [], [], []],
  [[], [], [967], [], [], [], [], [968], [], [], [], [], [], [], [996], [], [], [], [], []],
  [[], [], []],
  [[], [], [969], [], [], [], [], [970], [], [], [], [], [], [], [999], [], [], [], [], [971], [], [], [], [], [], [], [1000], [], [], [], [], []],
  [[], [], []],
  [[], [], [], [], [], [], [], [972], [], [], [], [], [], [], [997], [], [], [], [], []],
  [[], [974], [], [], [959], [], [], [], [], [], []],
  [[], [], [959], [], [], [], [], [], [973], [], [], [], [], [], [], [], [], [963], [], [], [], [], []],
  [[], [], [960], [], [], [960], [], []]]
set_option maxRecDepth 100000 in
theorem cq142 : mm_chkM 142 bq142 hq142 = true := by decide +kernel
-- LispForgeModel.position ()I
def bq143 : List (Nat × List Instr) := [(0, [.aload 0, .sipush (0), .multianewarray 10 0, .aload 0, .invokeinterface 10 3, .ireturn])]
def hq143 : List (List (List Nat)) := [[[], [], [958], [], [961], []]]
set_option maxRecDepth 100000 in
theorem cq143 : mm_chkM 143 bq143 hq143 = true := by decide +kernel
-- LispForgeModel.object (II)I
def bq144 : List (Nat × List Instr) := [(0, [.aload 0, .sipush (0), .multianewarray 10 0, .iload 1, .ifCond .lt 27, .iload 1, .aload 0, .invokeinterface 10 2, .if_icmp .ge 27, .aload 0, .invokeinterface 10 6, .iload 1, .iaload, .sipush (2), .if_icmp .ne 29, .goto_w 27]),
  (27, [.sipush (-1), .ireturn]),
  (29, [.sipush (1), .aload 0, .invokeinterface 10 7, .iload 1, .iaload, .invokestatic 145, .iadd, .istore 3, .sipush (1), .iload 3, .iadd, .istore 4, .iload 4, .sipush (3), .iadd, .istore 5, .iload 5, .aload 0, .invokeinterface 10 9, .iload 1, .iaload, .iadd, .istore 6, .iload 2, .ifCond .ne 74, .aload 0, .invokeinterface 10 6, .iload 1, .iaload, .ireturn]),
  (74, [.iload 2, .ifCond .le 97, .iload 2, .iload 4, .if_icmp .ge 97, .aload 0, .invokeinterface 10 7, .iload 1, .iaload, .iload 2, .sipush (1), .isub, .invokestatic 146, .ireturn]),
  (97, [.iload 2, .iload 4, .if_icmp .lt 150, .iload 2, .iload 5, .if_icmp .ge 150, .iload 2, .iload 4, .if_icmp .ne 124, .aload 0, .invokeinterface 10 8, .iload 1, .iaload, .goto 149]),
  (124, [.aload 0, .invokeinterface 10 9, .iload 1, .iaload, .iload 2, .iload 4, .sipush (1), .iadd, .if_icmp .ne 143, .sipush (8), .goto 144]),
  (143, [.sipush (0), .goto_w 144]),
  (144, [.ishr, .sipush (255), .iand, .goto_w 149]),
  (149, [.ireturn]),
  (150, [.iload 2, .iload 5, .if_icmp .lt 182, .iload 2, .iload 6, .if_icmp .ge 182, .aload 0, .invokeinterface 10 10, .sipush (200), .iload 1, .imul, .iload 2, .iadd, .iload 5, .isub, .baload, .sipush (255), .iand, .ireturn]),
  (182, [.iload 2, .iload 6, .if_icmp .ne 195, .aload 0, .invokeinterface 10 11, .iload 1, .iaload, .ireturn]),
  (195, [.iload 6, .sipush (1), .iadd, .istore 7, .sipush (0), .istore 8, .goto_w 204]),
  (204, [.iload 8, .aload 0, .invokeinterface 10 11, .iload 1, .iaload, .if_icmp .ge 324, .sipush (50), .iload 1, .imul, .iload 8, .iadd, .istore 9, .sipush (3), .aload 0, .invokeinterface 10 13, .iload 9, .iaload, .invokestatic 145, .iadd, .istore 10, .iload 2, .iload 7, .if_icmp .lt 311, .iload 2, .iload 7, .iload 10, .iadd, .if_icmp .ge 311, .iload 2, .iload 7, .if_icmp .ne 272, .aload 0, .invokeinterface 10 12, .iload 9, .iaload, .sipush (8), .ishr, .goto 310]),
  (272, [.iload 2, .iload 7, .sipush (1), .iadd, .if_icmp .ne 294, .aload 0, .invokeinterface 10 12, .iload 9, .iaload, .sipush (255), .iand, .goto 310]),
  (294, [.aload 0, .invokeinterface 10 13, .iload 9, .iaload, .iload 2, .iload 7, .isub, .sipush (2), .isub, .invokestatic 146, .goto_w 310]),
  (310, [.ireturn]),
  (311, [.iload 7, .iload 10, .iadd, .istore 7, .iinc 8 (1), .goto 204]),
  (324, [.iload 2, .sipush (-1), .if_icmp .ne 334, .iload 7, .goto 335]),
  (334, [.sipush (-1), .goto_w 335]),
  (335, [.ireturn])]
def hq144 : List (List (List Nat)) := [[[], [], [958], [], [], [], [], [960], [], [], [964], [], [], [], [], []],
  [[], []],
  [[], [], [965], [], [], [1269, 1270, 87, 1271], [], [], [], [], [], [], [], [], [], [], [], [], [967], [], [], [], [], [], [], [], [964], [], [], []],
  [[], [], [], [], [], [], [965], [], [], [], [], [], [1274, 1275, 87, 1276], []],
  [[], [], [], [], [], [], [], [], [], [], [966], [], [], []],
  [[], [967], [], [], [], [], [], [], [], [], []],
  [[], []],
  [[], [], [], []],
  [[]],
  [[], [], [], [], [], [], [], [968], [], [], [], [], [], [], [], [], [], [], []],
  [[], [], [], [], [969], [], [], []],
  [[], [], [], [], [], [], []],
  [[], [], [969], [], [], [], [], [], [], [], [], [], [], [], [971], [], [], [1269, 1270, 87, 1271], [], [], [], [], [], [], [], [], [], [], [], [], [], [], [970], [], [], [], [], []],
  [[], [], [], [], [], [], [970], [], [], [], [], []],
  [[], [971], [], [], [], [], [], [], [], [1274, 1275, 87, 1276], []],
  [[]],
  [[], [], [], [], [], []],
  [[], [], [], [], []],
  [[], []],
  [[]]]
set_option maxRecDepth 100000 in
theorem cq144 : mm_chkM 144 bq144 hq144 = true := by decide +kernel
-- LispForgeModel.letters (I)I
def bq145 : List (Nat × List Instr) := [(0, [.iload 0, .ifCond .ne 8, .sipush (0), .goto 42]),
  (8, [.iload 0, .sipush (256), .if_icmp .ge 19, .sipush (1), .goto 42]),
  (19, [.iload 0, .sipush (65536), .if_icmp .ge 30, .sipush (2), .goto 42]),
  (30, [.iload 0, .sipush (16777216), .if_icmp .ge 41, .sipush (3), .goto 42]),
  (41, [.sipush (4), .goto_w 42]),
  (42, [.ireturn])]
def hq145 : List (List (List Nat)) := [[[], [], [], []],
  [[], [], [], [], []],
  [[], [1272], [], [], []],
  [[], [1273], [], [], []],
  [[], []],
  [[]]]
set_option maxRecDepth 100000 in
theorem cq145 : mm_chkM 145 bq145 hq145 = true := by decide +kernel
-- LispForgeModel.nameByte (II)I
def bq146 : List (Nat × List Instr) := [(0, [.iload 0, .invokestatic 145, .istore 2, .iload 1, .ifCond .ne 13, .iload 2, .goto 25]),
  (13, [.iload 0, .sipush (8), .iload 2, .iload 1, .isub, .imul, .ishr, .sipush (255), .iand, .goto_w 25]),
  (25, [.ireturn])]
def hq146 : List (List (List Nat)) := [[[], [1269, 1270, 87, 1271], [], [], [], [], []],
  [[], [], [], [], [], [], [], [], [], []],
  [[]]]
set_option maxRecDepth 100000 in
theorem cq146 : mm_chkM 146 bq146 hq146 = true := by decide +kernel
-- LispForgeModel.clear ()V
def bq147 : List (Nat × List Instr) := [(0, [.aload 0, .sipush (0), .multianewarray 10 0, .aload 0, .sipush (0), .multianewarray 10 2, .return_])]
def hq147 : List (List (List Nat)) := [[[], [], [958], [], [], [960], []]]
set_option maxRecDepth 100000 in
theorem cq147 : mm_chkM 147 bq147 hq147 = true := by decide +kernel
-- LispForgeModel.link ()I
def bq148 : List (Nat × List Instr) := [(0, [.aload 0, .sipush (0), .sipush (0), .invokevirtual 149, .istore 1, .aload 0, .iload 1, .ifCond .ge 16, .sipush (1), .goto 17]),
  (16, [.sipush (0), .goto_w 17]),
  (17, [.multianewarray 10 4, .aload 0, .sipush (0), .multianewarray 10 43, .aload 0, .invokeinterface 10 4, .ifCond .ne 44, .aload 0, .invokeinterface 10 44, .sipush (0), .iload 1, .iastore, .aload 0, .sipush (1), .multianewarray 10 43, .goto_w 44]),
  (44, [.sipush (0), .istore 2, .goto_w 46]),
  (46, [.iload 2, .aload 0, .invokeinterface 10 43, .if_icmp .ge 81, .aload 0, .invokeinterface 10 4, .ifCond .ne 81, .aload 0, .aload 0, .aload 0, .invokeinterface 10 44, .iload 2, .iaload, .invokevirtual 150, .multianewarray 10 4, .iinc 2 (1), .goto 46]),
  (81, [.sipush (0), .istore 2, .sipush (0), .istore 3, .goto_w 85]),
  (85, [.iload 3, .aload 0, .invokeinterface 10 43, .if_icmp .ge 120, .aload 0, .invokeinterface 10 45, .iload 3, .iload 2, .iastore, .iload 2, .aload 0, .invokeinterface 10 9, .aload 0, .invokeinterface 10 44, .iload 3, .iaload, .iaload, .iadd, .istore 2, .iinc 3 (1), .goto 85]),
  (120, [.aload 0, .aload 0, .invokeinterface 10 4, .ifCond .ne 139, .iload 2, .sipush (600), .if_icmp .le 139, .sipush (4), .goto 143]),
  (139, [.aload 0, .invokeinterface 10 4, .goto_w 143]),
  (143, [.multianewarray 10 4, .aload 0, .aload 0, .invokeinterface 10 4, .ifCond .le 158, .sipush (1), .goto 159]),
  (158, [.sipush (0), .goto_w 159]),
  (159, [.multianewarray 10 0, .aload 0, .invokeinterface 10 0, .ifCond .le 171, .sipush (0), .ireturn]),
  (171, [.sipush (0), .istore 3, .goto_w 173]),
  (173, [.iload 3, .aload 0, .invokeinterface 10 43, .if_icmp .ge 203, .aload 0, .aload 0, .invokeinterface 10 44, .iload 3, .iaload, .aload 0, .invokeinterface 10 45, .iload 3, .iaload, .invokevirtual 152, .iinc 3 (1), .goto 173]),
  (203, [.aload 0, .iload 2, .multianewarray 10 46, .aload 0, .invokevirtual 155, .iload 2, .ireturn])]
def hq148 : List (List (List Nat)) := [[[], [], [], [1285, 1287, 68, 87, 1288], [], [], [], [], [], []],
  [[], []],
  [[962], [], [], [1001], [], [962], [], [], [1002], [], [], [], [], [], [1001], []],
  [[], [], []],
  [[], [], [1001], [], [], [962], [], [], [], [], [1002], [], [], [1289, 1291, 69, 87, 1292], [962], [], []],
  [[], [], [], [], []],
  [[], [], [1001], [], [], [1003], [], [], [], [], [], [967], [], [1002], [], [], [], [], [], [], []],
  [[], [], [962], [], [], [], [], [], []],
  [[], [962], []],
  [[962], [], [], [962], [], [], []],
  [[], []],
  [[958], [], [958], [], [], []],
  [[], [], []],
  [[], [], [1001], [], [], [], [1002], [], [], [], [1003], [], [], [1297, 1299, 71, 87, 1300], [], []],
  [[], [], [1004], [], [1308, 1310, 73, 87, 1311], [], []]]
set_option maxRecDepth 100000 in
theorem cq148 : mm_chkM 148 bq148 hq148 = true := by decide +kernel
-- LispForgeModel.latest (II)I
def bq149 : List (Nat × List Instr) := [(0, [.aload 0, .invokeinterface 10 2, .sipush (1), .isub, .istore 3, .goto_w 7]),
  (7, [.iload 3, .ifCond .lt 37, .aload 0, .invokeinterface 10 6, .iload 3, .iaload, .iload 1, .if_icmp .ne 31, .aload 0, .invokeinterface 10 7, .iload 3, .iaload, .iload 2, .if_icmp .eq 37, .goto_w 31]),
  (31, [.iinc 3 (-1), .goto 7]),
  (37, [.iload 3, .ireturn])]
def hq149 : List (List (List Nat)) := [[[], [960], [], [], [], []],
  [[], [], [], [964], [], [], [], [], [], [965], [], [], [], [], []],
  [[], []],
  [[], []]]
set_option maxRecDepth 100000 in
theorem cq149 : mm_chkM 149 bq149 hq149 = true := by decide +kernel
-- LispForgeModel.meet (I)I
def bq150 : List (Nat × List Instr) := [(0, [.sipush (0), .istore 2, .goto_w 2]),
  (2, [.iload 2, .aload 0, .invokeinterface 10 11, .iload 1, .iaload, .if_icmp .ge 108, .aload 0, .sipush (1), .aload 0, .invokeinterface 10 13, .sipush (50), .iload 1, .imul, .iload 2, .iadd, .iaload, .invokevirtual 149, .istore 3, .iload 3, .ifCond .ge 35, .sipush (2), .ireturn]),
  (35, [.aload 0, .invokeinterface 10 10, .sipush (200), .iload 1, .imul, .aload 0, .invokeinterface 10 12, .sipush (50), .iload 1, .imul, .iload 2, .iadd, .iaload, .iadd, .sipush (2), .iadd, .baload, .sipush (255), .iand, .aload 0, .invokeinterface 10 8, .iload 3, .iaload, .if_icmp .eq 74, .sipush (3), .ireturn]),
  (74, [.aload 0, .iload 3, .invokevirtual 151, .ifCond .ge 102, .aload 0, .invokeinterface 10 44, .aload 0, .invokeinterface 10 43, .iload 3, .iastore, .aload 0, .dup, .invokeinterface 10 43, .sipush (1), .iadd, .multianewarray 10 43, .goto_w 102]),
  (102, [.iinc 2 (1), .goto 2]),
  (108, [.sipush (0), .ireturn])]
def hq150 : List (List (List Nat)) := [[[], [], []],
  [[], [], [969], [], [], [], [], [], [], [971], [], [], [], [], [], [], [1285, 1287, 68, 87, 1288], [], [], [], [], []],
  [[], [968], [], [], [], [], [970], [], [], [], [], [], [], [], [], [], [], [], [], [], [966], [], [], [], [], []],
  [[], [], [1293, 1295, 70, 87, 1296], [], [], [1002], [], [1001], [], [], [], [], [1001], [], [], [1001], []],
  [[], []],
  [[], []]]
set_option maxRecDepth 100000 in
theorem cq150 : mm_chkM 150 bq150 hq150 = true := by decide +kernel
-- LispForgeModel.stands (I)I
def bq151 : List (Nat × List Instr) := [(0, [.aload 0, .invokeinterface 10 43, .sipush (1), .isub, .istore 2, .goto_w 7]),
  (7, [.iload 2, .ifCond .lt 27, .aload 0, .invokeinterface 10 44, .iload 2, .iaload, .iload 1, .if_icmp .eq 27, .iinc 2 (-1), .goto 7]),
  (27, [.iload 2, .ireturn])]
def hq151 : List (List (List Nat)) := [[[], [1001], [], [], [], []],
  [[], [], [], [1002], [], [], [], [], [], []],
  [[], []]]
set_option maxRecDepth 100000 in
theorem cq151 : mm_chkM 151 bq151 hq151 = true := by decide +kernel
-- LispForgeModel.copy (II)V
def bq152 : List (Nat × List Instr) := [(0, [.sipush (0), .istore 3, .goto_w 2]),
  (2, [.iload 3, .aload 0, .invokeinterface 10 9, .iload 1, .iaload, .if_icmp .ge 38, .aload 0, .invokeinterface 10 47, .iload 2, .iload 3, .iadd, .aload 0, .invokeinterface 10 10, .sipush (200), .iload 1, .imul, .iload 3, .iadd, .baload, .bastore, .iinc 3 (1), .goto 2]),
  (38, [.sipush (0), .istore 3, .goto_w 40]),
  (40, [.iload 3, .aload 0, .invokeinterface 10 9, .iload 1, .iaload, .if_icmp .ge 150, .aload 0, .invokeinterface 10 10, .sipush (200), .iload 1, .imul, .iload 3, .iadd, .baload, .istore 4, .iload 4, .sipush (7), .if_icmp .eq 78, .iload 4, .sipush (8), .if_icmp .ne 129, .goto_w 78]),
  (78, [.aload 0, .iload 2, .iload 3, .iadd, .sipush (1), .iadd, .iload 2, .aload 0, .invokeinterface 10 10, .sipush (200), .iload 1, .imul, .iload 3, .iadd, .sipush (1), .iadd, .baload, .sipush (255), .iand, .sipush (8), .ishl, .aload 0, .invokeinterface 10 10, .sipush (200), .iload 1, .imul, .iload 3, .iadd, .sipush (2), .iadd, .baload, .sipush (255), .iand, .ior, .iadd, .invokevirtual 153, .goto_w 129]),
  (129, [.iload 3, .aload 0, .invokeinterface 10 10, .sipush (200), .iload 1, .imul, .iload 3, .iadd, .baload, .invokestatic 154, .iadd, .istore 3, .goto 40]),
  (150, [.sipush (0), .istore 3, .goto_w 152]),
  (152, [.iload 3, .aload 0, .invokeinterface 10 11, .iload 1, .iaload, .if_icmp .ge 210, .aload 0, .iload 2, .aload 0, .invokeinterface 10 12, .sipush (50), .iload 1, .imul, .iload 3, .iadd, .iaload, .iadd, .aload 0, .invokeinterface 10 45, .aload 0, .aload 0, .sipush (1), .aload 0, .invokeinterface 10 13, .sipush (50), .iload 1, .imul, .iload 3, .iadd, .iaload, .invokevirtual 149, .invokevirtual 151, .iaload, .invokevirtual 153, .iinc 3 (1), .goto 152]),
  (210, [.return_])]
def hq152 : List (List (List Nat)) := [[[], [], []],
  [[], [], [967], [], [], [], [], [1005], [], [], [], [], [968], [], [], [], [], [], [], [], [], []],
  [[], [], []],
  [[], [], [967], [], [], [], [], [968], [], [], [], [], [], [], [], [], [], [], [], [], [], []],
  [[], [], [], [], [], [], [], [], [968], [], [], [], [], [], [], [], [], [], [], [], [], [], [968], [], [], [], [], [], [], [], [], [], [], [], [], [1301, 1303, 72, 87, 1304], []],
  [[], [], [968], [], [], [], [], [], [], [1305, 1306, 87, 1307], [], [], []],
  [[], [], []],
  [[], [], [969], [], [], [], [], [], [], [970], [], [], [], [], [], [], [], [], [1003], [], [], [], [], [971], [], [], [], [], [], [], [1285, 1287, 68, 87, 1288], [1293, 1295, 70, 87, 1296], [], [1301, 1303, 72, 87, 1304], [], []],
  [[]]]
set_option maxRecDepth 100000 in
theorem cq152 : mm_chkM 152 bq152 hq152 = true := by decide +kernel
-- LispForgeModel.putPlace (II)V
def bq153 : List (Nat × List Instr) := [(0, [.aload 0, .invokeinterface 10 47, .iload 1, .iload 2, .sipush (8), .ishr, .i2b, .bastore, .aload 0, .invokeinterface 10 47, .iload 1, .sipush (1), .iadd, .iload 2, .i2b, .bastore, .return_])]
def hq153 : List (List (List Nat)) := [[[], [1005], [], [], [], [], [], [], [], [1005], [], [], [], [], [], [], []]]
set_option maxRecDepth 100000 in
theorem cq153 : mm_chkM 153 bq153 hq153 = true := by decide +kernel
-- LispForgeModel.wide (I)I
def bq154 : List (Nat × List Instr) := [(0, [.iload 0, .ifCond .eq 16, .iload 0, .sipush (7), .if_icmp .eq 16, .iload 0, .sipush (8), .if_icmp .ne 20, .goto_w 16]),
  (16, [.sipush (3), .goto 52]),
  (20, [.iload 0, .sipush (1), .if_icmp .eq 37, .iload 0, .sipush (11), .if_icmp .eq 37, .iload 0, .sipush (13), .if_icmp .ne 41, .goto_w 37]),
  (37, [.sipush (2), .goto 52]),
  (41, [.iload 0, .sipush (12), .if_icmp .ne 51, .sipush (4), .goto 52]),
  (51, [.sipush (1), .goto_w 52]),
  (52, [.ireturn])]
def hq154 : List (List (List Nat)) := [[[], [], [], [], [], [], [], [], []],
  [[], []],
  [[], [], [], [], [], [], [], [], [], []],
  [[], []],
  [[], [], [], [], []],
  [[], []],
  [[]]]
set_option maxRecDepth 100000 in
theorem cq154 : mm_chkM 154 bq154 hq154 = true := by decide +kernel
-- LispForgeModel.begin ()V
def bq155 : List (Nat × List Instr) := [(0, [.aload 0, .sipush (1), .multianewarray 10 48, .aload 0, .sipush (0), .multianewarray 10 49, .aload 0, .sipush (0), .multianewarray 10 50, .aload 0, .sipush (0), .multianewarray 10 51, .aload 0, .sipush (0), .multianewarray 10 52, .aload 0, .sipush (0), .multianewarray 10 53, .return_])]
def hq155 : List (List (List Nat)) := [[[], [], [1006], [], [], [1007], [], [], [1008], [], [], [1009], [], [], [1010], [], [], [1011], []]]
set_option maxRecDepth 100000 in
theorem cq155 : mm_chkM 155 bq155 hq155 = true := by decide +kernel
-- LispForgeModel.failure ()I
def bq156 : List (Nat × List Instr) := [(0, [.aload 0, .sipush (0), .multianewarray 10 0, .aload 0, .invokeinterface 10 4, .ireturn])]
def hq156 : List (List (List Nat)) := [[[], [], [958], [], [962], []]]
set_option maxRecDepth 100000 in
theorem cq156 : mm_chkM 156 bq156 hq156 = true := by decide +kernel
-- LispForgeModel.image (I)I
def bq157 : List (Nat × List Instr) := [(0, [.aload 0, .sipush (0), .multianewarray 10 0, .iload 1, .sipush (-1), .if_icmp .ne 17, .aload 0, .invokeinterface 10 46, .goto 43]),
  (17, [.iload 1, .ifCond .lt 42, .iload 1, .aload 0, .invokeinterface 10 46, .if_icmp .ge 42, .aload 0, .invokeinterface 10 47, .iload 1, .baload, .sipush (255), .iand, .goto 43]),
  (42, [.sipush (-1), .goto_w 43]),
  (43, [.ireturn])]
def hq157 : List (List (List Nat)) := [[[], [], [958], [], [], [], [], [1004], []],
  [[], [], [], [], [1004], [], [], [1005], [], [], [], [], []],
  [[], []],
  [[]]]
set_option maxRecDepth 100000 in
theorem cq157 : mm_chkM 157 bq157 hq157 = true := by decide +kernel
-- LispForgeModel.restart ()Z
def bq158 : List (Nat × List Instr) := [(0, [.aload 0, .sipush (0), .multianewarray 10 0, .aload 0, .invokeinterface 10 46, .ifCond .ne 14, .sipush (0), .freturn]),
  (14, [.aload 0, .invokevirtual 155, .sipush (1), .freturn])]
def hq158 : List (List (List Nat)) := [[[], [], [958], [], [1004], [], [], []],
  [[], [1308, 1310, 73, 87, 1311], [], []]]
set_option maxRecDepth 100000 in
theorem cq158 : mm_chkM 158 bq158 hq158 = true := by decide +kernel
-- LispForgeModel.run (I)I
def bq159 : List (Nat × List Instr) := [(0, [.aload 0, .iload 1, .ifCond .lt 12, .iload 1, .sipush (500), .if_icmp .le 16, .goto_w 12]),
  (12, [.sipush (1), .goto 17]),
  (16, [.sipush (0), .goto_w 17]),
  (17, [.multianewarray 10 0, .sipush (0), .istore 2, .goto_w 22]),
  (22, [.aload 0, .invokeinterface 10 0, .ifCond .ne 52, .iload 2, .iload 1, .if_icmp .ge 52, .aload 0, .invokeinterface 10 48, .sipush (1), .if_icmp .ne 52, .aload 0, .invokevirtual 160, .iinc 2 (1), .goto 22]),
  (52, [.iload 2, .ireturn])]
def hq159 : List (List (List Nat)) := [[[], [], [], [], [], [], []],
  [[], []],
  [[], []],
  [[958], [], [], []],
  [[], [958], [], [], [], [], [], [1006], [], [], [], [1328, 1330, 74, 87, 1331], [], []],
  [[], []]]
set_option maxRecDepth 100000 in
theorem cq159 : mm_chkM 159 bq159 hq159 = true := by decide +kernel
-- LispForgeModel.step ()V
def bq160 : List (Nat × List Instr) := [(0, [.aload 0, .invokeinterface 10 47, .aload 0, .invokeinterface 10 49, .baload, .istore 1, .iload 1, .sipush (1), .if_icmp .eq 27, .iload 1, .sipush (11), .if_icmp .eq 27, .iload 1, .sipush (13), .if_icmp .ne 45, .goto_w 27]),
  (27, [.aload 0, .invokeinterface 10 47, .aload 0, .invokeinterface 10 49, .sipush (1), .iadd, .baload, .sipush (255), .iand, .goto 46]),
  (45, [.sipush (0), .goto_w 46]),
  (46, [.istore 2, .iload 1, .sipush (2), .if_icmp .ge 61, .aload 0, .invokeinterface 10 51, .sipush (120), .if_icmp .eq 76, .goto_w 61]),
  (61, [.iload 1, .sipush (12), .if_icmp .ne 82, .aload 0, .invokeinterface 10 52, .sipush (24), .if_icmp .ne 82, .goto_w 76]),
  (76, [.aload 0, .sipush (3), .multianewarray 10 48, .return_]),
  (82, [.aload 0, .invokeinterface 10 49, .iload 1, .invokestatic 154, .iadd, .istore 3, .iload 1, .lookupswitch 481 #[(0, 168), (1, 186), (2, 481), (3, 481), (4, 481), (5, 481), (6, 481), (7, 204), (8, 218), (9, 258), (10, 293), (11, 306), (12, 331), (13, 402), (14, 468)]]),
  (168, [.aload 0, .aload 0, .aload 0, .invokeinterface 10 49, .sipush (1), .iadd, .invokevirtual 161, .i2s, .invokevirtual 162, .goto 486]),
  (186, [.aload 0, .aload 0, .invokeinterface 10 54, .aload 0, .invokeinterface 10 50, .iload 2, .iadd, .iaload, .invokevirtual 162, .goto 486]),
  (204, [.aload 0, .aload 0, .invokeinterface 10 49, .sipush (1), .iadd, .invokevirtual 161, .istore 3, .goto 486]),
  (218, [.aload 0, .dup, .invokeinterface 10 51, .sipush (1), .isub, .multianewarray 10 51, .aload 0, .invokeinterface 10 54, .aload 0, .invokeinterface 10 51, .iaload, .ifCond .ne 253, .aload 0, .aload 0, .invokeinterface 10 49, .sipush (1), .iadd, .invokevirtual 161, .goto 254]),
  (253, [.iload 3, .goto_w 254]),
  (254, [.istore 3, .goto 486]),
  (258, [.aload 0, .invokeinterface 10 54, .aload 0, .invokeinterface 10 51, .sipush (2), .isub, .aload 0, .invokeinterface 10 54, .aload 0, .invokeinterface 10 51, .sipush (1), .isub, .iaload, .iastore, .aload 0, .dup, .invokeinterface 10 51, .sipush (1), .isub, .multianewarray 10 51, .goto 486]),
  (293, [.aload 0, .dup, .invokeinterface 10 51, .sipush (1), .isub, .multianewarray 10 51, .goto 486]),
  (306, [.aload 0, .invokeinterface 10 54, .aload 0, .invokeinterface 10 50, .iload 2, .iadd, .aload 0, .invokeinterface 10 54, .aload 0, .invokeinterface 10 51, .sipush (1), .isub, .iaload, .iastore, .goto 486]),
  (331, [.aload 0, .invokeinterface 10 55, .aload 0, .invokeinterface 10 52, .aload 0, .invokeinterface 10 50, .iastore, .aload 0, .invokeinterface 10 56, .aload 0, .invokeinterface 10 52, .iload 3, .iastore, .aload 0, .dup, .invokeinterface 10 52, .sipush (1), .iadd, .multianewarray 10 52, .aload 0, .aload 0, .invokeinterface 10 51, .aload 0, .invokeinterface 10 47, .aload 0, .invokeinterface 10 49, .sipush (3), .iadd, .baload, .sipush (255), .iand, .isub, .multianewarray 10 50, .aload 0, .aload 0, .invokeinterface 10 49, .sipush (1), .iadd, .invokevirtual 161, .istore 3, .goto 486]),
  (402, [.aload 0, .invokeinterface 10 54, .aload 0, .invokeinterface 10 50, .aload 0, .invokeinterface 10 54, .aload 0, .invokeinterface 10 51, .sipush (1), .isub, .iaload, .iastore, .aload 0, .aload 0, .invokeinterface 10 50, .sipush (1), .iadd, .multianewarray 10 51, .aload 0, .dup, .invokeinterface 10 52, .sipush (1), .isub, .multianewarray 10 52, .aload 0, .aload 0, .invokeinterface 10 55, .aload 0, .invokeinterface 10 52, .iaload, .multianewarray 10 50, .aload 0, .invokeinterface 10 56, .aload 0, .invokeinterface 10 52, .iaload, .istore 3, .goto 486]),
  (468, [.aload 0, .sipush (2), .multianewarray 10 48, .aload 0, .invokeinterface 10 49, .istore 3, .goto 486]),
  (481, [.aload 0, .iload 1, .invokevirtual 163, .goto_w 486]),
  (486, [.aload 0, .iload 3, .multianewarray 10 49, .aload 0, .dup, .invokeinterface 10 53, .sipush (1), .iadd, .multianewarray 10 53, .return_])]
def hq160 : List (List (List Nat)) := [[[], [1005], [], [1007], [], [], [], [], [], [], [], [], [], [], [], []],
  [[], [1005], [], [1007], [], [], [], [], [], []],
  [[], []],
  [[], [], [], [], [], [1009], [], [], []],
  [[], [], [], [], [1010], [], [], []],
  [[], [], [1006], []],
  [[], [1007], [], [1305, 1306, 87, 1307], [], [], [], []],
  [[], [], [], [1007], [], [], [1332, 1334, 75, 87, 1335], [], [1336, 1338, 76, 87, 1339], []],
  [[], [], [1012], [], [1008], [], [], [], [1336, 1338, 76, 87, 1339], []],
  [[], [], [1007], [], [], [1332, 1334, 75, 87, 1335], [], []],
  [[], [], [1009], [], [], [1009], [], [1012], [], [1009], [], [], [], [], [1007], [], [], [1332, 1334, 75, 87, 1335], []],
  [[], []],
  [[], []],
  [[], [1012], [], [1009], [], [], [], [1012], [], [1009], [], [], [], [], [], [], [1009], [], [], [1009], []],
  [[], [], [1009], [], [], [1009], []],
  [[], [1012], [], [1008], [], [], [], [1012], [], [1009], [], [], [], [], []],
  [[], [1013], [], [1010], [], [1008], [], [], [1014], [], [1010], [], [], [], [], [1010], [], [], [1010], [], [], [1009], [], [1005], [], [1007], [], [], [], [], [], [], [1008], [], [], [1007], [], [], [1332, 1334, 75, 87, 1335], [], []],
  [[], [1012], [], [1008], [], [1012], [], [1009], [], [], [], [], [], [], [1008], [], [], [1009], [], [], [1010], [], [], [1010], [], [], [1013], [], [1010], [], [1008], [], [1014], [], [1010], [], [], []],
  [[], [], [1006], [], [1007], [], []],
  [[], [], [1340, 1342, 77, 87, 1343], []],
  [[], [], [1007], [], [], [1011], [], [], [1011], []]]
set_option maxRecDepth 100000 in
theorem cq160 : mm_chkM 160 bq160 hq160 = true := by decide +kernel
-- LispForgeModel.placeAt (I)I
def bq161 : List (Nat × List Instr) := [(0, [.aload 0, .invokeinterface 10 47, .iload 1, .baload, .sipush (255), .iand, .sipush (8), .ishl, .aload 0, .invokeinterface 10 47, .iload 1, .sipush (1), .iadd, .baload, .sipush (255), .iand, .ior, .ireturn])]
def hq161 : List (List (List Nat)) := [[[], [1005], [], [], [], [], [], [], [], [1005], [], [], [], [], [], [], [], []]]
set_option maxRecDepth 100000 in
theorem cq161 : mm_chkM 161 bq161 hq161 = true := by decide +kernel
-- LispForgeModel.put (I)V
def bq162 : List (Nat × List Instr) := [(0, [.aload 0, .invokeinterface 10 54, .aload 0, .invokeinterface 10 51, .iload 1, .iastore, .aload 0, .dup, .invokeinterface 10 51, .sipush (1), .iadd, .multianewarray 10 51, .return_])]
def hq162 : List (List (List Nat)) := [[[], [1012], [], [1009], [], [], [], [], [1009], [], [], [1009], []]]
set_option maxRecDepth 100000 in
theorem cq162 : mm_chkM 162 bq162 hq162 = true := by decide +kernel
-- LispForgeModel.work (I)V
def bq163 : List (Nat × List Instr) := [(0, [.aload 0, .invokeinterface 10 54, .aload 0, .invokeinterface 10 51, .sipush (1), .isub, .iaload, .istore 2, .aload 0, .invokeinterface 10 54, .aload 0, .invokeinterface 10 51, .sipush (2), .isub, .iaload, .istore 3, .aload 0, .dup, .invokeinterface 10 51, .sipush (1), .isub, .multianewarray 10 51, .aload 0, .invokeinterface 10 54, .aload 0, .invokeinterface 10 51, .sipush (1), .isub, .iload 1, .sipush (2), .if_icmp .ne 55, .iload 3, .iload 2, .iadd, .goto 100]),
  (55, [.iload 1, .sipush (3), .if_icmp .ne 66, .iload 3, .iload 2, .isub, .goto 100]),
  (66, [.iload 1, .sipush (4), .if_icmp .ne 77, .iload 3, .iload 2, .imul, .goto 100]),
  (77, [.iload 1, .sipush (5), .if_icmp .ne 90, .iload 3, .iload 2, .if_icmp .ge 99, .goto 95]),
  (90, [.iload 3, .iload 2, .if_icmp .ne 99, .goto_w 95]),
  (95, [.sipush (1), .goto 100]),
  (99, [.sipush (0), .goto_w 100]),
  (100, [.iastore, .return_])]
def hq163 : List (List (List Nat)) := [[[], [1012], [], [1009], [], [], [], [], [], [1012], [], [1009], [], [], [], [], [], [], [1009], [], [], [1009], [], [1012], [], [1009], [], [], [], [], [], [], [], [], []],
  [[], [], [], [], [], [], []],
  [[], [], [], [], [], [], []],
  [[], [], [], [], [], [], []],
  [[], [], [], []],
  [[], []],
  [[], []],
  [[], []]]
set_option maxRecDepth 100000 in
theorem cq163 : mm_chkM 163 bq163 hq163 = true := by decide +kernel
-- LispForgeModel.about (I)I
def bq164 : List (Nat × List Instr) := [(0, [.aload 0, .sipush (0), .multianewarray 10 0, .iload 1, .lookupswitch 74 #[(0, 44), (1, 49), (2, 54), (3, 59), (4, 64), (5, 69)]]),
  (44, [.aload 0, .invokeinterface 10 48, .ireturn]),
  (49, [.aload 0, .invokeinterface 10 49, .ireturn]),
  (54, [.aload 0, .invokeinterface 10 50, .ireturn]),
  (59, [.aload 0, .invokeinterface 10 51, .ireturn]),
  (64, [.aload 0, .invokeinterface 10 52, .ireturn]),
  (69, [.aload 0, .invokeinterface 10 53, .ireturn]),
  (74, [.sipush (-1), .ireturn])]
def hq164 : List (List (List Nat)) := [[[], [], [958], [], []],
  [[], [1006], []],
  [[], [1007], []],
  [[], [1008], []],
  [[], [1009], []],
  [[], [1010], []],
  [[], [1011], []],
  [[], []]]
set_option maxRecDepth 100000 in
theorem cq164 : mm_chkM 164 bq164 hq164 = true := by decide +kernel
-- LispForgeModel.stack (I)I
def bq165 : List (Nat × List Instr) := [(0, [.aload 0, .sipush (0), .multianewarray 10 0, .iload 1, .ifCond .lt 26, .iload 1, .aload 0, .invokeinterface 10 51, .if_icmp .ge 26, .aload 0, .invokeinterface 10 54, .iload 1, .iaload, .goto 27]),
  (26, [.sipush (0), .goto_w 27]),
  (27, [.ireturn])]
def hq165 : List (List (List Nat)) := [[[], [], [958], [], [], [], [], [1009], [], [], [1012], [], [], []],
  [[], []],
  [[]]]
set_option maxRecDepth 100000 in
theorem cq165 : mm_chkM 165 bq165 hq165 = true := by decide +kernel
-- LispForgeModel.top ()I
def bq166 : List (Nat × List Instr) := [(0, [.aload 0, .sipush (0), .multianewarray 10 0, .aload 0, .invokeinterface 10 51, .ifCond .le 26, .aload 0, .invokeinterface 10 54, .aload 0, .invokeinterface 10 51, .sipush (1), .isub, .iaload, .goto 27]),
  (26, [.sipush (0), .goto_w 27]),
  (27, [.ireturn])]
def hq166 : List (List (List Nat)) := [[[], [], [958], [], [1009], [], [], [1012], [], [1009], [], [], [], []],
  [[], []],
  [[]]]
set_option maxRecDepth 100000 in
theorem cq166 : mm_chkM 166 bq166 hq166 = true := by decide +kernel
