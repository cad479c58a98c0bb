-- LispForgeModel.compile ()I
def bq110_0 : List (Nat × List Instr) := [(0, [.aload 0, .sipush (0), .multianewarray 10 17, .aload 0, .sipush (0), .multianewarray 10 18, .aload 0, .sipush (0), .multianewarray 10 32, .aload 0, .sipush (0), .multianewarray 10 28, .aload 0, .sipush (-1), .sipush (0), .sipush (-1), .invokevirtual 111, .istore 1, .aload 0, .aload 0, .invokeinterface 10 24, .multianewarray 10 3, .aload 0, .aload 0, .invokeinterface 10 24, .ifCond .lt 48, .sipush (1), .goto 49]),
  (48, [.sipush (0), .goto_w 49])]
def hq110_0 : List (List (List Nat)) := [[[], [], [975], [], [], [976], [], [], [990], [], [], [986], [], [], [], [], [1139, 1141, 43, 87, 1142], [], [], [], [982], [961], [], [], [982], [], [], []],
  [[], []]]
set_option maxRecDepth 100000 in
theorem cq110_0 : mm_chkM 110 bq110_0 hq110_0 = true := by decide +kernel
def bq110_1 : List (Nat × List Instr) := [(49, [.multianewarray 10 0, .sipush (0), .istore 2, .aload 0, .invokeinterface 10 0, .ifCond .ne 339, .aload 0, .iload 1, .invokevirtual 120, .istore 3, .iload 3, .sipush (109), .sipush (97), .sipush (99), .invokestatic 123, .if_icmp .ne 84, .sipush (1), .goto 85]),
  (84, [.sipush (0), .goto_w 85]),
  (85, [.istore 4, .iload 3, .sipush (100), .sipush (101), .sipush (102), .invokestatic 123, .if_icmp .ne 104, .sipush (1), .goto 105]),
  (104, [.sipush (0), .goto_w 105]),
  (105, [.istore 5, .sipush (0), .istore 6, .iload 4, .ifCond .ne 120, .iload 5, .ifCond .eq 191, .goto_w 120])]
def hq110_1 : List (List (List Nat)) := [[[958], [], [], [], [958], [], [], [], [1172, 1174, 49, 87, 1175], [], [], [], [], [], [1184, 1185, 87, 1186], [], [], []],
  [[], []],
  [[], [], [], [], [], [1184, 1185, 87, 1186], [], [], []],
  [[], []],
  [[], [], [], [], [], [], [], []]]
set_option maxRecDepth 100000 in
theorem cq110_1 : mm_chkM 110 bq110_1 hq110_1 = true := by decide +kernel
def bq110_2 : List (Nat × List Instr) := [(120, [.aload 0, .aload 0, .iload 1, .invokevirtual 121, .sipush (4), .if_icmp .ne 160, .aload 0, .aload 0, .iload 1, .sipush (1), .invokevirtual 122, .invokevirtual 124, .ifCond .eq 160, .aload 0, .invokeinterface 10 20, .aload 0, .iload 1, .sipush (1), .invokevirtual 122, .iaload, .invokestatic 125, .ifCond .eq 164, .goto_w 160]),
  (160, [.sipush (1), .goto 165]),
  (164, [.sipush (0), .goto_w 165]),
  (165, [.multianewarray 10 28, .aload 0, .invokeinterface 10 28, .ifCond .eq 179, .sipush (0), .goto 189]),
  (179, [.aload 0, .aload 0, .iload 1, .sipush (2), .invokevirtual 122, .invokevirtual 126, .goto_w 189]),
  (189, [.istore 6, .goto_w 191])]
def hq110_2 : List (List (List Nat)) := [[[], [], [], [1176, 1178, 50, 87, 1179], [], [], [], [], [], [], [1180, 1182, 51, 87, 1183], [1187, 1189, 52, 87, 1190], [], [], [978], [], [], [], [1180, 1182, 51, 87, 1183], [], [1191, 1192, 87, 1193], [], []],
  [[], []],
  [[], []],
  [[986], [], [986], [], [], []],
  [[], [], [], [], [1180, 1182, 51, 87, 1183], [1194, 1196, 53, 87, 1197], []],
  [[], []]]
set_option maxRecDepth 100000 in
theorem cq110_2 : mm_chkM 110 bq110_2 hq110_2 = true := by decide +kernel
def bq110_3 : List (Nat × List Instr) := [(191, [.aload 0, .invokeinterface 10 28, .ifCond .ne 236, .iload 4, .ifCond .ne 236, .aload 0, .iload 5, .ifCond .eq 218, .aload 0, .iload 1, .sipush (3), .invokevirtual 122, .goto 219]),
  (218, [.iload 1, .goto_w 219]),
  (219, [.iload 5, .ifCond .eq 229, .sipush (13), .goto 231]),
  (229, [.sipush (14), .goto_w 231]),
  (231, [.iload 6, .invokevirtual 128, .goto_w 236]),
  (236, [.aload 0, .aload 0, .invokeinterface 10 28, .ifCond .eq 248, .sipush (2), .goto 262]),
  (248, [.aload 0, .invokeinterface 10 2, .sipush (16), .if_icmp .ne 261, .sipush (3), .goto 262]),
  (261, [.sipush (0), .goto_w 262])]
def hq110_3 : List (List (List Nat)) := [[[], [986], [], [], [], [], [], [], [], [], [], [1180, 1182, 51, 87, 1183], []],
  [[], []],
  [[], [], [], []],
  [[], []],
  [[], [1202, 1204, 55, 87, 1205], []],
  [[], [], [986], [], [], []],
  [[], [960], [], [], [], []],
  [[], []]]
set_option maxRecDepth 100000 in
theorem cq110_3 : mm_chkM 110 bq110_3 hq110_3 = true := by decide +kernel
def bq110_4 : List (Nat × List Instr) := [(262, [.multianewarray 10 0, .aload 0, .invokeinterface 10 0, .ifCond .ne 339, .aload 0, .iload 4, .ifCond .eq 282, .sipush (2), .goto 292]),
  (282, [.iload 5, .ifCond .eq 291, .sipush (1), .goto 292]),
  (291, [.sipush (0), .goto_w 292]),
  (292, [.iload 4, .ifCond .ne 302, .iload 5, .ifCond .eq 316, .goto_w 302]),
  (302, [.aload 0, .invokeinterface 10 20, .aload 0, .iload 1, .sipush (1), .invokevirtual 122, .iaload, .goto 317]),
  (316, [.sipush (0), .goto_w 317]),
  (317, [.iload 6, .iload 4, .ifCond .eq 331, .aload 0, .invokevirtual 140, .goto 335]),
  (331, [.aload 0, .invokeinterface 10 1, .goto_w 335]),
  (335, [.invokevirtual 141, .istore 2, .goto_w 339])]
def hq110_4 : List (List (List Nat)) := [[[958], [], [958], [], [], [], [], [], []],
  [[], [], [], []],
  [[], []],
  [[], [], [], [], []],
  [[], [978], [], [], [], [1180, 1182, 51, 87, 1183], [], []],
  [[], []],
  [[], [], [], [], [1249, 1251, 66, 87, 1252], []],
  [[], [959], []],
  [[1253, 1255, 67, 87, 1256], [], []]]
set_option maxRecDepth 100000 in
theorem cq110_4 : mm_chkM 110 bq110_4 hq110_4 = true := by decide +kernel
def bq110_5 : List (Nat × List Instr) := [(339, [.aload 0, .sipush (0), .multianewarray 10 1, .iload 2, .ireturn])]
def hq110_5 : List (List (List Nat)) := [[[], [], [959], [], []]]
set_option maxRecDepth 100000 in
theorem cq110_5 : mm_chkM 110 bq110_5 hq110_5 = true := by decide +kernel
-- LispForgeModel.read (III)I
def bq111_0 : List (Nat × List Instr) := [(0, [.aload 0, .iload 2, .multianewarray 10 23, .aload 0, .sipush (-1), .multianewarray 10 24, .aload 0, .sipush (0), .multianewarray 10 25, .sipush (-1), .istore 4, .sipush (1), .istore 5, .goto_w 21]),
  (21, [.aload 0, .invokeinterface 10 24, .ifCond .ge 384, .iload 4, .ifCond .lt 37, .iload 1, .ifCond .ge 384, .goto_w 37]),
  (37, [.aload 0, .iload 1, .aload 0, .invokeinterface 10 23, .invokevirtual 112, .istore 6, .iload 6, .invokestatic 113, .ifCond .ne 72, .iload 6, .invokestatic 114, .ifCond .ne 72, .iload 6, .invokestatic 115, .ifCond .eq 76, .goto_w 72]),
  (72, [.sipush (1), .goto 77]),
  (76, [.sipush (0), .goto_w 77])]
def hq111_0 : List (List (List Nat)) := [[[], [], [981], [], [], [982], [], [], [983], [], [], [], [], []],
  [[], [982], [], [], [], [], [], []],
  [[], [], [], [981], [1143, 1145, 44, 87, 1146], [], [], [1147, 1148, 87, 1149], [], [], [1150, 1151, 87, 1152], [], [], [1153, 1154, 87, 1155], [], []],
  [[], []],
  [[], []]]
set_option maxRecDepth 100000 in
theorem cq111_0 : mm_chkM 111 bq111_0 hq111_0 = true := by decide +kernel
def bq111_1 : List (Nat × List Instr) := [(77, [.istore 7, .iload 6, .sipush (32), .if_icmp .ne 102, .aload 0, .dup, .invokeinterface 10 23, .sipush (1), .iadd, .multianewarray 10 23, .sipush (1), .istore 5, .goto 381]),
  (102, [.iload 6, .ifCond .ne 115, .iload 4, .ifCond .lt 115, .iload 4, .ireturn])]
def hq111_1 : List (List (List Nat)) := [[[], [], [], [], [], [], [981], [], [], [981], [], [], []],
  [[], [], [], [], [], []]]
set_option maxRecDepth 100000 in
theorem cq111_1 : mm_chkM 111 bq111_1 hq111_1 = true := by decide +kernel
def bq111_2 : List (Nat × List Instr) := [(115, [.iload 6, .sipush (41), .if_icmp .ne 174, .aload 0, .invokeinterface 10 25, .ifCond .le 174, .aload 0, .dup, .invokeinterface 10 23, .sipush (1), .iadd, .multianewarray 10 23, .aload 0, .dup, .invokeinterface 10 25, .sipush (1), .isub, .multianewarray 10 25, .sipush (1), .istore 5, .aload 0, .invokeinterface 10 25, .ifCond .ne 168, .aload 0, .invokeinterface 10 26, .sipush (1), .iaload, .goto 169]),
  (168, [.sipush (-1), .goto_w 169]),
  (169, [.istore 4, .goto 381]),
  (174, [.iload 4, .ifCond .ge 212, .iload 6, .sipush (40), .if_icmp .eq 196, .iload 7, .ifCond .eq 212, .iload 5, .ifCond .eq 212, .goto_w 196])]
def hq111_2 : List (List (List Nat)) := [[[], [], [], [], [983], [], [], [], [981], [], [], [981], [], [], [983], [], [], [983], [], [], [], [983], [], [], [984], [], [], []],
  [[], []],
  [[], []],
  [[], [], [], [], [], [], [], [], [], []]]
set_option maxRecDepth 100000 in
theorem cq111_2 : mm_chkM 111 bq111_2 hq111_2 = true := by decide +kernel
def bq111_3 : List (Nat × List Instr) := [(196, [.iload 6, .sipush (40), .if_icmp .ne 223, .aload 0, .invokeinterface 10 25, .sipush (8), .if_icmp .ne 223, .goto_w 212]),
  (212, [.aload 0, .aload 0, .invokeinterface 10 23, .multianewarray 10 24, .goto 381]),
  (223, [.iload 6, .sipush (40), .if_icmp .ne 298, .aload 0, .sipush (2), .sipush (-1), .invokevirtual 116, .istore 8, .aload 0, .invokeinterface 10 25, .ifCond .le 251, .aload 0, .iload 8, .invokevirtual 117, .goto_w 251])]
def hq111_3 : List (List (List Nat)) := [[[], [], [], [], [983], [], [], []],
  [[], [], [981], [982], []],
  [[], [], [], [], [], [], [1156, 1158, 45, 87, 1159], [], [], [983], [], [], [], [1160, 1162, 46, 87, 1163], []]]
set_option maxRecDepth 100000 in
theorem cq111_3 : mm_chkM 111 bq111_3 hq111_3 = true := by decide +kernel
def bq111_4 : List (Nat × List Instr) := [(251, [.aload 0, .dup, .invokeinterface 10 23, .sipush (1), .iadd, .multianewarray 10 23, .aload 0, .dup, .invokeinterface 10 25, .sipush (1), .iadd, .multianewarray 10 25, .aload 0, .invokeinterface 10 26, .aload 0, .invokeinterface 10 25, .iload 8, .iastore, .aload 0, .invokeinterface 10 27, .aload 0, .invokeinterface 10 25, .sipush (-1), .iastore, .sipush (1), .istore 5, .goto 381]),
  (298, [.iload 6, .invokestatic 113, .ifCond .ne 330, .iload 6, .sipush (45), .if_icmp .ne 334, .aload 0, .iload 1, .aload 0, .invokeinterface 10 23, .sipush (1), .iadd, .invokevirtual 112, .invokestatic 113, .ifCond .eq 334, .goto_w 330]),
  (330, [.sipush (1), .goto 335])]
def hq111_4 : List (List (List Nat)) := [[[], [], [981], [], [], [981], [], [], [983], [], [], [983], [], [984], [], [983], [], [], [], [985], [], [983], [], [], [], [], []],
  [[], [1147, 1148, 87, 1149], [], [], [], [], [], [], [], [981], [], [], [1143, 1145, 44, 87, 1146], [1147, 1148, 87, 1149], [], []],
  [[], []]]
set_option maxRecDepth 100000 in
theorem cq111_4 : mm_chkM 111 bq111_4 hq111_4 = true := by decide +kernel
def bq111_5 : List (Nat × List Instr) := [(334, [.sipush (0), .goto_w 335]),
  (335, [.istore 8, .iload 8, .ifCond .eq 350, .aload 0, .iload 1, .invokevirtual 118, .goto 356]),
  (350, [.aload 0, .iload 1, .iload 3, .invokevirtual 119, .goto_w 356]),
  (356, [.istore 9, .aload 0, .invokeinterface 10 25, .ifCond .le 374, .aload 0, .iload 9, .invokevirtual 117, .goto 378]),
  (374, [.iload 9, .istore 4, .goto_w 378]),
  (378, [.sipush (0), .istore 5, .goto_w 381]),
  (381, [.goto 21]),
  (384, [.iload 4, .ireturn])]
def hq111_5 : List (List (List Nat)) := [[[], []],
  [[], [], [], [], [], [1164, 1166, 47, 87, 1167], []],
  [[], [], [], [1168, 1170, 48, 87, 1171], []],
  [[], [], [983], [], [], [], [1160, 1162, 46, 87, 1163], []],
  [[], [], []],
  [[], [], []],
  [[]],
  [[], []]]
set_option maxRecDepth 100000 in
theorem cq111_5 : mm_chkM 111 bq111_5 hq111_5 = true := by decide +kernel
-- LispForgeModel.at (II)I
def bq112_0 : List (Nat × List Instr) := [(0, [.iload 1, .ifCond .ge 23, .iload 2, .aload 0, .invokeinterface 10 1, .if_icmp .ge 21, .aload 0, .invokeinterface 10 5, .iload 2, .caload, .goto 22]),
  (21, [.sipush (0), .goto_w 22]),
  (22, [.ireturn]),
  (23, [.iload 2, .aload 0, .invokeinterface 10 16, .iload 1, .iaload, .if_icmp .ge 47, .aload 0, .invokeinterface 10 15, .sipush (120), .iload 1, .imul, .iload 2, .iadd, .caload, .goto 48]),
  (47, [.sipush (0), .goto_w 48]),
  (48, [.ireturn])]
def hq112_0 : List (List (List Nat)) := [[[], [], [], [], [959], [], [], [963], [], [], []],
  [[], []],
  [[]],
  [[], [], [974], [], [], [], [], [973], [], [], [], [], [], [], []],
  [[], []],
  [[]]]
set_option maxRecDepth 100000 in
theorem cq112_0 : mm_chkM 112 bq112_0 hq112_0 = true := by decide +kernel
-- LispForgeModel.isDigit (I)Z
def bq113_0 : List (Nat × List Instr) := [(0, [.iload 0, .sipush (48), .if_icmp .lt 16, .iload 0, .sipush (57), .if_icmp .gt 16, .sipush (1), .goto 17]),
  (16, [.sipush (0), .goto_w 17]),
  (17, [.freturn])]
def hq113_0 : List (List (List Nat)) := [[[], [], [], [], [], [], [], []],
  [[], []],
  [[]]]
set_option maxRecDepth 100000 in
theorem cq113_0 : mm_chkM 113 bq113_0 hq113_0 = true := by decide +kernel
