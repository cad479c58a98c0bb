-- LispForgeModel.<init> ()V
def bq108 : List (Nat × List Instr) := [(0, [.aload 0, .invokespecial 0, .aload 0, .sipush (-1), .multianewarray 10 3, .aload 0, .sipush (120), .newarray .char, .multianewarray 10 5, .aload 0, .sipush (16), .newarray .int, .multianewarray 10 6, .aload 0, .sipush (16), .newarray .int, .multianewarray 10 7, .aload 0, .sipush (16), .newarray .int, .multianewarray 10 8, .aload 0, .sipush (16), .newarray .int, .multianewarray 10 9, .aload 0, .sipush (3200), .newarray .byte, .multianewarray 10 10, .aload 0, .sipush (16), .newarray .int, .multianewarray 10 11, .aload 0, .sipush (800), .newarray .int, .multianewarray 10 12, .aload 0, .sipush (800), .newarray .int, .multianewarray 10 13, .aload 0, .sipush (64), .newarray .int, .multianewarray 10 14, .aload 0, .sipush (1920), .newarray .char, .multianewarray 10 15, .aload 0, .sipush (16), .newarray .int, .multianewarray 10 16, .aload 0, .sipush (1300), .newarray .int, .multianewarray 10 19, .aload 0, .sipush (1300), .newarray .int, .multianewarray 10 20, .aload 0, .sipush (1300), .newarray .int, .multianewarray 10 21, .aload 0, .sipush (1300), .newarray .int, .multianewarray 10 22, .aload 0, .sipush (9), .newarray .int, .multianewarray 10 26, .aload 0, .sipush (9), .newarray .int, .multianewarray 10 27, .aload 0, .sipush (300), .newarray .int, .multianewarray 10 35, .aload 0, .sipush (300), .newarray .int, .multianewarray 10 36, .aload 0, .sipush (300), .newarray .int, .multianewarray 10 37, .aload 0, .sipush (260), .newarray .byte, .multianewarray 10 38, .aload 0, .sipush (120), .newarray .int, .multianewarray 10 39, .aload 0, .sipush (120), .newarray .int, .multianewarray 10 40, .aload 0, .sipush (70), .newarray .int, .multianewarray 10 41, .aload 0, .sipush (70), .newarray .int, .multianewarray 10 42, .aload 0, .sipush (16), .newarray .int, .multianewarray 10 44, .aload 0, .sipush (16), .newarray .int, .multianewarray 10 45, .aload 0, .sipush (600), .newarray .byte, .multianewarray 10 47, .aload 0, .sipush (120), .newarray .int, .multianewarray 10 54, .aload 0, .sipush (24), .newarray .int, .multianewarray 10 55, .aload 0, .sipush (24), .newarray .int, .multianewarray 10 56, .return_])]
def hq108 : List (List (List Nat)) := [[[], [957, 105, 106], [], [], [961], [], [], [1130], [963], [], [], [127], [964], [], [], [127], [965], [], [], [127], [966], [], [], [127], [967], [], [], [554], [968], [], [], [127], [969], [], [], [127], [970], [], [], [127], [971], [], [], [127], [972], [], [], [1130], [973], [], [], [127], [974], [], [], [127], [977], [], [], [127], [978], [], [], [127], [979], [], [], [127], [980], [], [], [127], [984], [], [], [127], [985], [], [], [127], [993], [], [], [127], [994], [], [], [127], [995], [], [], [554], [996], [], [], [127], [997], [], [], [127], [998], [], [], [127], [999], [], [], [127], [1000], [], [], [127], [1002], [], [], [127], [1003], [], [], [554], [1005], [], [], [127], [1012], [], [], [127], [1013], [], [], [127], [1014], []]]
set_option maxRecDepth 100000 in
theorem cq108 : mm_chkM 108 bq108 hq108 = true := by decide +kernel
-- LispForgeModel.thrown ()I
def bq109 : List (Nat × List Instr) := [(0, [.aload 0, .invokeinterface 10 0, .ireturn])]
def hq109 : List (List (List Nat)) := [[[], [958], []]]
set_option maxRecDepth 100000 in
theorem cq109 : mm_chkM 109 bq109 hq109 = true := by decide +kernel
-- LispForgeModel.write (J)Z
def bq110 : List (Nat × List Instr) := [(0, [.aload 0, .sipush (0), .multianewarray 10 0, .aload 0, .invokeinterface 10 1, .istore 3, .sipush (1), .istore 4, .sipush (7), .istore 5, .goto_w 17]),
  (17, [.iload 5, .ifCond .lt 101, .lload 1, .sipush (8), .iload 5, .imul, .lushr, .l2i, .sipush (255), .iand, .istore 6, .iload 4, .ifCond .eq 70, .iload 6, .ifCond .eq 66, .iload 6, .sipush (31), .if_icmp .le 70, .iload 6, .sipush (127), .if_icmp .ge 70, .iload 3, .sipush (120), .if_icmp .ge 70, .goto_w 66]),
  (66, [.sipush (1), .goto 71]),
  (70, [.sipush (0), .goto_w 71]),
  (71, [.istore 4, .iload 4, .ifCond .eq 95, .iload 6, .ifCond .eq 95, .aload 0, .invokeinterface 10 5, .iload 3, .iload 6, .i2c, .castore, .iinc 3 (1), .goto_w 95]),
  (95, [.iinc 5 (-1), .goto 17]),
  (101, [.aload 0, .iload 4, .ifCond .eq 111, .iload 3, .goto 115]),
  (111, [.aload 0, .invokeinterface 10 1, .goto_w 115]),
  (115, [.multianewarray 10 1, .iload 4, .freturn])]
def hq110 : List (List (List Nat)) := [[[], [], [958], [], [959], [], [], [], [], [], []],
  [[], [], [], [], [], [], [], [], [], [], [], [], [], [], [], [], [], [], [], [], [], [], [], [], []],
  [[], []],
  [[], []],
  [[], [], [], [], [], [], [963], [], [], [], [], [], []],
  [[], []],
  [[], [], [], [], []],
  [[], [959], []],
  [[959], [], []]]
set_option maxRecDepth 100000 in
theorem cq110 : mm_chkM 110 bq110 hq110 = true := by decide +kernel
-- LispForgeModel.compile ()I
def bq111 : List (Nat × List Instr) := [(0, [.aload 0, .sipush (0), .multianewarray 10 17, .aload 0, .sipush (0), .multianewarray 10 18, .aload 0, .sipush (0), .multianewarray 10 32, .aload 0, .sipush (0), .multianewarray 10 28, .aload 0, .sipush (-1), .sipush (0), .sipush (-1), .invokevirtual 112, .istore 1, .aload 0, .aload 0, .invokeinterface 10 24, .multianewarray 10 3, .aload 0, .aload 0, .invokeinterface 10 24, .ifCond .lt 48, .sipush (1), .goto 49]),
  (48, [.sipush (0), .goto_w 49]),
  (49, [.multianewarray 10 0, .sipush (0), .istore 2, .aload 0, .invokeinterface 10 0, .ifCond .ne 339, .aload 0, .iload 1, .invokevirtual 121, .istore 3, .iload 3, .sipush (109), .sipush (97), .sipush (99), .invokestatic 124, .if_icmp .ne 84, .sipush (1), .goto 85]),
  (84, [.sipush (0), .goto_w 85]),
  (85, [.istore 4, .iload 3, .sipush (100), .sipush (101), .sipush (102), .invokestatic 124, .if_icmp .ne 104, .sipush (1), .goto 105]),
  (104, [.sipush (0), .goto_w 105]),
  (105, [.istore 5, .sipush (0), .istore 6, .iload 4, .ifCond .ne 120, .iload 5, .ifCond .eq 191, .goto_w 120]),
  (120, [.aload 0, .aload 0, .iload 1, .invokevirtual 122, .sipush (4), .if_icmp .ne 160, .aload 0, .aload 0, .iload 1, .sipush (1), .invokevirtual 123, .invokevirtual 125, .ifCond .eq 160, .aload 0, .invokeinterface 10 20, .aload 0, .iload 1, .sipush (1), .invokevirtual 123, .iaload, .invokestatic 126, .ifCond .eq 164, .goto_w 160]),
  (160, [.sipush (1), .goto 165]),
  (164, [.sipush (0), .goto_w 165]),
  (165, [.multianewarray 10 28, .aload 0, .invokeinterface 10 28, .ifCond .eq 179, .sipush (0), .goto 189]),
  (179, [.aload 0, .aload 0, .iload 1, .sipush (2), .invokevirtual 123, .invokevirtual 127, .goto_w 189]),
  (189, [.istore 6, .goto_w 191]),
  (191, [.aload 0, .invokeinterface 10 28, .ifCond .ne 236, .iload 4, .ifCond .ne 236, .aload 0, .iload 5, .ifCond .eq 218, .aload 0, .iload 1, .sipush (3), .invokevirtual 123, .goto 219]),
  (218, [.iload 1, .goto_w 219]),
  (219, [.iload 5, .ifCond .eq 229, .sipush (13), .goto 231]),
  (229, [.sipush (14), .goto_w 231]),
  (231, [.iload 6, .invokevirtual 129, .goto_w 236]),
  (236, [.aload 0, .aload 0, .invokeinterface 10 28, .ifCond .eq 248, .sipush (2), .goto 262]),
  (248, [.aload 0, .invokeinterface 10 2, .sipush (16), .if_icmp .ne 261, .sipush (3), .goto 262]),
  (261, [.sipush (0), .goto_w 262]),
  (262, [.multianewarray 10 0, .aload 0, .invokeinterface 10 0, .ifCond .ne 339, .aload 0, .iload 4, .ifCond .eq 282, .sipush (2), .goto 292]),
  (282, [.iload 5, .ifCond .eq 291, .sipush (1), .goto 292]),
  (291, [.sipush (0), .goto_w 292]),
  (292, [.iload 4, .ifCond .ne 302, .iload 5, .ifCond .eq 316, .goto_w 302]),
  (302, [.aload 0, .invokeinterface 10 20, .aload 0, .iload 1, .sipush (1), .invokevirtual 123, .iaload, .goto 317]),
  (316, [.sipush (0), .goto_w 317]),
  (317, [.iload 6, .iload 4, .ifCond .eq 331, .aload 0, .invokevirtual 141, .goto 335]),
  (331, [.aload 0, .invokeinterface 10 1, .goto_w 335]),
  (335, [.invokevirtual 142, .istore 2, .goto_w 339]),
  (339, [.aload 0, .sipush (0), .multianewarray 10 1, .iload 2, .ireturn])]
def hq111 : List (List (List Nat)) := [[[], [], [975], [], [], [976], [], [], [990], [], [], [986], [], [], [], [], [1143, 1145, 43, 87, 1146], [], [], [], [982], [961], [], [], [982], [], [], []],
  [[], []],
  [[958], [], [], [], [958], [], [], [], [1176, 1178, 49, 87, 1179], [], [], [], [], [], [1188, 1189, 87, 1190], [], [], []],
  [[], []],
  [[], [], [], [], [], [1188, 1189, 87, 1190], [], [], []],
  [[], []],
  [[], [], [], [], [], [], [], []],
  [[], [], [], [1180, 1182, 50, 87, 1183], [], [], [], [], [], [], [1184, 1186, 51, 87, 1187], [1191, 1193, 52, 87, 1194], [], [], [978], [], [], [], [1184, 1186, 51, 87, 1187], [], [1195, 1196, 87, 1197], [], []],
  [[], []],
  [[], []],
  [[986], [], [986], [], [], []],
  [[], [], [], [], [1184, 1186, 51, 87, 1187], [1198, 1200, 53, 87, 1201], []],
  [[], []],
  [[], [986], [], [], [], [], [], [], [], [], [], [1184, 1186, 51, 87, 1187], []],
  [[], []],
  [[], [], [], []],
  [[], []],
  [[], [1206, 1208, 55, 87, 1209], []],
  [[], [], [986], [], [], []],
  [[], [960], [], [], [], []],
  [[], []],
  [[958], [], [958], [], [], [], [], [], []],
  [[], [], [], []],
  [[], []],
  [[], [], [], [], []],
  [[], [978], [], [], [], [1184, 1186, 51, 87, 1187], [], []],
  [[], []],
  [[], [], [], [], [1253, 1255, 66, 87, 1256], []],
  [[], [959], []],
  [[1257, 1259, 67, 87, 1260], [], []],
  [[], [], [959], [], []]]
set_option maxRecDepth 100000 in
theorem cq111 : mm_chkM 111 bq111 hq111 = true := by decide +kernel
-- LispForgeModel.read (III)I
def bq112 : List (Nat × List Instr) := [(0, [.aload 0, .iload 2, .multianewarray 10 23, .aload 0, .sipush (-1), .multianewarray 10 24, .aload 0, .sipush (0), .multianewarray 10 25, .sipush (-1), .istore 4, .sipush (1), .istore 5, .goto_w 21]),
  (21, [.aload 0, .invokeinterface 10 24, .ifCond .ge 384, .iload 4, .ifCond .lt 37, .iload 1, .ifCond .ge 384, .goto_w 37]),
  (37, [.aload 0, .iload 1, .aload 0, .invokeinterface 10 23, .invokevirtual 113, .istore 6, .iload 6, .invokestatic 114, .ifCond .ne 72, .iload 6, .invokestatic 115, .ifCond .ne 72, .iload 6, .invokestatic 116, .ifCond .eq 76, .goto_w 72]),
  (72, [.sipush (1), .goto 77]),
  (76, [.sipush (0), .goto_w 77]),
  (77, [.istore 7, .iload 6, .sipush (32), .if_icmp .ne 102, .aload 0, .dup, .invokeinterface 10 23, .sipush (1), .iadd, .multianewarray 10 23, .sipush (1), .istore 5, .goto 381]),
  (102, [.iload 6, .ifCond .ne 115, .iload 4, .ifCond .lt 115, .iload 4, .ireturn]),
  (115, [.iload 6, .sipush (41), .if_icmp .ne 174, .aload 0, .invokeinterface 10 25, .ifCond .le 174, .aload 0, .dup, .invokeinterface 10 23, .sipush (1), .iadd, .multianewarray 10 23, .aload 0, .dup, .invokeinterface 10 25, .sipush (1), .isub, .multianewarray 10 25, .sipush (1), .istore 5, .aload 0, .invokeinterface 10 25, .ifCond .ne 168, .aload 0, .invokeinterface 10 26, .sipush (1), .iaload, .goto 169]),
  (168, [.sipush (-1), .goto_w 169]),
  (169, [.istore 4, .goto 381]),
  (174, [.iload 4, .ifCond .ge 212, .iload 6, .sipush (40), .if_icmp .eq 196, .iload 7, .ifCond .eq 212, .iload 5, .ifCond .eq 212, .goto_w 196]),
  (196, [.iload 6, .sipush (40), .if_icmp .ne 223, .aload 0, .invokeinterface 10 25, .sipush (8), .if_icmp .ne 223, .goto_w 212]),
  (212, [.aload 0, .aload 0, .invokeinterface 10 23, .multianewarray 10 24, .goto 381]),
  (223, [.iload 6, .sipush (40), .if_icmp .ne 298, .aload 0, .sipush (2), .sipush (-1), .invokevirtual 117, .istore 8, .aload 0, .invokeinterface 10 25, .ifCond .le 251, .aload 0, .iload 8, .invokevirtual 118, .goto_w 251]),
  (251, [.aload 0, .dup, .invokeinterface 10 23, .sipush (1), .iadd, .multianewarray 10 23, .aload 0, .dup, .invokeinterface 10 25, .sipush (1), .iadd, .multianewarray 10 25, .aload 0, .invokeinterface 10 26, .aload 0, .invokeinterface 10 25, .iload 8, .iastore, .aload 0, .invokeinterface 10 27, .aload 0, .invokeinterface 10 25, .sipush (-1), .iastore, .sipush (1), .istore 5, .goto 381]),
  (298, [.iload 6, .invokestatic 114, .ifCond .ne 330, .iload 6, .sipush (45), .if_icmp .ne 334, .aload 0, .iload 1, .aload 0, .invokeinterface 10 23, .sipush (1), .iadd, .invokevirtual 113, .invokestatic 114, .ifCond .eq 334, .goto_w 330]),
  (330, [.sipush (1), .goto 335]),
  (334, [.sipush (0), .goto_w 335]),
  (335, [.istore 8, .iload 8, .ifCond .eq 350, .aload 0, .iload 1, .invokevirtual 119, .goto 356]),
  (350, [.aload 0, .iload 1, .iload 3, .invokevirtual 120, .goto_w 356]),
  (356, [.istore 9, .aload 0, .invokeinterface 10 25, .ifCond .le 374, .aload 0, .iload 9, .invokevirtual 118, .goto 378]),
  (374, [.iload 9, .istore 4, .goto_w 378]),
  (378, [.sipush (0), .istore 5, .goto_w 381]),
  (381, [.goto 21]),
  (384, [.iload 4, .ireturn])]
def hq112 : List (List (List Nat)) := [[[], [], [981], [], [], [982], [], [], [983], [], [], [], [], []],
  [[], [982], [], [], [], [], [], []],
  [[], [], [], [981], [1147, 1149, 44, 87, 1150], [], [], [1151, 1152, 87, 1153], [], [], [1154, 1155, 87, 1156], [], [], [1157, 1158, 87, 1159], [], []],
  [[], []],
  [[], []],
  [[], [], [], [], [], [], [981], [], [], [981], [], [], []],
  [[], [], [], [], [], []],
  [[], [], [], [], [983], [], [], [], [981], [], [], [981], [], [], [983], [], [], [983], [], [], [], [983], [], [], [984], [], [], []],
  [[], []],
  [[], []],
  [[], [], [], [], [], [], [], [], [], []],
  [[], [], [], [], [983], [], [], []],
  [[], [], [981], [982], []],
  [[], [], [], [], [], [], [1160, 1162, 45, 87, 1163], [], [], [983], [], [], [], [1164, 1166, 46, 87, 1167], []],
  [[], [], [981], [], [], [981], [], [], [983], [], [], [983], [], [984], [], [983], [], [], [], [985], [], [983], [], [], [], [], []],
  [[], [1151, 1152, 87, 1153], [], [], [], [], [], [], [], [981], [], [], [1147, 1149, 44, 87, 1150], [1151, 1152, 87, 1153], [], []],
  [[], []],
  [[], []],
  [[], [], [], [], [], [1168, 1170, 47, 87, 1171], []],
  [[], [], [], [1172, 1174, 48, 87, 1175], []],
  [[], [], [983], [], [], [], [1164, 1166, 46, 87, 1167], []],
  [[], [], []],
  [[], [], []],
  [[]],
  [[], []]]
set_option maxRecDepth 100000 in
theorem cq112 : mm_chkM 112 bq112 hq112 = true := by decide +kernel
-- LispForgeModel.at (II)I
def bq113 : List (Nat × List Instr) := [(0, [.iload 1, .ifCond .ge 23, .iload 2, .aload 0, .invokeinterface 10 1, .if_icmp .ge 21, .aload 0, .invokeinterface 10 5, .iload 2, .caload, .goto 22]),
  (21, [.sipush (0), .goto_w 22]),
  (22, [.ireturn]),
  (23, [.iload 2, .aload 0, .invokeinterface 10 16, .iload 1, .iaload, .if_icmp .ge 47, .aload 0, .invokeinterface 10 15, .sipush (120), .iload 1, .imul, .iload 2, .iadd, .caload, .goto 48]),
  (47, [.sipush (0), .goto_w 48]),
  (48, [.ireturn])]
def hq113 : List (List (List Nat)) := [[[], [], [], [], [959], [], [], [963], [], [], []],
  [[], []],
  [[]],
  [[], [], [974], [], [], [], [], [973], [], [], [], [], [], [], []],
  [[], []],
  [[]]]
set_option maxRecDepth 100000 in
theorem cq113 : mm_chkM 113 bq113 hq113 = true := by decide +kernel
-- LispForgeModel.isDigit (I)Z
def bq114 : List (Nat × List Instr) := [(0, [.iload 0, .sipush (48), .if_icmp .lt 16, .iload 0, .sipush (57), .if_icmp .gt 16, .sipush (1), .goto 17]),
  (16, [.sipush (0), .goto_w 17]),
  (17, [.freturn])]
def hq114 : List (List (List Nat)) := [[[], [], [], [], [], [], [], []],
  [[], []],
  [[]]]
set_option maxRecDepth 100000 in
theorem cq114 : mm_chkM 114 bq114 hq114 = true := by decide +kernel
-- LispForgeModel.isLetter (I)Z
def bq115 : List (Nat × List Instr) := [(0, [.iload 0, .sipush (97), .if_icmp .lt 16, .iload 0, .sipush (122), .if_icmp .gt 16, .sipush (1), .goto 17]),
  (16, [.sipush (0), .goto_w 17]),
  (17, [.freturn])]
def hq115 : List (List (List Nat)) := [[[], [], [], [], [], [], [], []],
  [[], []],
  [[]]]
set_option maxRecDepth 100000 in
theorem cq115 : mm_chkM 115 bq115 hq115 = true := by decide +kernel
-- LispForgeModel.isSign (I)Z
def bq116 : List (Nat × List Instr) := [(0, [.iload 0, .sipush (43), .if_icmp .eq 30, .iload 0, .sipush (45), .if_icmp .eq 30, .iload 0, .sipush (42), .if_icmp .eq 30, .iload 0, .sipush (60), .if_icmp .eq 30, .iload 0, .sipush (61), .if_icmp .ne 34, .goto_w 30]),
  (30, [.sipush (1), .goto 35]),
  (34, [.sipush (0), .goto_w 35]),
  (35, [.freturn])]
def hq116 : List (List (List Nat)) := [[[], [], [], [], [], [], [], [], [], [], [], [], [], [], [], []],
  [[], []],
  [[], []],
  [[]]]
set_option maxRecDepth 100000 in
theorem cq116 : mm_chkM 116 bq116 hq116 = true := by decide +kernel
-- LispForgeModel.form (II)I
def bq117 : List (Nat × List Instr) := [(0, [.aload 0, .invokeinterface 10 19, .aload 0, .invokeinterface 10 17, .iload 1, .iastore, .aload 0, .invokeinterface 10 20, .aload 0, .invokeinterface 10 17, .iload 2, .iastore, .aload 0, .dup, .invokeinterface 10 17, .sipush (1), .iadd, .multianewarray 10 17, .aload 0, .invokeinterface 10 17, .sipush (1), .isub, .ireturn])]
def hq117 : List (List (List Nat)) := [[[], [977], [], [975], [], [], [], [978], [], [975], [], [], [], [], [975], [], [], [975], [], [975], [], [], []]]
set_option maxRecDepth 100000 in
theorem cq117 : mm_chkM 117 bq117 hq117 = true := by decide +kernel
-- LispForgeModel.joins (I)V
def bq118 : List (Nat × List Instr) := [(0, [.aload 0, .invokeinterface 10 21, .aload 0, .invokeinterface 10 18, .iload 1, .iastore, .aload 0, .invokeinterface 10 22, .aload 0, .invokeinterface 10 18, .sipush (-1), .iastore, .aload 0, .invokeinterface 10 27, .aload 0, .invokeinterface 10 25, .iaload, .ifCond .ge 53, .aload 0, .invokeinterface 10 20, .aload 0, .invokeinterface 10 26, .aload 0, .invokeinterface 10 25, .iaload, .aload 0, .invokeinterface 10 18, .iastore, .goto 71]),
  (53, [.aload 0, .invokeinterface 10 22, .aload 0, .invokeinterface 10 27, .aload 0, .invokeinterface 10 25, .iaload, .aload 0, .invokeinterface 10 18, .iastore, .goto_w 71]),
  (71, [.aload 0, .invokeinterface 10 27, .aload 0, .invokeinterface 10 25, .aload 0, .invokeinterface 10 18, .iastore, .aload 0, .dup, .invokeinterface 10 18, .sipush (1), .iadd, .multianewarray 10 18, .return_])]
def hq118 : List (List (List Nat)) := [[[], [979], [], [976], [], [], [], [980], [], [976], [], [], [], [985], [], [983], [], [], [], [978], [], [984], [], [983], [], [], [976], [], []],
  [[], [980], [], [985], [], [983], [], [], [976], [], []],
  [[], [985], [], [983], [], [976], [], [], [], [976], [], [], [976], []]]
set_option maxRecDepth 100000 in
theorem cq118 : mm_chkM 118 bq118 hq118 = true := by decide +kernel
-- LispForgeModel.number (I)I
def bq119 : List (Nat × List Instr) := [(0, [.sipush (1), .istore 2, .aload 0, .iload 1, .aload 0, .invokeinterface 10 23, .invokevirtual 113, .sipush (45), .if_icmp .ne 28, .sipush (-1), .istore 2, .aload 0, .dup, .invokeinterface 10 23, .sipush (1), .iadd, .multianewarray 10 23, .goto_w 28]),
  (28, [.sipush (0), .istore 3, .sipush (0), .istore 4, .goto_w 33]),
  (33, [.iload 4, .sipush (4), .if_icmp .ge 88, .aload 0, .iload 1, .aload 0, .invokeinterface 10 23, .invokevirtual 113, .invokestatic 114, .ifCond .eq 88, .sipush (10), .iload 3, .imul, .aload 0, .iload 1, .aload 0, .invokeinterface 10 23, .invokevirtual 113, .iadd, .sipush (48), .isub, .istore 3, .aload 0, .dup, .invokeinterface 10 23, .sipush (1), .iadd, .multianewarray 10 23, .iinc 4 (1), .goto 33]),
  (88, [.aload 0, .sipush (0), .iload 2, .iload 3, .imul, .invokevirtual 117, .ireturn])]
def hq119 : List (List (List Nat)) := [[[], [], [], [], [], [981], [1147, 1149, 44, 87, 1150], [], [], [], [], [], [], [981], [], [], [981], []],
  [[], [], [], [], []],
  [[], [], [], [], [], [], [981], [1147, 1149, 44, 87, 1150], [1151, 1152, 87, 1153], [], [], [], [], [], [], [], [981], [1147, 1149, 44, 87, 1150], [], [], [], [], [], [], [981], [], [], [981], [], []],
  [[], [], [], [], [], [1160, 1162, 45, 87, 1163], []]]
set_option maxRecDepth 100000 in
theorem cq119 : mm_chkM 119 bq119 hq119 = true := by decide +kernel
-- LispForgeModel.symbolForm (II)I
def bq120 : List (Nat × List Instr) := [(0, [.aload 0, .iload 1, .aload 0, .invokeinterface 10 23, .invokevirtual 113, .istore 3, .aload 0, .dup, .invokeinterface 10 23, .sipush (1), .iadd, .multianewarray 10 23, .sipush (1), .istore 4, .goto_w 23]),
  (23, [.iload 4, .sipush (4), .if_icmp .ge 86, .iload 3, .sipush (255), .iand, .invokestatic 115, .ifCond .eq 86, .aload 0, .iload 1, .aload 0, .invokeinterface 10 23, .invokevirtual 113, .invokestatic 115, .ifCond .eq 86, .iload 3, .sipush (8), .ishl, .aload 0, .iload 1, .aload 0, .invokeinterface 10 23, .invokevirtual 113, .ior, .istore 3, .aload 0, .dup, .invokeinterface 10 23, .sipush (1), .iadd, .multianewarray 10 23, .iinc 4 (1), .goto 23]),
  (86, [.iload 2, .istore 4, .sipush (0), .istore 5, .goto_w 92]),
  (92, [.iload 1, .ifCond .lt 145, .iload 5, .aload 0, .invokeinterface 10 8, .iload 1, .iaload, .if_icmp .ge 145, .aload 0, .invokeinterface 10 14, .sipush (4), .iload 1, .imul, .iload 5, .iadd, .iaload, .iload 3, .if_icmp .ne 130, .aload 0, .invokeinterface 10 21, .iload 4, .iaload, .ireturn]),
  (130, [.aload 0, .invokeinterface 10 22, .iload 4, .iaload, .istore 4, .iinc 5 (1), .goto 92]),
  (145, [.aload 0, .sipush (1), .iload 3, .invokevirtual 117, .ireturn])]
def hq120 : List (List (List Nat)) := [[[], [], [], [981], [1147, 1149, 44, 87, 1150], [], [], [], [981], [], [], [981], [], [], []],
  [[], [], [], [], [], [], [1154, 1155, 87, 1156], [], [], [], [], [981], [1147, 1149, 44, 87, 1150], [1154, 1155, 87, 1156], [], [], [], [], [], [], [], [981], [1147, 1149, 44, 87, 1150], [], [], [], [], [981], [], [], [981], [], []],
  [[], [], [], [], []],
  [[], [], [], [], [966], [], [], [], [], [972], [], [], [], [], [], [], [], [], [], [979], [], [], []],
  [[], [980], [], [], [], [], []],
  [[], [], [], [1160, 1162, 45, 87, 1163], []]]
set_option maxRecDepth 100000 in
theorem cq120 : mm_chkM 120 bq120 hq120 = true := by decide +kernel
-- LispForgeModel.head (I)I
def bq121 : List (Nat × List Instr) := [(0, [.aload 0, .iload 1, .invokevirtual 122, .istore 2, .iload 2, .ifCond .le 39, .aload 0, .invokeinterface 10 19, .aload 0, .iload 1, .sipush (0), .invokevirtual 123, .iaload, .sipush (1), .if_icmp .ne 39, .aload 0, .invokeinterface 10 20, .aload 0, .iload 1, .sipush (0), .invokevirtual 123, .iaload, .goto 40]),
  (39, [.sipush (0), .goto_w 40]),
  (40, [.ireturn])]
def hq121 : List (List (List Nat)) := [[[], [], [1180, 1182, 50, 87, 1183], [], [], [], [], [977], [], [], [], [1184, 1186, 51, 87, 1187], [], [], [], [], [978], [], [], [], [1184, 1186, 51, 87, 1187], [], []],
  [[], []],
  [[]]]
set_option maxRecDepth 100000 in
theorem cq121 : mm_chkM 121 bq121 hq121 = true := by decide +kernel
-- LispForgeModel.count (I)I
def bq122 : List (Nat × List Instr) := [(0, [.sipush (0), .istore 2, .aload 0, .invokeinterface 10 19, .iload 1, .iaload, .sipush (2), .if_icmp .ne 21, .aload 0, .invokeinterface 10 20, .iload 1, .iaload, .goto 22]),
  (21, [.sipush (-1), .goto_w 22]),
  (22, [.istore 3, .goto_w 23]),
  (23, [.iload 3, .ifCond .lt 40, .iinc 2 (1), .aload 0, .invokeinterface 10 22, .iload 3, .iaload, .istore 3, .goto 23]),
  (40, [.iload 2, .ireturn])]
def hq122 : List (List (List Nat)) := [[[], [], [], [977], [], [], [], [], [], [978], [], [], []],
  [[], []],
  [[], []],
  [[], [], [], [], [980], [], [], [], []],
  [[], []]]
set_option maxRecDepth 100000 in
theorem cq122 : mm_chkM 122 bq122 hq122 = true := by decide +kernel
-- LispForgeModel.part (II)I
def bq123 : List (Nat × List Instr) := [(0, [.aload 0, .invokeinterface 10 20, .iload 1, .iaload, .istore 3, .sipush (0), .istore 4, .goto_w 10]),
  (10, [.iload 4, .iload 2, .if_icmp .ge 29, .aload 0, .invokeinterface 10 22, .iload 3, .iaload, .istore 3, .iinc 4 (1), .goto 10]),
  (29, [.aload 0, .invokeinterface 10 21, .iload 3, .iaload, .ireturn])]
def hq123 : List (List (List Nat)) := [[[], [978], [], [], [], [], [], []],
  [[], [], [], [], [980], [], [], [], [], []],
  [[], [979], [], [], []]]
set_option maxRecDepth 100000 in
theorem cq123 : mm_chkM 123 bq123 hq123 = true := by decide +kernel
-- LispForgeModel.word (III)I
def bq124 : List (Nat × List Instr) := [(0, [.iload 0, .sipush (16), .ishl, .iload 1, .sipush (8), .ishl, .ior, .iload 2, .ior, .ireturn])]
def hq124 : List (List (List Nat)) := [[[], [], [], [], [], [], [], [], [], []]]
set_option maxRecDepth 100000 in
theorem cq124 : mm_chkM 124 bq124 hq124 = true := by decide +kernel
-- LispForgeModel.isSymbol (I)Z
def bq125 : List (Nat × List Instr) := [(0, [.aload 0, .invokeinterface 10 19, .iload 1, .iaload, .sipush (1), .if_icmp .ne 30, .aload 0, .invokeinterface 10 20, .iload 1, .iaload, .sipush (255), .iand, .invokestatic 115, .ifCond .eq 30, .sipush (1), .goto 31]),
  (30, [.sipush (0), .goto_w 31]),
  (31, [.freturn])]
def hq125 : List (List (List Nat)) := [[[], [977], [], [], [], [], [], [978], [], [], [], [], [1154, 1155, 87, 1156], [], [], []],
  [[], []],
  [[]]]
set_option maxRecDepth 100000 in
theorem cq125 : mm_chkM 125 bq125 hq125 = true := by decide +kernel
-- LispForgeModel.isWord (I)Z
def bq126 : List (Nat × List Instr) := [(0, [.iload 0, .sipush (100), .sipush (101), .sipush (102), .invokestatic 124, .if_icmp .eq 89, .iload 0, .sipush (109), .sipush (97), .sipush (99), .invokestatic 124, .if_icmp .eq 89, .iload 0, .sipush (0), .sipush (105), .sipush (102), .invokestatic 124, .if_icmp .eq 89, .iload 0, .sipush (108), .sipush (101), .sipush (116), .invokestatic 124, .if_icmp .eq 89, .iload 0, .sipush (0), .sipush (100), .sipush (111), .invokestatic 124, .if_icmp .eq 89, .iload 0, .sipush (115), .sipush (101), .sipush (116), .invokestatic 124, .if_icmp .eq 89, .iload 0, .sipush (114), .sipush (117), .sipush (110), .invokestatic 124, .if_icmp .ne 93, .goto_w 89]),
  (89, [.sipush (1), .goto 94]),
  (93, [.sipush (0), .goto_w 94]),
  (94, [.freturn])]
def hq126 : List (List (List Nat)) := [[[], [], [], [], [1188, 1189, 87, 1190], [], [], [], [], [], [1188, 1189, 87, 1190], [], [], [], [], [], [1188, 1189, 87, 1190], [], [], [], [], [], [1188, 1189, 87, 1190], [], [], [], [], [], [1188, 1189, 87, 1190], [], [], [], [], [], [1188, 1189, 87, 1190], [], [], [], [], [], [1188, 1189, 87, 1190], [], []],
  [[], []],
  [[], []],
  [[]]]
set_option maxRecDepth 100000 in
theorem cq126 : mm_chkM 126 bq126 hq126 = true := by decide +kernel
-- LispForgeModel.parametersOf (I)I
def bq127 : List (Nat × List Instr) := [(0, [.aload 0, .iload 1, .invokevirtual 122, .istore 2, .aload 0, .aload 0, .invokeinterface 10 28, .ifCond .ne 29, .aload 0, .invokeinterface 10 19, .iload 1, .iaload, .sipush (2), .if_icmp .ne 29, .iload 2, .sipush (4), .if_icmp .le 33, .goto_w 29]),
  (29, [.sipush (1), .goto 34]),
  (33, [.sipush (0), .goto_w 34]),
  (34, [.multianewarray 10 28, .sipush (0), .istore 3, .goto_w 39]),
  (39, [.iload 3, .iload 2, .if_icmp .ge 148, .aload 0, .invokeinterface 10 28, .ifCond .ne 148, .aload 0, .iload 1, .iload 3, .invokevirtual 123, .istore 4, .aload 0, .aload 0, .iload 4, .invokevirtual 125, .ifCond .ne 73, .sipush (1), .goto 74]),
  (73, [.sipush (0), .goto_w 74]),
  (74, [.multianewarray 10 28, .sipush (0), .istore 5, .goto_w 80]),
  (80, [.iload 5, .iload 3, .if_icmp .ge 130, .aload 0, .invokeinterface 10 28, .ifCond .ne 130, .aload 0, .aload 0, .invokeinterface 10 20, .aload 0, .iload 1, .iload 5, .invokevirtual 123, .iaload, .aload 0, .invokeinterface 10 20, .iload 4, .iaload, .if_icmp .ne 120, .sipush (1), .goto 121]),
  (120, [.sipush (0), .goto_w 121]),
  (121, [.multianewarray 10 28, .iinc 5 (1), .goto 80]),
  (130, [.aload 0, .aload 0, .invokeinterface 10 20, .iload 4, .iaload, .iload 3, .invokevirtual 128, .iinc 3 (1), .goto 39]),
  (148, [.iload 2, .ireturn])]
def hq127 : List (List (List Nat)) := [[[], [], [1180, 1182, 50, 87, 1183], [], [], [], [986], [], [], [977], [], [], [], [], [], [], [], []],
  [[], []],
  [[], []],
  [[986], [], [], []],
  [[], [], [], [], [986], [], [], [], [], [1184, 1186, 51, 87, 1187], [], [], [], [], [1191, 1193, 52, 87, 1194], [], [], []],
  [[], []],
  [[986], [], [], []],
  [[], [], [], [], [986], [], [], [], [978], [], [], [], [1184, 1186, 51, 87, 1187], [], [], [978], [], [], [], [], []],
  [[], []],
  [[986], [], []],
  [[], [], [978], [], [], [], [1202, 1204, 54, 87, 1205], [], []],
  [[], []]]
set_option maxRecDepth 100000 in
theorem cq127 : mm_chkM 127 bq127 hq127 = true := by decide +kernel
-- LispForgeModel.know (II)V
def bq128 : List (Nat × List Instr) := [(0, [.aload 0, .invokeinterface 10 39, .aload 0, .invokeinterface 10 32, .iload 1, .iastore, .aload 0, .invokeinterface 10 40, .aload 0, .invokeinterface 10 32, .iload 2, .iastore, .aload 0, .dup, .invokeinterface 10 32, .sipush (1), .iadd, .multianewarray 10 32, .return_])]
def hq128 : List (List (List Nat)) := [[[], [997], [], [990], [], [], [], [998], [], [990], [], [], [], [], [990], [], [], [990], []]]
set_option maxRecDepth 100000 in
theorem cq128 : mm_chkM 128 bq128 hq128 = true := by decide +kernel
-- LispForgeModel.body (III)V
def bq129 : List (Nat × List Instr) := [(0, [.aload 0, .sipush (0), .multianewarray 10 29, .aload 0, .sipush (0), .multianewarray 10 30, .aload 0, .iload 3, .multianewarray 10 31, .aload 0, .sipush (0), .multianewarray 10 33, .aload 0, .sipush (0), .multianewarray 10 34, .aload 0, .sipush (0), .iload 1, .sipush (0), .invokevirtual 130, .goto_w 32]),
  (32, [.aload 0, .invokeinterface 10 29, .ifCond .le 90, .aload 0, .invokeinterface 10 28, .ifCond .ne 90, .aload 0, .dup, .invokeinterface 10 29, .sipush (1), .isub, .multianewarray 10 29, .aload 0, .aload 0, .invokeinterface 10 35, .aload 0, .invokeinterface 10 29, .iaload, .aload 0, .invokeinterface 10 36, .aload 0, .invokeinterface 10 29, .iaload, .aload 0, .invokeinterface 10 37, .aload 0, .invokeinterface 10 29, .iaload, .invokevirtual 131, .goto 32]),
  (90, [.aload 0, .iload 2, .invokevirtual 137, .iload 2, .sipush (13), .if_icmp .ne 106, .aload 0, .iload 3, .invokevirtual 137, .goto_w 106]),
  (106, [.return_])]
def hq129 : List (List (List Nat)) := [[[], [], [987], [], [], [988], [], [], [989], [], [], [991], [], [], [992], [], [], [], [], [1210, 1212, 56, 87, 1213], []],
  [[], [987], [], [], [986], [], [], [], [987], [], [], [987], [], [], [993], [], [987], [], [], [994], [], [987], [], [], [995], [], [987], [], [1214, 1216, 57, 87, 1217], []],
  [[], [], [1237, 1239, 62, 87, 1240], [], [], [], [], [], [1237, 1239, 62, 87, 1240], []],
  [[]]]
set_option maxRecDepth 100000 in
theorem cq129 : mm_chkM 129 bq129 hq129 = true := by decide +kernel
-- LispForgeModel.push (III)V
def bq130 : List (Nat × List Instr) := [(0, [.aload 0, .invokeinterface 10 35, .aload 0, .invokeinterface 10 29, .iload 1, .iastore, .aload 0, .invokeinterface 10 36, .aload 0, .invokeinterface 10 29, .iload 2, .iastore, .aload 0, .invokeinterface 10 37, .aload 0, .invokeinterface 10 29, .iload 3, .iastore, .aload 0, .dup, .invokeinterface 10 29, .sipush (1), .iadd, .multianewarray 10 29, .return_])]
def hq130 : List (List (List Nat)) := [[[], [993], [], [987], [], [], [], [994], [], [987], [], [], [], [995], [], [987], [], [], [], [], [987], [], [], [987], []]]
set_option maxRecDepth 100000 in
theorem cq130 : mm_chkM 130 bq130 hq130 = true := by decide +kernel
-- LispForgeModel.perform (III)V
def bq131 : List (Nat × List Instr) := [(0, [.iload 1, .lookupswitch 465 #[(0, 64), (1, 90), (2, 121), (3, 139), (4, 185), (5, 236), (6, 244), (7, 288), (8, 317), (9, 365), (10, 383), (11, 430)]]),
  (64, [.aload 0, .invokeinterface 10 19, .iload 2, .iaload, .sipush (2), .if_icmp .ne 82, .aload 0, .iload 2, .invokevirtual 132, .goto 526]),
  (82, [.aload 0, .iload 2, .invokevirtual 136, .goto 526]),
  (90, [.iload 2, .ifCond .lt 526, .aload 0, .sipush (1), .aload 0, .invokeinterface 10 22, .iload 2, .iaload, .sipush (0), .invokevirtual 130, .aload 0, .sipush (0), .aload 0, .invokeinterface 10 21, .iload 2, .iaload, .sipush (0), .invokevirtual 130, .goto 526]),
  (121, [.aload 0, .iload 2, .invokevirtual 137, .aload 0, .dup, .invokeinterface 10 31, .sipush (1), .isub, .multianewarray 10 31, .goto 526]),
  (139, [.aload 0, .sipush (8), .invokevirtual 137, .aload 0, .sipush (4), .iload 2, .aload 0, .invokeinterface 10 30, .invokevirtual 130, .aload 0, .sipush (0), .invokevirtual 138, .aload 0, .dup, .invokeinterface 10 31, .sipush (1), .isub, .multianewarray 10 31, .aload 0, .sipush (0), .aload 0, .iload 2, .sipush (2), .invokevirtual 123, .sipush (0), .invokevirtual 130, .goto 526]),
  (185, [.aload 0, .sipush (7), .invokevirtual 137, .aload 0, .sipush (5), .aload 0, .invokeinterface 10 30, .sipush (0), .invokevirtual 130, .aload 0, .sipush (0), .invokevirtual 138, .aload 0, .iload 3, .invokevirtual 140, .aload 0, .dup, .invokeinterface 10 31, .sipush (1), .isub, .multianewarray 10 31, .aload 0, .sipush (0), .aload 0, .iload 2, .sipush (3), .invokevirtual 123, .sipush (0), .invokevirtual 130, .goto 526]),
  (236, [.aload 0, .iload 2, .invokevirtual 140, .goto 526]),
  (244, [.aload 0, .aload 0, .invokeinterface 10 20, .aload 0, .iload 2, .sipush (1), .invokevirtual 123, .iaload, .aload 0, .invokeinterface 10 31, .sipush (1), .isub, .invokevirtual 128, .aload 0, .sipush (7), .sipush (0), .sipush (0), .invokevirtual 130, .aload 0, .sipush (0), .aload 0, .iload 2, .sipush (3), .invokevirtual 123, .sipush (0), .invokevirtual 130, .goto 526]),
  (288, [.aload 0, .sipush (9), .invokevirtual 137, .aload 0, .dup, .invokeinterface 10 31, .sipush (1), .isub, .multianewarray 10 31, .aload 0, .dup, .invokeinterface 10 32, .sipush (1), .isub, .multianewarray 10 32, .goto 526]),
  (317, [.iload 2, .ifCond .lt 526, .aload 0, .sipush (10), .invokevirtual 137, .aload 0, .dup, .invokeinterface 10 31, .sipush (1), .isub, .multianewarray 10 31, .aload 0, .sipush (8), .aload 0, .invokeinterface 10 22, .iload 2, .iaload, .sipush (0), .invokevirtual 130, .aload 0, .sipush (0), .aload 0, .invokeinterface 10 21, .iload 2, .iaload, .sipush (0), .invokevirtual 130, .goto 526]),
  (365, [.aload 0, .sipush (11), .invokevirtual 137, .aload 0, .aload 0, .iload 2, .invokevirtual 139, .invokevirtual 137, .goto 526]),
  (383, [.aload 0, .sipush (8), .invokevirtual 137, .aload 0, .sipush (11), .aload 0, .invokeinterface 10 30, .iload 3, .invokevirtual 130, .aload 0, .sipush (0), .invokevirtual 138, .aload 0, .dup, .invokeinterface 10 31, .sipush (1), .isub, .multianewarray 10 31, .aload 0, .sipush (0), .aload 0, .iload 2, .sipush (2), .invokevirtual 123, .sipush (0), .invokevirtual 130, .goto 526]),
  (430, [.aload 0, .sipush (10), .invokevirtual 137, .aload 0, .sipush (7), .invokevirtual 137, .aload 0, .iload 3, .invokevirtual 138, .aload 0, .iload 2, .invokevirtual 140, .aload 0, .sipush (0), .invokevirtual 137, .aload 0, .sipush (0), .invokevirtual 138, .goto 526]),
  (465, [.aload 0, .sipush (12), .invokevirtual 137, .aload 0, .invokeinterface 10 41, .aload 0, .invokeinterface 10 34, .aload 0, .invokeinterface 10 30, .iastore, .aload 0, .invokeinterface 10 42, .aload 0, .invokeinterface 10 34, .iload 2, .iastore, .aload 0, .dup, .invokeinterface 10 34, .sipush (1), .iadd, .multianewarray 10 34, .aload 0, .sipush (0), .invokevirtual 138, .aload 0, .iload 3, .invokevirtual 137, .aload 0, .dup, .invokeinterface 10 31, .sipush (1), .iload 3, .isub, .iadd, .multianewarray 10 31, .goto_w 526]),
  (526, [.return_])]
def hq131 : List (List (List Nat)) := [[[], []],
  [[], [977], [], [], [], [], [], [], [1218, 1220, 58, 87, 1221], []],
  [[], [], [1233, 1235, 61, 87, 1236], []],
  [[], [], [], [], [], [980], [], [], [], [1210, 1212, 56, 87, 1213], [], [], [], [979], [], [], [], [1210, 1212, 56, 87, 1213], []],
  [[], [], [1237, 1239, 62, 87, 1240], [], [], [989], [], [], [989], []],
  [[], [], [1237, 1239, 62, 87, 1240], [], [], [], [], [988], [1210, 1212, 56, 87, 1213], [], [], [1241, 1243, 63, 87, 1244], [], [], [989], [], [], [989], [], [], [], [], [], [1184, 1186, 51, 87, 1187], [], [1210, 1212, 56, 87, 1213], []],
  [[], [], [1237, 1239, 62, 87, 1240], [], [], [], [988], [], [1210, 1212, 56, 87, 1213], [], [], [1241, 1243, 63, 87, 1244], [], [], [1249, 1251, 65, 87, 1252], [], [], [989], [], [], [989], [], [], [], [], [], [1184, 1186, 51, 87, 1187], [], [1210, 1212, 56, 87, 1213], []],
  [[], [], [1249, 1251, 65, 87, 1252], []],
  [[], [], [978], [], [], [], [1184, 1186, 51, 87, 1187], [], [], [989], [], [], [1202, 1204, 54, 87, 1205], [], [], [], [], [1210, 1212, 56, 87, 1213], [], [], [], [], [], [1184, 1186, 51, 87, 1187], [], [1210, 1212, 56, 87, 1213], []],
  [[], [], [1237, 1239, 62, 87, 1240], [], [], [989], [], [], [989], [], [], [990], [], [], [990], []],
  [[], [], [], [], [1237, 1239, 62, 87, 1240], [], [], [989], [], [], [989], [], [], [], [980], [], [], [], [1210, 1212, 56, 87, 1213], [], [], [], [979], [], [], [], [1210, 1212, 56, 87, 1213], []],
  [[], [], [1237, 1239, 62, 87, 1240], [], [], [], [1245, 1247, 64, 87, 1248], [1237, 1239, 62, 87, 1240], []],
  [[], [], [1237, 1239, 62, 87, 1240], [], [], [], [988], [], [1210, 1212, 56, 87, 1213], [], [], [1241, 1243, 63, 87, 1244], [], [], [989], [], [], [989], [], [], [], [], [], [1184, 1186, 51, 87, 1187], [], [1210, 1212, 56, 87, 1213], []],
  [[], [], [1237, 1239, 62, 87, 1240], [], [], [1237, 1239, 62, 87, 1240], [], [], [1241, 1243, 63, 87, 1244], [], [], [1249, 1251, 65, 87, 1252], [], [], [1237, 1239, 62, 87, 1240], [], [], [1241, 1243, 63, 87, 1244], []],
  [[], [], [1237, 1239, 62, 87, 1240], [], [999], [], [992], [], [988], [], [], [1000], [], [992], [], [], [], [], [992], [], [], [992], [], [], [1241, 1243, 63, 87, 1244], [], [], [1237, 1239, 62, 87, 1240], [], [], [989], [], [], [], [], [989], []],
  [[]]]
set_option maxRecDepth 100000 in
theorem cq131 : mm_chkM 131 bq131 hq131 = true := by decide +kernel
