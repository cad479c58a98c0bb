-- LispForgeModel.<init> ()V
def bq108_0 : List (Nat × List Instr) := [(0, [.aload 0, .invokespecial 0, .aload 0, .sipush (-1), .multianewarray 10 3, .aload 0, .sipush (120), .newarray .char, .multianewarray 10 5, .aload 0, .sipush (16), .newarray .int, .multianewarray 10 6, .aload 0, .sipush (16), .newarray .int, .multianewarray 10 7, .aload 0, .sipush (16), .newarray .int, .multianewarray 10 8, .aload 0, .sipush (16), .newarray .int, .multianewarray 10 9, .aload 0, .sipush (3200), .newarray .byte, .multianewarray 10 10, .aload 0, .sipush (16), .newarray .int, .multianewarray 10 11, .aload 0, .sipush (800), .newarray .int, .multianewarray 10 12, .aload 0, .sipush (800), .newarray .int, .multianewarray 10 13, .aload 0, .sipush (64), .newarray .int, .multianewarray 10 14, .aload 0, .sipush (1920), .newarray .char, .multianewarray 10 15, .aload 0, .sipush (16), .newarray .int, .multianewarray 10 16, .aload 0, .sipush (1300), .newarray .int, .multianewarray 10 19, .aload 0, .sipush (1300), .newarray .int, .multianewarray 10 20, .aload 0, .sipush (1300), .newarray .int, .multianewarray 10 21, .aload 0, .sipush (1300), .newarray .int, .multianewarray 10 22, .aload 0, .sipush (9), .newarray .int, .multianewarray 10 26, .aload 0, .sipush (9), .newarray .int, .multianewarray 10 27, .aload 0, .sipush (300), .newarray .int, .multianewarray 10 35, .aload 0, .sipush (300), .newarray .int, .multianewarray 10 36, .aload 0, .sipush (300), .newarray .int, .multianewarray 10 37, .aload 0, .sipush (260), .newarray .byte, .multianewarray 10 38, .aload 0, .sipush (120), .newarray .int, .multianewarray 10 39, .aload 0, .sipush (120), .newarray .int, .multianewarray 10 40, .aload 0, .sipush (70), .newarray .int, .multianewarray 10 41, .aload 0, .sipush (70), .newarray .int, .multianewarray 10 42, .aload 0, .sipush (16), .newarray .int, .multianewarray 10 44, .aload 0, .sipush (16), .newarray .int, .multianewarray 10 45, .aload 0, .sipush (600), .newarray .byte, .multianewarray 10 47, .aload 0, .sipush (120), .newarray .int, .multianewarray 10 54, .aload 0, .sipush (24), .newarray .int, .multianewarray 10 55, .aload 0, .sipush (24), .newarray .int, .multianewarray 10 56, .return_])]
def hq108_0 : List (List (List Nat)) := [[[], [957, 105, 106], [], [], [961], [], [], [1130], [963], [], [], [127], [964], [], [], [127], [965], [], [], [127], [966], [], [], [127], [967], [], [], [554], [968], [], [], [127], [969], [], [], [127], [970], [], [], [127], [971], [], [], [127], [972], [], [], [1130], [973], [], [], [127], [974], [], [], [127], [977], [], [], [127], [978], [], [], [127], [979], [], [], [127], [980], [], [], [127], [984], [], [], [127], [985], [], [], [127], [993], [], [], [127], [994], [], [], [127], [995], [], [], [554], [996], [], [], [127], [997], [], [], [127], [998], [], [], [127], [999], [], [], [127], [1000], [], [], [127], [1002], [], [], [127], [1003], [], [], [554], [1005], [], [], [127], [1012], [], [], [127], [1013], [], [], [127], [1014], []]]
set_option maxRecDepth 100000 in
theorem cq108_0 : mm_chkM 108 bq108_0 hq108_0 = true := by decide +kernel
-- LispForgeModel.write (J)Z
def bq109_0 : List (Nat × List Instr) := [(0, [.aload 0, .sipush (0), .multianewarray 10 0, .aload 0, .invokeinterface 10 1, .istore 3, .sipush (1), .istore 4, .sipush (7), .istore 5, .goto_w 17]),
  (17, [.iload 5, .ifCond .lt 101, .lload 1, .sipush (8), .iload 5, .imul, .lushr, .l2i, .sipush (255), .iand, .istore 6, .iload 4, .ifCond .eq 70, .iload 6, .ifCond .eq 66, .iload 6, .sipush (31), .if_icmp .le 70, .iload 6, .sipush (127), .if_icmp .ge 70, .iload 3, .sipush (120), .if_icmp .ge 70, .goto_w 66]),
  (66, [.sipush (1), .goto 71]),
  (70, [.sipush (0), .goto_w 71])]
def hq109_0 : List (List (List Nat)) := [[[], [], [958], [], [959], [], [], [], [], [], []],
  [[], [], [], [], [], [], [], [], [], [], [], [], [], [], [], [], [], [], [], [], [], [], [], [], []],
  [[], []],
  [[], []]]
set_option maxRecDepth 100000 in
theorem cq109_0 : mm_chkM 109 bq109_0 hq109_0 = true := by decide +kernel
def bq109_1 : List (Nat × List Instr) := [(71, [.istore 4, .iload 4, .ifCond .eq 95, .iload 6, .ifCond .eq 95, .aload 0, .invokeinterface 10 5, .iload 3, .iload 6, .i2c, .castore, .iinc 3 (1), .goto_w 95]),
  (95, [.iinc 5 (-1), .goto 17]),
  (101, [.aload 0, .iload 4, .ifCond .eq 111, .iload 3, .goto 115]),
  (111, [.aload 0, .invokeinterface 10 1, .goto_w 115]),
  (115, [.multianewarray 10 1, .iload 4, .freturn])]
def hq109_1 : List (List (List Nat)) := [[[], [], [], [], [], [], [963], [], [], [], [], [], []],
  [[], []],
  [[], [], [], [], []],
  [[], [959], []],
  [[959], [], []]]
set_option maxRecDepth 100000 in
theorem cq109_1 : mm_chkM 109 bq109_1 hq109_1 = true := by decide +kernel
-- LispForgeModel.compile ()I
def bq110_0 : List (Nat × List Instr) := [(0, [.aload 0, .sipush (0), .multianewarray 10 17, .aload 0, .sipush (0), .multianewarray 10 18, .aload 0, .sipush (0), .multianewarray 10 32, .aload 0, .sipush (0), .multianewarray 10 28, .aload 0, .sipush (-1), .sipush (0), .sipush (-1), .invokevirtual 111, .istore 1, .aload 0, .aload 0, .invokeinterface 10 24, .multianewarray 10 3, .aload 0, .aload 0, .invokeinterface 10 24, .ifCond .lt 48, .sipush (1), .goto 49]),
  (48, [.sipush (0), .goto_w 49])]
def hq110_0 : List (List (List Nat)) := [[[], [], [975], [], [], [976], [], [], [990], [], [], [986], [], [], [], [], [1139, 1141, 43, 87, 1142], [], [], [], [982], [961], [], [], [982], [], [], []],
  [[], []]]
set_option maxRecDepth 100000 in
theorem cq110_0 : mm_chkM 110 bq110_0 hq110_0 = true := by decide +kernel
def bq110_1 : List (Nat × List Instr) := [(49, [.multianewarray 10 0, .sipush (0), .istore 2, .aload 0, .invokeinterface 10 0, .ifCond .ne 339, .aload 0, .iload 1, .invokevirtual 120, .istore 3, .iload 3, .sipush (109), .sipush (97), .sipush (99), .invokestatic 123, .if_icmp .ne 84, .sipush (1), .goto 85]),
  (84, [.sipush (0), .goto_w 85]),
  (85, [.istore 4, .iload 3, .sipush (100), .sipush (101), .sipush (102), .invokestatic 123, .if_icmp .ne 104, .sipush (1), .goto 105]),
  (104, [.sipush (0), .goto_w 105]),
  (105, [.istore 5, .sipush (0), .istore 6, .iload 4, .ifCond .ne 120, .iload 5, .ifCond .eq 191, .goto_w 120])]
def hq110_1 : List (List (List Nat)) := [[[958], [], [], [], [958], [], [], [], [1172, 1174, 49, 87, 1175], [], [], [], [], [], [1184, 1185, 87, 1186], [], [], []],
  [[], []],
  [[], [], [], [], [], [1184, 1185, 87, 1186], [], [], []],
  [[], []],
  [[], [], [], [], [], [], [], []]]
set_option maxRecDepth 100000 in
theorem cq110_1 : mm_chkM 110 bq110_1 hq110_1 = true := by decide +kernel
def bq110_2 : List (Nat × List Instr) := [(120, [.aload 0, .aload 0, .iload 1, .invokevirtual 121, .sipush (4), .if_icmp .ne 160, .aload 0, .aload 0, .iload 1, .sipush (1), .invokevirtual 122, .invokevirtual 124, .ifCond .eq 160, .aload 0, .invokeinterface 10 20, .aload 0, .iload 1, .sipush (1), .invokevirtual 122, .iaload, .invokestatic 125, .ifCond .eq 164, .goto_w 160]),
  (160, [.sipush (1), .goto 165]),
  (164, [.sipush (0), .goto_w 165]),
  (165, [.multianewarray 10 28, .aload 0, .invokeinterface 10 28, .ifCond .eq 179, .sipush (0), .goto 189]),
  (179, [.aload 0, .aload 0, .iload 1, .sipush (2), .invokevirtual 122, .invokevirtual 126, .goto_w 189]),
  (189, [.istore 6, .goto_w 191])]
def hq110_2 : List (List (List Nat)) := [[[], [], [], [1176, 1178, 50, 87, 1179], [], [], [], [], [], [], [1180, 1182, 51, 87, 1183], [1187, 1189, 52, 87, 1190], [], [], [978], [], [], [], [1180, 1182, 51, 87, 1183], [], [1191, 1192, 87, 1193], [], []],
  [[], []],
  [[], []],
  [[986], [], [986], [], [], []],
  [[], [], [], [], [1180, 1182, 51, 87, 1183], [1194, 1196, 53, 87, 1197], []],
  [[], []]]
set_option maxRecDepth 100000 in
theorem cq110_2 : mm_chkM 110 bq110_2 hq110_2 = true := by decide +kernel
def bq110_3 : List (Nat × List Instr) := [(191, [.aload 0, .invokeinterface 10 28, .ifCond .ne 236, .iload 4, .ifCond .ne 236, .aload 0, .iload 5, .ifCond .eq 218, .aload 0, .iload 1, .sipush (3), .invokevirtual 122, .goto 219]),
  (218, [.iload 1, .goto_w 219]),
  (219, [.iload 5, .ifCond .eq 229, .sipush (13), .goto 231]),
  (229, [.sipush (14), .goto_w 231]),
  (231, [.iload 6, .invokevirtual 128, .goto_w 236]),
  (236, [.aload 0, .aload 0, .invokeinterface 10 28, .ifCond .eq 248, .sipush (2), .goto 262]),
  (248, [.aload 0, .invokeinterface 10 2, .sipush (16), .if_icmp .ne 261, .sipush (3), .goto 262]),
  (261, [.sipush (0), .goto_w 262])]
def hq110_3 : List (List (List Nat)) := [[[], [986], [], [], [], [], [], [], [], [], [], [1180, 1182, 51, 87, 1183], []],
  [[], []],
  [[], [], [], []],
  [[], []],
  [[], [1202, 1204, 55, 87, 1205], []],
  [[], [], [986], [], [], []],
  [[], [960], [], [], [], []],
  [[], []]]
set_option maxRecDepth 100000 in
theorem cq110_3 : mm_chkM 110 bq110_3 hq110_3 = true := by decide +kernel
def bq110_4 : List (Nat × List Instr) := [(262, [.multianewarray 10 0, .aload 0, .invokeinterface 10 0, .ifCond .ne 339, .aload 0, .iload 4, .ifCond .eq 282, .sipush (2), .goto 292]),
  (282, [.iload 5, .ifCond .eq 291, .sipush (1), .goto 292]),
  (291, [.sipush (0), .goto_w 292]),
  (292, [.iload 4, .ifCond .ne 302, .iload 5, .ifCond .eq 316, .goto_w 302]),
  (302, [.aload 0, .invokeinterface 10 20, .aload 0, .iload 1, .sipush (1), .invokevirtual 122, .iaload, .goto 317]),
  (316, [.sipush (0), .goto_w 317]),
  (317, [.iload 6, .iload 4, .ifCond .eq 331, .aload 0, .invokevirtual 140, .goto 335]),
  (331, [.aload 0, .invokeinterface 10 1, .goto_w 335]),
  (335, [.invokevirtual 141, .istore 2, .goto_w 339])]
def hq110_4 : List (List (List Nat)) := [[[958], [], [958], [], [], [], [], [], []],
  [[], [], [], []],
  [[], []],
  [[], [], [], [], []],
  [[], [978], [], [], [], [1180, 1182, 51, 87, 1183], [], []],
  [[], []],
  [[], [], [], [], [1249, 1251, 66, 87, 1252], []],
  [[], [959], []],
  [[1253, 1255, 67, 87, 1256], [], []]]
set_option maxRecDepth 100000 in
theorem cq110_4 : mm_chkM 110 bq110_4 hq110_4 = true := by decide +kernel
def bq110_5 : List (Nat × List Instr) := [(339, [.aload 0, .sipush (0), .multianewarray 10 1, .iload 2, .ireturn])]
def hq110_5 : List (List (List Nat)) := [[[], [], [959], [], []]]
set_option maxRecDepth 100000 in
theorem cq110_5 : mm_chkM 110 bq110_5 hq110_5 = true := by decide +kernel
