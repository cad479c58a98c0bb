-- LispForgeModel.image (I)I
def bq157_0 : List (Nat × List Instr) := [(0, [.aload 0, .sipush (0), .multianewarray 10 0, .iload 1, .sipush (-1), .if_icmp .ne 17, .aload 0, .invokeinterface 10 46, .goto 43]),
  (17, [.iload 1, .ifCond .lt 42, .iload 1, .aload 0, .invokeinterface 10 46, .if_icmp .ge 42, .aload 0, .invokeinterface 10 47, .iload 1, .baload, .sipush (255), .iand, .goto 43]),
  (42, [.sipush (-1), .goto_w 43]),
  (43, [.ireturn])]
def hq157_0 : List (List (List Nat)) := [[[], [], [958], [], [], [], [], [1004], []],
  [[], [], [], [], [1004], [], [], [1005], [], [], [], [], []],
  [[], []],
  [[]]]
set_option maxRecDepth 100000 in
theorem cq157_0 : mm_chkM 157 bq157_0 hq157_0 = true := by decide +kernel
-- LispForgeModel.restart ()Z
def bq158_0 : List (Nat × List Instr) := [(0, [.aload 0, .sipush (0), .multianewarray 10 0, .aload 0, .invokeinterface 10 46, .ifCond .ne 14, .sipush (0), .freturn]),
  (14, [.aload 0, .invokevirtual 155, .sipush (1), .freturn])]
def hq158_0 : List (List (List Nat)) := [[[], [], [958], [], [1004], [], [], []],
  [[], [1308, 1310, 73, 87, 1311], [], []]]
set_option maxRecDepth 100000 in
theorem cq158_0 : mm_chkM 158 bq158_0 hq158_0 = true := by decide +kernel
-- LispForgeModel.run (I)I
def bq159_0 : List (Nat × List Instr) := [(0, [.aload 0, .iload 1, .ifCond .lt 12, .iload 1, .sipush (500), .if_icmp .le 16, .goto_w 12]),
  (12, [.sipush (1), .goto 17]),
  (16, [.sipush (0), .goto_w 17]),
  (17, [.multianewarray 10 0, .sipush (0), .istore 2, .goto_w 22]),
  (22, [.aload 0, .invokeinterface 10 0, .ifCond .ne 52, .iload 2, .iload 1, .if_icmp .ge 52, .aload 0, .invokeinterface 10 48, .sipush (1), .if_icmp .ne 52, .aload 0, .invokevirtual 160, .iinc 2 (1), .goto 22]),
  (52, [.iload 2, .ireturn])]
def hq159_0 : List (List (List Nat)) := [[[], [], [], [], [], [], []],
  [[], []],
  [[], []],
  [[958], [], [], []],
  [[], [958], [], [], [], [], [], [1006], [], [], [], [1328, 1330, 74, 87, 1331], [], []],
  [[], []]]
set_option maxRecDepth 100000 in
theorem cq159_0 : mm_chkM 159 bq159_0 hq159_0 = true := by decide +kernel
-- LispForgeModel.about (I)I
def bq164_0 : List (Nat × List Instr) := [(0, [.aload 0, .sipush (0), .multianewarray 10 0, .iload 1, .lookupswitch 74 #[(0, 44), (1, 49), (2, 54), (3, 59), (4, 64), (5, 69)]]),
  (44, [.aload 0, .invokeinterface 10 48, .ireturn]),
  (49, [.aload 0, .invokeinterface 10 49, .ireturn]),
  (54, [.aload 0, .invokeinterface 10 50, .ireturn]),
  (59, [.aload 0, .invokeinterface 10 51, .ireturn]),
  (64, [.aload 0, .invokeinterface 10 52, .ireturn]),
  (69, [.aload 0, .invokeinterface 10 53, .ireturn]),
  (74, [.sipush (-1), .ireturn])]
def hq164_0 : List (List (List Nat)) := [[[], [], [958], [], []],
  [[], [1006], []],
  [[], [1007], []],
  [[], [1008], []],
  [[], [1009], []],
  [[], [1010], []],
  [[], [1011], []],
  [[], []]]
set_option maxRecDepth 100000 in
theorem cq164_0 : mm_chkM 164 bq164_0 hq164_0 = true := by decide +kernel
-- LispForgeModel.stack (I)I
def bq165_0 : List (Nat × List Instr) := [(0, [.aload 0, .sipush (0), .multianewarray 10 0, .iload 1, .ifCond .lt 26, .iload 1, .aload 0, .invokeinterface 10 51, .if_icmp .ge 26, .aload 0, .invokeinterface 10 54, .iload 1, .iaload, .goto 27]),
  (26, [.sipush (0), .goto_w 27]),
  (27, [.ireturn])]
def hq165_0 : List (List (List Nat)) := [[[], [], [958], [], [], [], [], [1009], [], [], [1012], [], [], []],
  [[], []],
  [[]]]
set_option maxRecDepth 100000 in
theorem cq165_0 : mm_chkM 165 bq165_0 hq165_0 = true := by decide +kernel
-- LispForgeModel.top ()I
def bq166_0 : List (Nat × List Instr) := [(0, [.aload 0, .sipush (0), .multianewarray 10 0, .aload 0, .invokeinterface 10 51, .ifCond .le 26, .aload 0, .invokeinterface 10 54, .aload 0, .invokeinterface 10 51, .sipush (1), .isub, .iaload, .goto 27]),
  (26, [.sipush (0), .goto_w 27]),
  (27, [.ireturn])]
def hq166_0 : List (List (List Nat)) := [[[], [], [958], [], [1009], [], [], [1012], [], [1009], [], [], [], []],
  [[], []],
  [[]]]
set_option maxRecDepth 100000 in
theorem cq166_0 : mm_chkM 166 bq166_0 hq166_0 = true := by decide +kernel
-- LispForgeLaw.law ([I)Z
def bq167_0 : List (Nat × List Instr) := [(0, [.new 0, .dup, .invokevirtual 0, .astore 1, .new 10, .dup, .invokevirtual 108, .astore 2, .sipush (1), .newarray .long, .astore 3, .sipush (0), .istore 4, .goto_w 23]),
  (23, [.iload 4, .aload 0, .arraylength, .sipush (3), .isub, .if_icmp .gt 486, .aload 0, .iload 4, .iaload, .sipush (15), .iand, .lookupswitch 480 #[(0, 104), (1, 161), (2, 205), (3, 218), (4, 255), (5, 266), (6, 310), (7, 323), (8, 348), (9, 361), (10, 417), (11, 442), (12, 467)]])]
def hq167_0 : List (List (List Nat)) := [[[99, 100, 79], [], [101, 102, 79, 103], [], [952, 953, 87], [], [954, 955, 87, 956], [], [], [1357], [], [], [], []],
  [[], [], [], [], [], [], [], [], [], [], [], []]]
set_option maxRecDepth 100000 in
theorem cq167_0 : mm_chkM 167 bq167_0 hq167_0 = true := by decide +kernel
def bq167_1 : List (Nat × List Instr) := [(104, [.aload 1, .aload 0, .iload 4, .sipush (1), .iadd, .iaload, .i2l, .sipush (32), .lshl, .aload 0, .iload 4, .sipush (2), .iadd, .iaload, .i2l, .jsr (4294967295), .land, .lor, .invokevirtual 8, .aload 2, .aload 0, .iload 4, .sipush (1), .iadd, .iaload, .i2l, .sipush (32), .lshl, .aload 0, .iload 4, .sipush (2), .iadd, .iaload, .i2l, .jsr (4294967295), .land, .lor, .invokevirtual 110, .if_icmp .eq 480, .sipush (0), .freturn])]
def hq167_1 : List (List (List Nat)) := [[[], [], [], [], [], [], [], [], [], [], [], [], [], [], [], [1356], [], [], [313, 314, 315, 79, 316], [], [], [], [], [], [], [], [], [], [], [], [], [], [], [], [1356], [], [], [1135, 1136, 1137, 87, 1138], [], [], []]]
set_option maxRecDepth 100000 in
theorem cq167_1 : mm_chkM 167 bq167_1 hq167_1 = true := by decide +kernel
def bq167_2 : List (Nat × List Instr) := [(161, [.aload 1, .aload 3, .putstatic 168, .istore 5, .aload 2, .invokevirtual 111, .istore 6, .aload 2, .invokevirtual 109, .iload 5, .if_icmp .eq 185, .sipush (0), .freturn]),
  (185, [.iload 5, .ifCond .ne 202, .aload 3, .sipush (0), .laload, .iload 6, .i2l, .lcmp, .ifCond .eq 202, .sipush (0), .freturn]),
  (202, [.goto 480]),
  (205, [.aload 1, .invokevirtual 12, .aload 2, .invokevirtual 143, .if_icmp .eq 480, .sipush (0), .freturn])]
def hq167_2 : List (List (List Nat)) := [[[], [], [388, 389, 78, 390], [], [], [1139, 1140, 1141, 87, 1142], [], [], [1131, 1132, 1133, 87, 1134], [], [], [], []],
  [[], [], [], [], [], [], [], [], [], [], []],
  [[]],
  [[], [328, 329, 330, 79, 331], [], [1261, 1262, 1263, 87, 1264], [], [], []]]
set_option maxRecDepth 100000 in
theorem cq167_2 : mm_chkM 167 bq167_2 hq167_2 = true := by decide +kernel
def bq167_3 : List (Nat × List Instr) := [(218, [.aload 1, .aload 0, .iload 4, .sipush (1), .iadd, .iaload, .aload 0, .iload 4, .sipush (2), .iadd, .iaload, .invokevirtual 13, .aload 2, .aload 0, .iload 4, .sipush (1), .iadd, .iaload, .aload 0, .iload 4, .sipush (2), .iadd, .iaload, .invokevirtual 144, .if_icmp .eq 480, .sipush (0), .freturn]),
  (255, [.aload 1, .invokevirtual 17, .aload 2, .invokevirtual 147, .goto 480]),
  (266, [.aload 1, .aload 3, .putstatic 169, .istore 5, .aload 2, .invokevirtual 148, .istore 6, .aload 2, .invokevirtual 109, .iload 5, .if_icmp .eq 290, .sipush (0), .freturn])]
def hq167_3 : List (List (List Nat)) := [[[], [], [], [], [], [], [], [], [], [], [], [332, 333, 334, 79, 335], [], [], [], [], [], [], [], [], [], [], [], [1265, 1266, 1267, 87, 1268], [], [], []],
  [[], [348, 349, 350, 79, 351], [], [1277, 1278, 1279, 87, 1280], []],
  [[], [], [850, 851, 78, 852], [], [], [1281, 1282, 1283, 87, 1284], [], [], [1131, 1132, 1133, 87, 1134], [], [], [], []]]
set_option maxRecDepth 100000 in
theorem cq167_3 : mm_chkM 167 bq167_3 hq167_3 = true := by decide +kernel
def bq167_4 : List (Nat × List Instr) := [(290, [.iload 5, .ifCond .ne 307, .aload 3, .sipush (0), .laload, .iload 6, .i2l, .lcmp, .ifCond .eq 307, .sipush (0), .freturn]),
  (307, [.goto 480]),
  (310, [.aload 1, .invokevirtual 19, .aload 2, .invokevirtual 156, .if_icmp .eq 480, .sipush (0), .freturn]),
  (323, [.aload 1, .aload 0, .iload 4, .sipush (1), .iadd, .iaload, .invokevirtual 20, .aload 2, .aload 0, .iload 4, .sipush (1), .iadd, .iaload, .invokevirtual 157, .if_icmp .eq 480, .sipush (0), .freturn]),
  (348, [.aload 1, .invokevirtual 21, .aload 2, .invokevirtual 158, .if_icmp .eq 480, .sipush (0), .freturn])]
def hq167_4 : List (List (List Nat)) := [[[], [], [], [], [], [], [], [], [], [], []],
  [[]],
  [[], [356, 357, 358, 79, 359], [], [1312, 1313, 1314, 87, 1315], [], [], []],
  [[], [], [], [], [], [], [360, 361, 362, 79, 363], [], [], [], [], [], [], [1316, 1317, 1318, 87, 1319], [], [], []],
  [[], [364, 365, 366, 79, 367], [], [1320, 1321, 1322, 87, 1323], [], [], []]]
set_option maxRecDepth 100000 in
theorem cq167_4 : mm_chkM 167 bq167_4 hq167_4 = true := by decide +kernel
def bq167_5 : List (Nat × List Instr) := [(361, [.aload 1, .aload 0, .iload 4, .sipush (1), .iadd, .iaload, .aload 3, .putstatic 170, .istore 5, .aload 2, .aload 0, .iload 4, .sipush (1), .iadd, .iaload, .invokevirtual 159, .istore 6, .aload 2, .invokevirtual 109, .iload 5, .if_icmp .eq 397, .sipush (0), .freturn]),
  (397, [.iload 5, .ifCond .ne 414, .aload 3, .sipush (0), .laload, .iload 6, .i2l, .lcmp, .ifCond .eq 414, .sipush (0), .freturn]),
  (414, [.goto 480])]
def hq167_5 : List (List (List Nat)) := [[[], [], [], [], [], [], [], [900, 901, 78, 902], [], [], [], [], [], [], [], [1324, 1325, 1326, 87, 1327], [], [], [1131, 1132, 1133, 87, 1134], [], [], [], []],
  [[], [], [], [], [], [], [], [], [], [], []],
  [[]]]
set_option maxRecDepth 100000 in
theorem cq167_5 : mm_chkM 167 bq167_5 hq167_5 = true := by decide +kernel
def bq167_6 : List (Nat × List Instr) := [(417, [.aload 1, .aload 0, .iload 4, .sipush (1), .iadd, .iaload, .invokevirtual 23, .aload 2, .aload 0, .iload 4, .sipush (1), .iadd, .iaload, .invokevirtual 164, .if_icmp .eq 480, .sipush (0), .freturn]),
  (442, [.aload 1, .aload 0, .iload 4, .sipush (1), .iadd, .iaload, .invokevirtual 24, .aload 2, .aload 0, .iload 4, .sipush (1), .iadd, .iaload, .invokevirtual 165, .if_icmp .eq 480, .sipush (0), .freturn]),
  (467, [.aload 1, .invokevirtual 26, .aload 2, .invokevirtual 166, .if_icmp .eq 480, .sipush (0), .freturn]),
  (480, [.iinc 4 (3), .goto 23]),
  (486, [.sipush (1), .freturn])]
def hq167_6 : List (List (List Nat)) := [[[], [], [], [], [], [], [372, 373, 374, 79, 375], [], [], [], [], [], [], [1344, 1345, 1346, 87, 1347], [], [], []],
  [[], [], [], [], [], [], [376, 377, 378, 79, 379], [], [], [], [], [], [], [1348, 1349, 1350, 87, 1351], [], [], []],
  [[], [384, 385, 386, 79, 387], [], [1352, 1353, 1354, 87, 1355], [], [], []],
  [[], []],
  [[], []]]
set_option maxRecDepth 100000 in
theorem cq167_6 : mm_chkM 167 bq167_6 hq167_6 = true := by decide +kernel
-- LispForgeLaw.compile (LLispForge;[J)I
def bq168_0 : List (Nat × List Instr) := [(0, [.aload 1, .sipush (0), .aload 0, .goto_w 3]),
  (6, [.i2l, .lastore, .goto 20]),
  (20, [.sipush (0), .ireturn])]
def hq168_0 : List (List (List Nat)) := [[[], [], [], []],
  [[], [], []],
  [[], []]]
set_option maxRecDepth 100000 in
theorem cq168_0 : mm_chkM 168 bq168_0 hq168_0 = true := by decide +kernel
-- LispForgeLaw.link (LLispForge;[J)I
def bq169_0 : List (Nat × List Instr) := [(0, [.aload 1, .sipush (0), .aload 0, .goto_w 3]),
  (6, [.i2l, .lastore, .goto 14]),
  (14, [.sipush (0), .ireturn])]
def hq169_0 : List (List (List Nat)) := [[[], [], [], []],
  [[], [], []],
  [[], []]]
set_option maxRecDepth 100000 in
theorem cq169_0 : mm_chkM 169 bq169_0 hq169_0 = true := by decide +kernel
-- LispForgeLaw.run (LLispForge;I[J)I
def bq170_0 : List (Nat × List Instr) := [(0, [.aload 2, .sipush (0), .aload 0, .iload 1, .goto_w 4]),
  (7, [.i2l, .lastore, .goto 15]),
  (15, [.sipush (0), .ireturn])]
def hq170_0 : List (List (List Nat)) := [[[], [], [], [], []],
  [[], [], []],
  [[], []]]
set_option maxRecDepth 100000 in
theorem cq170_0 : mm_chkM 170 bq170_0 hq170_0 = true := by decide +kernel
