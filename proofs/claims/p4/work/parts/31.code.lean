-- LispForgeLaw.law ([I)Z
def bq166_0 : List (Nat × List Instr) := [(0, [.new 0, .dup, .invokevirtual 0, .astore 1, .new 10, .dup, .invokevirtual 108, .astore 2, .sipush (1), .newarray .long, .astore 3, .sipush (0), .istore 4, .goto_w 23]),
  (23, [.iload 4, .aload 0, .arraylength, .sipush (3), .isub, .if_icmp .gt 402, .aload 0, .iload 4, .iaload, .sipush (15), .iand, .lookupswitch 396 #[(0, 104), (1, 161), (2, 177), (3, 190), (4, 227), (5, 238), (6, 254), (7, 267), (8, 292), (9, 305), (10, 333), (11, 358), (12, 383)]])]
def hq166_0 : List (List (List Nat)) := [[[99, 100, 79], [], [101, 102, 79, 103], [], [952, 953, 87], [], [954, 955, 87, 956], [], [], [1353], [], [], [], []],
  [[], [], [], [], [], [], [], [], [], [], [], []]]
set_option maxRecDepth 100000 in
theorem cq166_0 : mm_chkM 166 bq166_0 hq166_0 = true := by decide +kernel
def bq166_1 : List (Nat × List Instr) := [(104, [.aload 1, .aload 0, .iload 4, .sipush (1), .iadd, .iaload, .i2l, .sipush (32), .lshl, .aload 0, .iload 4, .sipush (2), .iadd, .iaload, .i2l, .jsr (4294967295), .land, .lor, .invokevirtual 8, .pop, .aload 2, .aload 0, .iload 4, .sipush (1), .iadd, .iaload, .i2l, .sipush (32), .lshl, .aload 0, .iload 4, .sipush (2), .iadd, .iaload, .i2l, .jsr (4294967295), .land, .lor, .invokevirtual 109, .pop, .goto 396])]
def hq166_1 : List (List (List Nat)) := [[[], [], [], [], [], [], [], [], [], [], [], [], [], [], [], [1352], [], [], [313, 314, 315, 79, 316], [], [], [], [], [], [], [], [], [], [], [], [], [], [], [], [], [1352], [], [], [1131, 1132, 1133, 87, 1134], [], []]]
set_option maxRecDepth 100000 in
theorem cq166_1 : mm_chkM 166 bq166_1 hq166_1 = true := by decide +kernel
def bq166_2 : List (Nat × List Instr) := [(161, [.aload 1, .aload 3, .putstatic 167, .istore 5, .aload 2, .invokevirtual 110, .istore 6, .goto 396]),
  (177, [.aload 1, .invokevirtual 12, .aload 2, .invokevirtual 142, .if_icmp .eq 396, .sipush (0), .freturn]),
  (190, [.aload 1, .aload 0, .iload 4, .sipush (1), .iadd, .iaload, .aload 0, .iload 4, .sipush (2), .iadd, .iaload, .invokevirtual 13, .pop, .aload 2, .aload 0, .iload 4, .sipush (1), .iadd, .iaload, .aload 0, .iload 4, .sipush (2), .iadd, .iaload, .invokevirtual 143, .pop, .goto 396])]
def hq166_2 : List (List (List Nat)) := [[[], [], [388, 389, 78, 390], [], [], [1135, 1136, 1137, 87, 1138], [], []],
  [[], [328, 329, 330, 79, 331], [], [1257, 1258, 1259, 87, 1260], [], [], []],
  [[], [], [], [], [], [], [], [], [], [], [], [332, 333, 334, 79, 335], [], [], [], [], [], [], [], [], [], [], [], [], [1261, 1262, 1263, 87, 1264], [], []]]
set_option maxRecDepth 100000 in
theorem cq166_2 : mm_chkM 166 bq166_2 hq166_2 = true := by decide +kernel
def bq166_3 : List (Nat × List Instr) := [(227, [.aload 1, .invokevirtual 17, .aload 2, .invokevirtual 146, .goto 396]),
  (238, [.aload 1, .aload 3, .putstatic 168, .istore 5, .aload 2, .invokevirtual 147, .istore 6, .goto 396]),
  (254, [.aload 1, .invokevirtual 19, .pop, .aload 2, .invokevirtual 155, .pop, .goto 396]),
  (267, [.aload 1, .aload 0, .iload 4, .sipush (1), .iadd, .iaload, .invokevirtual 20, .pop, .aload 2, .aload 0, .iload 4, .sipush (1), .iadd, .iaload, .invokevirtual 156, .pop, .goto 396]),
  (292, [.aload 1, .invokevirtual 21, .pop, .aload 2, .invokevirtual 157, .pop, .goto 396])]
def hq166_3 : List (List (List Nat)) := [[[], [348, 349, 350, 79, 351], [], [1273, 1274, 1275, 87, 1276], []],
  [[], [], [850, 851, 78, 852], [], [], [1277, 1278, 1279, 87, 1280], [], []],
  [[], [356, 357, 358, 79, 359], [], [], [1308, 1309, 1310, 87, 1311], [], []],
  [[], [], [], [], [], [], [360, 361, 362, 79, 363], [], [], [], [], [], [], [], [1312, 1313, 1314, 87, 1315], [], []],
  [[], [364, 365, 366, 79, 367], [], [], [1316, 1317, 1318, 87, 1319], [], []]]
set_option maxRecDepth 100000 in
theorem cq166_3 : mm_chkM 166 bq166_3 hq166_3 = true := by decide +kernel
def bq166_4 : List (Nat × List Instr) := [(305, [.aload 1, .aload 0, .iload 4, .sipush (1), .iadd, .iaload, .aload 3, .putstatic 169, .istore 5, .aload 2, .aload 0, .iload 4, .sipush (1), .iadd, .iaload, .invokevirtual 158, .istore 6, .goto 396]),
  (333, [.aload 1, .aload 0, .iload 4, .sipush (1), .iadd, .iaload, .invokevirtual 23, .pop, .aload 2, .aload 0, .iload 4, .sipush (1), .iadd, .iaload, .invokevirtual 163, .pop, .goto 396])]
def hq166_4 : List (List (List Nat)) := [[[], [], [], [], [], [], [], [900, 901, 78, 902], [], [], [], [], [], [], [], [1320, 1321, 1322, 87, 1323], [], []],
  [[], [], [], [], [], [], [372, 373, 374, 79, 375], [], [], [], [], [], [], [], [1340, 1341, 1342, 87, 1343], [], []]]
set_option maxRecDepth 100000 in
theorem cq166_4 : mm_chkM 166 bq166_4 hq166_4 = true := by decide +kernel
def bq166_5 : List (Nat × List Instr) := [(358, [.aload 1, .aload 0, .iload 4, .sipush (1), .iadd, .iaload, .invokevirtual 24, .pop, .aload 2, .aload 0, .iload 4, .sipush (1), .iadd, .iaload, .invokevirtual 164, .pop, .goto 396]),
  (383, [.aload 1, .invokevirtual 26, .pop, .aload 2, .invokevirtual 165, .pop, .goto 396]),
  (396, [.iinc 4 (3), .goto 23]),
  (402, [.sipush (1), .freturn])]
def hq166_5 : List (List (List Nat)) := [[[], [], [], [], [], [], [376, 377, 378, 79, 379], [], [], [], [], [], [], [], [1344, 1345, 1346, 87, 1347], [], []],
  [[], [384, 385, 386, 79, 387], [], [], [1348, 1349, 1350, 87, 1351], [], []],
  [[], []],
  [[], []]]
set_option maxRecDepth 100000 in
theorem cq166_5 : mm_chkM 166 bq166_5 hq166_5 = true := by decide +kernel
-- LispForgeLaw.compile (LLispForge;[J)I
def bq167_0 : List (Nat × List Instr) := [(0, [.aload 1, .sipush (0), .aload 0, .goto_w 3]),
  (6, [.i2l, .lastore, .goto 20]),
  (20, [.sipush (0), .ireturn])]
def hq167_0 : List (List (List Nat)) := [[[], [], [], []],
  [[], [], []],
  [[], []]]
set_option maxRecDepth 100000 in
theorem cq167_0 : mm_chkM 167 bq167_0 hq167_0 = true := by decide +kernel
-- LispForgeLaw.link (LLispForge;[J)I
def bq168_0 : List (Nat × List Instr) := [(0, [.aload 1, .sipush (0), .aload 0, .goto_w 3]),
  (6, [.i2l, .lastore, .goto 14]),
  (14, [.sipush (0), .ireturn])]
def hq168_0 : List (List (List Nat)) := [[[], [], [], []],
  [[], [], []],
  [[], []]]
set_option maxRecDepth 100000 in
theorem cq168_0 : mm_chkM 168 bq168_0 hq168_0 = true := by decide +kernel
-- LispForgeLaw.run (LLispForge;I[J)I
def bq169_0 : List (Nat × List Instr) := [(0, [.aload 2, .sipush (0), .aload 0, .iload 1, .goto_w 4]),
  (7, [.i2l, .lastore, .goto 15]),
  (15, [.sipush (0), .ireturn])]
def hq169_0 : List (List (List Nat)) := [[[], [], [], [], []],
  [[], [], []],
  [[], []]]
set_option maxRecDepth 100000 in
theorem cq169_0 : mm_chkM 169 bq169_0 hq169_0 = true := by decide +kernel
