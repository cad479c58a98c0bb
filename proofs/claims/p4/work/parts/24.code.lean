-- LispForgeModel.symbolForm (II)I
def bq119_0 : List (Nat × List Instr) := [(0, [.aload 0, .iload 1, .aload 0, .invokeinterface 10 23, .invokevirtual 112, .istore 3, .aload 0, .dup, .invokeinterface 10 23, .sipush (1), .iadd, .multianewarray 10 23, .sipush (1), .istore 4, .goto_w 23])]
def hq119_0 : List (List (List Nat)) := [[[], [], [], [981], [1143, 1145, 44, 87, 1146], [], [], [], [981], [], [], [981], [], [], []]]
set_option maxRecDepth 100000 in
theorem cq119_0 : mm_chkM 119 bq119_0 hq119_0 = true := by decide +kernel
def bq119_1 : List (Nat × List Instr) := [(23, [.iload 4, .sipush (4), .if_icmp .ge 86, .iload 3, .sipush (255), .iand, .invokestatic 114, .ifCond .eq 86, .aload 0, .iload 1, .aload 0, .invokeinterface 10 23, .invokevirtual 112, .invokestatic 114, .ifCond .eq 86, .iload 3, .sipush (8), .ishl, .aload 0, .iload 1, .aload 0, .invokeinterface 10 23, .invokevirtual 112, .ior, .istore 3, .aload 0, .dup, .invokeinterface 10 23, .sipush (1), .iadd, .multianewarray 10 23, .iinc 4 (1), .goto 23]),
  (86, [.iload 2, .istore 4, .sipush (0), .istore 5, .goto_w 92])]
def hq119_1 : List (List (List Nat)) := [[[], [], [], [], [], [], [1150, 1151, 87, 1152], [], [], [], [], [981], [1143, 1145, 44, 87, 1146], [1150, 1151, 87, 1152], [], [], [], [], [], [], [], [981], [1143, 1145, 44, 87, 1146], [], [], [], [], [981], [], [], [981], [], []],
  [[], [], [], [], []]]
set_option maxRecDepth 100000 in
theorem cq119_1 : mm_chkM 119 bq119_1 hq119_1 = true := by decide +kernel
def bq119_2 : List (Nat × List Instr) := [(92, [.iload 1, .ifCond .lt 145, .iload 5, .aload 0, .invokeinterface 10 8, .iload 1, .iaload, .if_icmp .ge 145, .aload 0, .invokeinterface 10 14, .sipush (4), .iload 1, .imul, .iload 5, .iadd, .iaload, .iload 3, .if_icmp .ne 130, .aload 0, .invokeinterface 10 21, .iload 4, .iaload, .ireturn]),
  (130, [.aload 0, .invokeinterface 10 22, .iload 4, .iaload, .istore 4, .iinc 5 (1), .goto 92]),
  (145, [.aload 0, .sipush (1), .iload 3, .invokevirtual 116, .ireturn])]
def hq119_2 : List (List (List Nat)) := [[[], [], [], [], [966], [], [], [], [], [972], [], [], [], [], [], [], [], [], [], [979], [], [], []],
  [[], [980], [], [], [], [], []],
  [[], [], [], [1156, 1158, 45, 87, 1159], []]]
set_option maxRecDepth 100000 in
theorem cq119_2 : mm_chkM 119 bq119_2 hq119_2 = true := by decide +kernel
-- LispForgeModel.head (I)I
def bq120_0 : List (Nat × List Instr) := [(0, [.aload 0, .iload 1, .invokevirtual 121, .istore 2, .iload 2, .ifCond .le 39, .aload 0, .invokeinterface 10 19, .aload 0, .iload 1, .sipush (0), .invokevirtual 122, .iaload, .sipush (1), .if_icmp .ne 39, .aload 0, .invokeinterface 10 20, .aload 0, .iload 1, .sipush (0), .invokevirtual 122, .iaload, .goto 40]),
  (39, [.sipush (0), .goto_w 40]),
  (40, [.ireturn])]
def hq120_0 : List (List (List Nat)) := [[[], [], [1176, 1178, 50, 87, 1179], [], [], [], [], [977], [], [], [], [1180, 1182, 51, 87, 1183], [], [], [], [], [978], [], [], [], [1180, 1182, 51, 87, 1183], [], []],
  [[], []],
  [[]]]
set_option maxRecDepth 100000 in
theorem cq120_0 : mm_chkM 120 bq120_0 hq120_0 = true := by decide +kernel
-- LispForgeModel.count (I)I
def bq121_0 : List (Nat × List Instr) := [(0, [.sipush (0), .istore 2, .aload 0, .invokeinterface 10 19, .iload 1, .iaload, .sipush (2), .if_icmp .ne 21, .aload 0, .invokeinterface 10 20, .iload 1, .iaload, .goto 22]),
  (21, [.sipush (-1), .goto_w 22]),
  (22, [.istore 3, .goto_w 23]),
  (23, [.iload 3, .ifCond .lt 40, .iinc 2 (1), .aload 0, .invokeinterface 10 22, .iload 3, .iaload, .istore 3, .goto 23]),
  (40, [.iload 2, .ireturn])]
def hq121_0 : List (List (List Nat)) := [[[], [], [], [977], [], [], [], [], [], [978], [], [], []],
  [[], []],
  [[], []],
  [[], [], [], [], [980], [], [], [], []],
  [[], []]]
set_option maxRecDepth 100000 in
theorem cq121_0 : mm_chkM 121 bq121_0 hq121_0 = true := by decide +kernel
-- LispForgeModel.part (II)I
def bq122_0 : List (Nat × List Instr) := [(0, [.aload 0, .invokeinterface 10 20, .iload 1, .iaload, .istore 3, .sipush (0), .istore 4, .goto_w 10]),
  (10, [.iload 4, .iload 2, .if_icmp .ge 29, .aload 0, .invokeinterface 10 22, .iload 3, .iaload, .istore 3, .iinc 4 (1), .goto 10]),
  (29, [.aload 0, .invokeinterface 10 21, .iload 3, .iaload, .ireturn])]
def hq122_0 : List (List (List Nat)) := [[[], [978], [], [], [], [], [], []],
  [[], [], [], [], [980], [], [], [], [], []],
  [[], [979], [], [], []]]
set_option maxRecDepth 100000 in
theorem cq122_0 : mm_chkM 122 bq122_0 hq122_0 = true := by decide +kernel
-- LispForgeModel.word (III)I
def bq123_0 : List (Nat × List Instr) := [(0, [.iload 0, .sipush (16), .ishl, .iload 1, .sipush (8), .ishl, .ior, .iload 2, .ior, .ireturn])]
def hq123_0 : List (List (List Nat)) := [[[], [], [], [], [], [], [], [], [], []]]
set_option maxRecDepth 100000 in
theorem cq123_0 : mm_chkM 123 bq123_0 hq123_0 = true := by decide +kernel
-- LispForgeModel.isSymbol (I)Z
def bq124_0 : List (Nat × List Instr) := [(0, [.aload 0, .invokeinterface 10 19, .iload 1, .iaload, .sipush (1), .if_icmp .ne 30, .aload 0, .invokeinterface 10 20, .iload 1, .iaload, .sipush (255), .iand, .invokestatic 114, .ifCond .eq 30, .sipush (1), .goto 31]),
  (30, [.sipush (0), .goto_w 31]),
  (31, [.freturn])]
def hq124_0 : List (List (List Nat)) := [[[], [977], [], [], [], [], [], [978], [], [], [], [], [1150, 1151, 87, 1152], [], [], []],
  [[], []],
  [[]]]
set_option maxRecDepth 100000 in
theorem cq124_0 : mm_chkM 124 bq124_0 hq124_0 = true := by decide +kernel
-- LispForgeModel.isWord (I)Z
def bq125_0 : List (Nat × List Instr) := [(0, [.iload 0, .sipush (100), .sipush (101), .sipush (102), .invokestatic 123, .if_icmp .eq 89, .iload 0, .sipush (109), .sipush (97), .sipush (99), .invokestatic 123, .if_icmp .eq 89, .iload 0, .sipush (0), .sipush (105), .sipush (102), .invokestatic 123, .if_icmp .eq 89, .iload 0, .sipush (108), .sipush (101), .sipush (116), .invokestatic 123, .if_icmp .eq 89, .iload 0, .sipush (0), .sipush (100), .sipush (111), .invokestatic 123, .if_icmp .eq 89, .iload 0, .sipush (115), .sipush (101), .sipush (116), .invokestatic 123, .if_icmp .eq 89, .iload 0, .sipush (114), .sipush (117), .sipush (110), .invokestatic 123, .if_icmp .ne 93, .goto_w 89]),
  (89, [.sipush (1), .goto 94])]
def hq125_0 : List (List (List Nat)) := [[[], [], [], [], [1184, 1185, 87, 1186], [], [], [], [], [], [1184, 1185, 87, 1186], [], [], [], [], [], [1184, 1185, 87, 1186], [], [], [], [], [], [1184, 1185, 87, 1186], [], [], [], [], [], [1184, 1185, 87, 1186], [], [], [], [], [], [1184, 1185, 87, 1186], [], [], [], [], [], [1184, 1185, 87, 1186], [], []],
  [[], []]]
set_option maxRecDepth 100000 in
theorem cq125_0 : mm_chkM 125 bq125_0 hq125_0 = true := by decide +kernel
def bq125_1 : List (Nat × List Instr) := [(93, [.sipush (0), .goto_w 94]),
  (94, [.freturn])]
def hq125_1 : List (List (List Nat)) := [[[], []],
  [[]]]
set_option maxRecDepth 100000 in
theorem cq125_1 : mm_chkM 125 bq125_1 hq125_1 = true := by decide +kernel
-- LispForgeModel.parametersOf (I)I
def bq126_0 : List (Nat × List Instr) := [(0, [.aload 0, .iload 1, .invokevirtual 121, .istore 2, .aload 0, .aload 0, .invokeinterface 10 28, .ifCond .ne 29, .aload 0, .invokeinterface 10 19, .iload 1, .iaload, .sipush (2), .if_icmp .ne 29, .iload 2, .sipush (4), .if_icmp .le 33, .goto_w 29]),
  (29, [.sipush (1), .goto 34]),
  (33, [.sipush (0), .goto_w 34]),
  (34, [.multianewarray 10 28, .sipush (0), .istore 3, .goto_w 39]),
  (39, [.iload 3, .iload 2, .if_icmp .ge 148, .aload 0, .invokeinterface 10 28, .ifCond .ne 148, .aload 0, .iload 1, .iload 3, .invokevirtual 122, .istore 4, .aload 0, .aload 0, .iload 4, .invokevirtual 124, .ifCond .ne 73, .sipush (1), .goto 74])]
def hq126_0 : List (List (List Nat)) := [[[], [], [1176, 1178, 50, 87, 1179], [], [], [], [986], [], [], [977], [], [], [], [], [], [], [], []],
  [[], []],
  [[], []],
  [[986], [], [], []],
  [[], [], [], [], [986], [], [], [], [], [1180, 1182, 51, 87, 1183], [], [], [], [], [1187, 1189, 52, 87, 1190], [], [], []]]
set_option maxRecDepth 100000 in
theorem cq126_0 : mm_chkM 126 bq126_0 hq126_0 = true := by decide +kernel
def bq126_1 : List (Nat × List Instr) := [(73, [.sipush (0), .goto_w 74]),
  (74, [.multianewarray 10 28, .sipush (0), .istore 5, .goto_w 80]),
  (80, [.iload 5, .iload 3, .if_icmp .ge 130, .aload 0, .invokeinterface 10 28, .ifCond .ne 130, .aload 0, .aload 0, .invokeinterface 10 20, .aload 0, .iload 1, .iload 5, .invokevirtual 122, .iaload, .aload 0, .invokeinterface 10 20, .iload 4, .iaload, .if_icmp .ne 120, .sipush (1), .goto 121]),
  (120, [.sipush (0), .goto_w 121]),
  (121, [.multianewarray 10 28, .iinc 5 (1), .goto 80]),
  (130, [.aload 0, .aload 0, .invokeinterface 10 20, .iload 4, .iaload, .iload 3, .invokevirtual 127, .iinc 3 (1), .goto 39]),
  (148, [.iload 2, .ireturn])]
def hq126_1 : List (List (List Nat)) := [[[], []],
  [[986], [], [], []],
  [[], [], [], [], [986], [], [], [], [978], [], [], [], [1180, 1182, 51, 87, 1183], [], [], [978], [], [], [], [], []],
  [[], []],
  [[986], [], []],
  [[], [], [978], [], [], [], [1198, 1200, 54, 87, 1201], [], []],
  [[], []]]
set_option maxRecDepth 100000 in
theorem cq126_1 : mm_chkM 126 bq126_1 hq126_1 = true := by decide +kernel
-- LispForgeModel.know (II)V
def bq127_0 : List (Nat × List Instr) := [(0, [.aload 0, .invokeinterface 10 39, .aload 0, .invokeinterface 10 32, .iload 1, .iastore, .aload 0, .invokeinterface 10 40, .aload 0, .invokeinterface 10 32, .iload 2, .iastore, .aload 0, .dup, .invokeinterface 10 32, .sipush (1), .iadd, .multianewarray 10 32, .return_])]
def hq127_0 : List (List (List Nat)) := [[[], [997], [], [990], [], [], [], [998], [], [990], [], [], [], [], [990], [], [], [990], []]]
set_option maxRecDepth 100000 in
theorem cq127_0 : mm_chkM 127 bq127_0 hq127_0 = true := by decide +kernel
-- LispForgeModel.body (III)V
def bq128_0 : List (Nat × List Instr) := [(0, [.aload 0, .sipush (0), .multianewarray 10 29, .aload 0, .sipush (0), .multianewarray 10 30, .aload 0, .iload 3, .multianewarray 10 31, .aload 0, .sipush (0), .multianewarray 10 33, .aload 0, .sipush (0), .multianewarray 10 34, .aload 0, .sipush (0), .iload 1, .sipush (0), .invokevirtual 129, .goto_w 32])]
def hq128_0 : List (List (List Nat)) := [[[], [], [987], [], [], [988], [], [], [989], [], [], [991], [], [], [992], [], [], [], [], [1206, 1208, 56, 87, 1209], []]]
set_option maxRecDepth 100000 in
theorem cq128_0 : mm_chkM 128 bq128_0 hq128_0 = true := by decide +kernel
def bq128_1 : List (Nat × List Instr) := [(32, [.aload 0, .invokeinterface 10 29, .ifCond .le 90, .aload 0, .invokeinterface 10 28, .ifCond .ne 90, .aload 0, .dup, .invokeinterface 10 29, .sipush (1), .isub, .multianewarray 10 29, .aload 0, .aload 0, .invokeinterface 10 35, .aload 0, .invokeinterface 10 29, .iaload, .aload 0, .invokeinterface 10 36, .aload 0, .invokeinterface 10 29, .iaload, .aload 0, .invokeinterface 10 37, .aload 0, .invokeinterface 10 29, .iaload, .invokevirtual 130, .goto 32]),
  (90, [.aload 0, .iload 2, .invokevirtual 136, .iload 2, .sipush (13), .if_icmp .ne 106, .aload 0, .iload 3, .invokevirtual 136, .goto_w 106]),
  (106, [.return_])]
def hq128_1 : List (List (List Nat)) := [[[], [987], [], [], [986], [], [], [], [987], [], [], [987], [], [], [993], [], [987], [], [], [994], [], [987], [], [], [995], [], [987], [], [1210, 1212, 57, 87, 1213], []],
  [[], [], [1233, 1235, 62, 87, 1236], [], [], [], [], [], [1233, 1235, 62, 87, 1236], []],
  [[]]]
set_option maxRecDepth 100000 in
theorem cq128_1 : mm_chkM 128 bq128_1 hq128_1 = true := by decide +kernel
-- LispForgeModel.push (III)V
def bq129_0 : List (Nat × List Instr) := [(0, [.aload 0, .invokeinterface 10 35, .aload 0, .invokeinterface 10 29, .iload 1, .iastore, .aload 0, .invokeinterface 10 36, .aload 0, .invokeinterface 10 29, .iload 2, .iastore, .aload 0, .invokeinterface 10 37, .aload 0, .invokeinterface 10 29, .iload 3, .iastore, .aload 0, .dup, .invokeinterface 10 29, .sipush (1), .iadd, .multianewarray 10 29, .return_])]
def hq129_0 : List (List (List Nat)) := [[[], [993], [], [987], [], [], [], [994], [], [987], [], [], [], [995], [], [987], [], [], [], [], [987], [], [], [987], []]]
set_option maxRecDepth 100000 in
theorem cq129_0 : mm_chkM 129 bq129_0 hq129_0 = true := by decide +kernel
