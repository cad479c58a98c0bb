-- LispForgeModel.isLetter (I)Z
def bq114_0 : List (Nat × List Instr) := [(0, [.iload 0, .sipush (97), .if_icmp .lt 16, .iload 0, .sipush (122), .if_icmp .gt 16, .sipush (1), .goto 17]),
  (16, [.sipush (0), .goto_w 17]),
  (17, [.freturn])]
def hq114_0 : List (List (List Nat)) := [[[], [], [], [], [], [], [], []],
  [[], []],
  [[]]]
set_option maxRecDepth 100000 in
theorem cq114_0 : mm_chkM 114 bq114_0 hq114_0 = true := by decide +kernel
-- LispForgeModel.isSign (I)Z
def bq115_0 : List (Nat × List Instr) := [(0, [.iload 0, .sipush (43), .if_icmp .eq 30, .iload 0, .sipush (45), .if_icmp .eq 30, .iload 0, .sipush (42), .if_icmp .eq 30, .iload 0, .sipush (60), .if_icmp .eq 30, .iload 0, .sipush (61), .if_icmp .ne 34, .goto_w 30]),
  (30, [.sipush (1), .goto 35]),
  (34, [.sipush (0), .goto_w 35]),
  (35, [.freturn])]
def hq115_0 : List (List (List Nat)) := [[[], [], [], [], [], [], [], [], [], [], [], [], [], [], [], []],
  [[], []],
  [[], []],
  [[]]]
set_option maxRecDepth 100000 in
theorem cq115_0 : mm_chkM 115 bq115_0 hq115_0 = true := by decide +kernel
-- LispForgeModel.form (II)I
def bq116_0 : List (Nat × List Instr) := [(0, [.aload 0, .invokeinterface 10 19, .aload 0, .invokeinterface 10 17, .iload 1, .iastore, .aload 0, .invokeinterface 10 20, .aload 0, .invokeinterface 10 17, .iload 2, .iastore, .aload 0, .dup, .invokeinterface 10 17, .sipush (1), .iadd, .multianewarray 10 17, .aload 0, .invokeinterface 10 17, .sipush (1), .isub, .ireturn])]
def hq116_0 : List (List (List Nat)) := [[[], [977], [], [975], [], [], [], [978], [], [975], [], [], [], [], [975], [], [], [975], [], [975], [], [], []]]
set_option maxRecDepth 100000 in
theorem cq116_0 : mm_chkM 116 bq116_0 hq116_0 = true := by decide +kernel
-- LispForgeModel.joins (I)V
def bq117_0 : List (Nat × List Instr) := [(0, [.aload 0, .invokeinterface 10 21, .aload 0, .invokeinterface 10 18, .iload 1, .iastore, .aload 0, .invokeinterface 10 22, .aload 0, .invokeinterface 10 18, .sipush (-1), .iastore, .aload 0, .invokeinterface 10 27, .aload 0, .invokeinterface 10 25, .iaload, .ifCond .ge 53, .aload 0, .invokeinterface 10 20, .aload 0, .invokeinterface 10 26, .aload 0, .invokeinterface 10 25, .iaload, .aload 0, .invokeinterface 10 18, .iastore, .goto 71]),
  (53, [.aload 0, .invokeinterface 10 22, .aload 0, .invokeinterface 10 27, .aload 0, .invokeinterface 10 25, .iaload, .aload 0, .invokeinterface 10 18, .iastore, .goto_w 71])]
def hq117_0 : List (List (List Nat)) := [[[], [979], [], [976], [], [], [], [980], [], [976], [], [], [], [985], [], [983], [], [], [], [978], [], [984], [], [983], [], [], [976], [], []],
  [[], [980], [], [985], [], [983], [], [], [976], [], []]]
set_option maxRecDepth 100000 in
theorem cq117_0 : mm_chkM 117 bq117_0 hq117_0 = true := by decide +kernel
def bq117_1 : List (Nat × List Instr) := [(71, [.aload 0, .invokeinterface 10 27, .aload 0, .invokeinterface 10 25, .aload 0, .invokeinterface 10 18, .iastore, .aload 0, .dup, .invokeinterface 10 18, .sipush (1), .iadd, .multianewarray 10 18, .return_])]
def hq117_1 : List (List (List Nat)) := [[[], [985], [], [983], [], [976], [], [], [], [976], [], [], [976], []]]
set_option maxRecDepth 100000 in
theorem cq117_1 : mm_chkM 117 bq117_1 hq117_1 = true := by decide +kernel
-- LispForgeModel.number (I)I
def bq118_0 : List (Nat × List Instr) := [(0, [.sipush (1), .istore 2, .aload 0, .iload 1, .aload 0, .invokeinterface 10 23, .invokevirtual 112, .sipush (45), .if_icmp .ne 28, .sipush (-1), .istore 2, .aload 0, .dup, .invokeinterface 10 23, .sipush (1), .iadd, .multianewarray 10 23, .goto_w 28]),
  (28, [.sipush (0), .istore 3, .sipush (0), .istore 4, .goto_w 33])]
def hq118_0 : List (List (List Nat)) := [[[], [], [], [], [], [981], [1143, 1145, 44, 87, 1146], [], [], [], [], [], [], [981], [], [], [981], []],
  [[], [], [], [], []]]
set_option maxRecDepth 100000 in
theorem cq118_0 : mm_chkM 118 bq118_0 hq118_0 = true := by decide +kernel
def bq118_1 : List (Nat × List Instr) := [(33, [.iload 4, .sipush (4), .if_icmp .ge 88, .aload 0, .iload 1, .aload 0, .invokeinterface 10 23, .invokevirtual 112, .invokestatic 113, .ifCond .eq 88, .sipush (10), .iload 3, .imul, .aload 0, .iload 1, .aload 0, .invokeinterface 10 23, .invokevirtual 112, .iadd, .sipush (48), .isub, .istore 3, .aload 0, .dup, .invokeinterface 10 23, .sipush (1), .iadd, .multianewarray 10 23, .iinc 4 (1), .goto 33]),
  (88, [.aload 0, .sipush (0), .iload 2, .iload 3, .imul, .invokevirtual 116, .ireturn])]
def hq118_1 : List (List (List Nat)) := [[[], [], [], [], [], [], [981], [1143, 1145, 44, 87, 1146], [1147, 1148, 87, 1149], [], [], [], [], [], [], [], [981], [1143, 1145, 44, 87, 1146], [], [], [], [], [], [], [981], [], [], [981], [], []],
  [[], [], [], [], [], [1156, 1158, 45, 87, 1159], []]]
set_option maxRecDepth 100000 in
theorem cq118_1 : mm_chkM 118 bq118_1 hq118_1 = true := by decide +kernel
-- LispForgeModel.symbolForm (II)I
def bq119_0 : List (Nat × List Instr) := [(0, [.aload 0, .iload 1, .aload 0, .invokeinterface 10 23, .invokevirtual 112, .istore 3, .aload 0, .dup, .invokeinterface 10 23, .sipush (1), .iadd, .multianewarray 10 23, .sipush (1), .istore 4, .goto_w 23])]
def hq119_0 : List (List (List Nat)) := [[[], [], [], [981], [1143, 1145, 44, 87, 1146], [], [], [], [981], [], [], [981], [], [], []]]
set_option maxRecDepth 100000 in
theorem cq119_0 : mm_chkM 119 bq119_0 hq119_0 = true := by decide +kernel
def bq119_1 : List (Nat × List Instr) := [(23, [.iload 4, .sipush (4), .if_icmp .ge 86, .iload 3, .sipush (255), .iand, .invokestatic 114, .ifCond .eq 86, .aload 0, .iload 1, .aload 0, .invokeinterface 10 23, .invokevirtual 112, .invokestatic 114, .ifCond .eq 86, .iload 3, .sipush (8), .ishl, .aload 0, .iload 1, .aload 0, .invokeinterface 10 23, .invokevirtual 112, .ior, .istore 3, .aload 0, .dup, .invokeinterface 10 23, .sipush (1), .iadd, .multianewarray 10 23, .iinc 4 (1), .goto 23]),
  (86, [.iload 2, .istore 4, .sipush (0), .istore 5, .goto_w 92])]
def hq119_1 : List (List (List Nat)) := [[[], [], [], [], [], [], [1150, 1151, 87, 1152], [], [], [], [], [981], [1143, 1145, 44, 87, 1146], [1150, 1151, 87, 1152], [], [], [], [], [], [], [], [981], [1143, 1145, 44, 87, 1146], [], [], [], [], [981], [], [], [981], [], []],
  [[], [], [], [], []]]
set_option maxRecDepth 100000 in
theorem cq119_1 : mm_chkM 119 bq119_1 hq119_1 = true := by decide +kernel
def bq119_2 : List (Nat × List Instr) := [(92, [.iload 1, .ifCond .lt 145, .iload 5, .aload 0, .invokeinterface 10 8, .iload 1, .iaload, .if_icmp .ge 145, .aload 0, .invokeinterface 10 14, .sipush (4), .iload 1, .imul, .iload 5, .iadd, .iaload, .iload 3, .if_icmp .ne 130, .aload 0, .invokeinterface 10 21, .iload 4, .iaload, .ireturn]),
  (130, [.aload 0, .invokeinterface 10 22, .iload 4, .iaload, .istore 4, .iinc 5 (1), .goto 92]),
  (145, [.aload 0, .sipush (1), .iload 3, .invokevirtual 116, .ireturn])]
def hq119_2 : List (List (List Nat)) := [[[], [], [], [], [966], [], [], [], [], [972], [], [], [], [], [], [], [], [], [], [979], [], [], []],
  [[], [980], [], [], [], [], []],
  [[], [], [], [1156, 1158, 45, 87, 1159], []]]
set_option maxRecDepth 100000 in
theorem cq119_2 : mm_chkM 119 bq119_2 hq119_2 = true := by decide +kernel
-- LispForgeModel.head (I)I
def bq120_0 : List (Nat × List Instr) := [(0, [.aload 0, .iload 1, .invokevirtual 121, .istore 2, .iload 2, .ifCond .le 39, .aload 0, .invokeinterface 10 19, .aload 0, .iload 1, .sipush (0), .invokevirtual 122, .iaload, .sipush (1), .if_icmp .ne 39, .aload 0, .invokeinterface 10 20, .aload 0, .iload 1, .sipush (0), .invokevirtual 122, .iaload, .goto 40]),
  (39, [.sipush (0), .goto_w 40]),
  (40, [.ireturn])]
def hq120_0 : List (List (List Nat)) := [[[], [], [1176, 1178, 50, 87, 1179], [], [], [], [], [977], [], [], [], [1180, 1182, 51, 87, 1183], [], [], [], [], [978], [], [], [], [1180, 1182, 51, 87, 1183], [], []],
  [[], []],
  [[]]]
set_option maxRecDepth 100000 in
theorem cq120_0 : mm_chkM 120 bq120_0 hq120_0 = true := by decide +kernel
-- LispForgeModel.count (I)I
def bq121_0 : List (Nat × List Instr) := [(0, [.sipush (0), .istore 2, .aload 0, .invokeinterface 10 19, .iload 1, .iaload, .sipush (2), .if_icmp .ne 21, .aload 0, .invokeinterface 10 20, .iload 1, .iaload, .goto 22]),
  (21, [.sipush (-1), .goto_w 22]),
  (22, [.istore 3, .goto_w 23]),
  (23, [.iload 3, .ifCond .lt 40, .iinc 2 (1), .aload 0, .invokeinterface 10 22, .iload 3, .iaload, .istore 3, .goto 23]),
  (40, [.iload 2, .ireturn])]
def hq121_0 : List (List (List Nat)) := [[[], [], [], [977], [], [], [], [], [], [978], [], [], []],
  [[], []],
  [[], []],
  [[], [], [], [], [980], [], [], [], []],
  [[], []]]
set_option maxRecDepth 100000 in
theorem cq121_0 : mm_chkM 121 bq121_0 hq121_0 = true := by decide +kernel
-- LispForgeModel.part (II)I
def bq122_0 : List (Nat × List Instr) := [(0, [.aload 0, .invokeinterface 10 20, .iload 1, .iaload, .istore 3, .sipush (0), .istore 4, .goto_w 10]),
  (10, [.iload 4, .iload 2, .if_icmp .ge 29, .aload 0, .invokeinterface 10 22, .iload 3, .iaload, .istore 3, .iinc 4 (1), .goto 10]),
  (29, [.aload 0, .invokeinterface 10 21, .iload 3, .iaload, .ireturn])]
def hq122_0 : List (List (List Nat)) := [[[], [978], [], [], [], [], [], []],
  [[], [], [], [], [980], [], [], [], [], []],
  [[], [979], [], [], []]]
set_option maxRecDepth 100000 in
theorem cq122_0 : mm_chkM 122 bq122_0 hq122_0 = true := by decide +kernel
-- LispForgeModel.word (III)I
def bq123_0 : List (Nat × List Instr) := [(0, [.iload 0, .sipush (16), .ishl, .iload 1, .sipush (8), .ishl, .ior, .iload 2, .ior, .ireturn])]
def hq123_0 : List (List (List Nat)) := [[[], [], [], [], [], [], [], [], [], []]]
set_option maxRecDepth 100000 in
theorem cq123_0 : mm_chkM 123 bq123_0 hq123_0 = true := by decide +kernel
-- LispForgeModel.isSymbol (I)Z
def bq124_0 : List (Nat × List Instr) := [(0, [.aload 0, .invokeinterface 10 19, .iload 1, .iaload, .sipush (1), .if_icmp .ne 30, .aload 0, .invokeinterface 10 20, .iload 1, .iaload, .sipush (255), .iand, .invokestatic 114, .ifCond .eq 30, .sipush (1), .goto 31]),
  (30, [.sipush (0), .goto_w 31]),
  (31, [.freturn])]
def hq124_0 : List (List (List Nat)) := [[[], [977], [], [], [], [], [], [978], [], [], [], [], [1150, 1151, 87, 1152], [], [], []],
  [[], []],
  [[]]]
set_option maxRecDepth 100000 in
theorem cq124_0 : mm_chkM 124 bq124_0 hq124_0 = true := by decide +kernel
-- LispForgeModel.isWord (I)Z
def bq125_0 : List (Nat × List Instr) := [(0, [.iload 0, .sipush (100), .sipush (101), .sipush (102), .invokestatic 123, .if_icmp .eq 89, .iload 0, .sipush (109), .sipush (97), .sipush (99), .invokestatic 123, .if_icmp .eq 89, .iload 0, .sipush (0), .sipush (105), .sipush (102), .invokestatic 123, .if_icmp .eq 89, .iload 0, .sipush (108), .sipush (101), .sipush (116), .invokestatic 123, .if_icmp .eq 89, .iload 0, .sipush (0), .sipush (100), .sipush (111), .invokestatic 123, .if_icmp .eq 89, .iload 0, .sipush (115), .sipush (101), .sipush (116), .invokestatic 123, .if_icmp .eq 89, .iload 0, .sipush (114), .sipush (117), .sipush (110), .invokestatic 123, .if_icmp .ne 93, .goto_w 89]),
  (89, [.sipush (1), .goto 94])]
def hq125_0 : List (List (List Nat)) := [[[], [], [], [], [1184, 1185, 87, 1186], [], [], [], [], [], [1184, 1185, 87, 1186], [], [], [], [], [], [1184, 1185, 87, 1186], [], [], [], [], [], [1184, 1185, 87, 1186], [], [], [], [], [], [1184, 1185, 87, 1186], [], [], [], [], [], [1184, 1185, 87, 1186], [], [], [], [], [], [1184, 1185, 87, 1186], [], []],
  [[], []]]
set_option maxRecDepth 100000 in
theorem cq125_0 : mm_chkM 125 bq125_0 hq125_0 = true := by decide +kernel
def bq125_1 : List (Nat × List Instr) := [(93, [.sipush (0), .goto_w 94]),
  (94, [.freturn])]
def hq125_1 : List (List (List Nat)) := [[[], []],
  [[]]]
set_option maxRecDepth 100000 in
theorem cq125_1 : mm_chkM 125 bq125_1 hq125_1 = true := by decide +kernel
