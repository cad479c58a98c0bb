-- LispForgeModel.aim (I)V
def bq139_0 : List (Nat × List Instr) := [(0, [.aload 0, .invokeinterface 10 38, .iload 1, .aload 0, .invokeinterface 10 30, .sipush (8), .ishr, .i2b, .bastore, .aload 0, .invokeinterface 10 38, .iload 1, .sipush (1), .iadd, .aload 0, .invokeinterface 10 30, .i2b, .bastore, .return_])]
def hq139_0 : List (List (List Nat)) := [[[], [996], [], [], [988], [], [], [], [], [], [996], [], [], [], [], [988], [], [], []]]
set_option maxRecDepth 100000 in
theorem cq139_0 : mm_chkM 139 bq139_0 hq139_0 = true := by decide +kernel
-- LispForgeModel.fourth ()I
def bq140_0 : List (Nat × List Instr) := [(0, [.sipush (0), .istore 1, .sipush (0), .istore 2, .sipush (0), .istore 3, .sipush (0), .istore 4, .goto_w 9]),
  (9, [.iload 4, .aload 0, .invokeinterface 10 1, .if_icmp .ge 152, .aload 0, .invokeinterface 10 5, .iload 4, .caload, .istore 5, .iload 5, .sipush (32), .if_icmp .eq 52, .iload 5, .sipush (40), .if_icmp .eq 52, .iload 5, .sipush (41), .if_icmp .eq 52, .sipush (1), .goto 53]),
  (52, [.sipush (0), .goto_w 53]),
  (53, [.istore 6, .iload 2, .sipush (1), .if_icmp .ne 80, .iload 5, .sipush (40), .if_icmp .eq 76, .iload 6, .ifCond .eq 80, .iload 3, .ifCond .ne 80, .goto_w 76]),
  (76, [.sipush (1), .goto 81])]
def hq140_0 : List (List (List Nat)) := [[[], [], [], [], [], [], [], [], []],
  [[], [], [959], [], [], [963], [], [], [], [], [], [], [], [], [], [], [], [], [], []],
  [[], []],
  [[], [], [], [], [], [], [], [], [], [], [], []],
  [[], []]]
set_option maxRecDepth 100000 in
theorem cq140_0 : mm_chkM 140 bq140_0 hq140_0 = true := by decide +kernel
def bq140_1 : List (Nat × List Instr) := [(80, [.sipush (0), .goto_w 81]),
  (81, [.istore 7, .iload 6, .ifCond .eq 97, .iload 2, .sipush (1), .if_icmp .ne 97, .sipush (1), .goto 98]),
  (97, [.sipush (0), .goto_w 98]),
  (98, [.istore 3, .iload 7, .ifCond .eq 110, .iload 1, .sipush (1), .iadd, .goto 111]),
  (110, [.iload 1, .goto_w 111]),
  (111, [.istore 1, .iload 1, .sipush (4), .if_icmp .ne 120, .iload 4, .ireturn]),
  (120, [.iload 2, .iload 5, .sipush (40), .if_icmp .ne 132, .sipush (1), .goto 144]),
  (132, [.iload 5, .sipush (41), .if_icmp .ne 143, .sipush (-1), .goto 144]),
  (143, [.sipush (0), .goto_w 144]),
  (144, [.iadd, .istore 2, .iinc 4 (1), .goto 9])]
def hq140_1 : List (List (List Nat)) := [[[], []],
  [[], [], [], [], [], [], [], []],
  [[], []],
  [[], [], [], [], [], [], []],
  [[], []],
  [[], [], [], [], [], []],
  [[], [], [], [], [], []],
  [[], [], [], [], []],
  [[], []],
  [[], [], [], []]]
set_option maxRecDepth 100000 in
theorem cq140_1 : mm_chkM 140 bq140_1 hq140_1 = true := by decide +kernel
def bq140_2 : List (Nat × List Instr) := [(152, [.sipush (0), .ireturn])]
def hq140_2 : List (List (List Nat)) := [[[], []]]
set_option maxRecDepth 100000 in
theorem cq140_2 : mm_chkM 140 bq140_2 hq140_2 = true := by decide +kernel
-- LispForgeModel.keep (IIII)I
def bq141_0 : List (Nat × List Instr) := [(0, [.aload 0, .invokeinterface 10 2, .istore 5, .aload 0, .invokeinterface 10 6, .iload 5, .iload 1, .iastore, .aload 0, .invokeinterface 10 7, .iload 5, .iload 2, .iastore, .aload 0, .invokeinterface 10 8, .iload 5, .iload 3, .iastore, .aload 0, .invokeinterface 10 9, .iload 5, .iload 1, .sipush (2), .if_icmp .ne 45, .sipush (0), .goto 49]),
  (45, [.aload 0, .invokeinterface 10 30, .goto_w 49]),
  (49, [.iastore, .aload 0, .invokeinterface 10 11, .iload 5, .iload 1, .sipush (2), .if_icmp .ne 65, .sipush (0), .goto 69]),
  (65, [.aload 0, .invokeinterface 10 34, .goto_w 69]),
  (69, [.iastore, .sipush (0), .istore 6, .goto_w 73])]
def hq141_0 : List (List (List Nat)) := [[[], [960], [], [], [964], [], [], [], [], [965], [], [], [], [], [966], [], [], [], [], [967], [], [], [], [], [], []],
  [[], [988], []],
  [[], [], [969], [], [], [], [], [], []],
  [[], [992], []],
  [[], [], [], []]]
set_option maxRecDepth 100000 in
theorem cq141_0 : mm_chkM 141 bq141_0 hq141_0 = true := by decide +kernel
def bq141_1 : List (Nat × List Instr) := [(73, [.iload 6, .aload 0, .invokeinterface 10 9, .iload 5, .iaload, .if_icmp .ge 112, .aload 0, .invokeinterface 10 10, .sipush (200), .iload 5, .imul, .iload 6, .iadd, .aload 0, .invokeinterface 10 38, .iload 6, .baload, .bastore, .iinc 6 (1), .goto 73]),
  (112, [.sipush (0), .istore 6, .goto_w 115])]
def hq141_1 : List (List (List Nat)) := [[[], [], [967], [], [], [], [], [968], [], [], [], [], [], [], [996], [], [], [], [], []],
  [[], [], []]]
set_option maxRecDepth 100000 in
theorem cq141_1 : mm_chkM 141 bq141_1 hq141_1 = true := by decide +kernel
def bq141_2 : List (Nat × List Instr) := [(115, [.iload 6, .aload 0, .invokeinterface 10 11, .iload 5, .iaload, .if_icmp .ge 173, .aload 0, .invokeinterface 10 12, .sipush (50), .iload 5, .imul, .iload 6, .iadd, .aload 0, .invokeinterface 10 41, .iload 6, .iaload, .iastore, .aload 0, .invokeinterface 10 13, .sipush (50), .iload 5, .imul, .iload 6, .iadd, .aload 0, .invokeinterface 10 42, .iload 6, .iaload, .iastore, .iinc 6 (1), .goto 115]),
  (173, [.sipush (0), .istore 6, .goto_w 176])]
def hq141_2 : List (List (List Nat)) := [[[], [], [969], [], [], [], [], [970], [], [], [], [], [], [], [999], [], [], [], [], [971], [], [], [], [], [], [], [1000], [], [], [], [], []],
  [[], [], []]]
set_option maxRecDepth 100000 in
theorem cq141_2 : mm_chkM 141 bq141_2 hq141_2 = true := by decide +kernel
def bq141_3 : List (Nat × List Instr) := [(176, [.iload 6, .iload 3, .if_icmp .ge 212, .iload 1, .sipush (2), .if_icmp .ne 212, .aload 0, .invokeinterface 10 14, .sipush (4), .iload 5, .imul, .iload 6, .iadd, .aload 0, .invokeinterface 10 39, .iload 6, .iaload, .iastore, .iinc 6 (1), .goto 176]),
  (212, [.aload 0, .invokeinterface 10 16, .iload 5, .aload 0, .invokeinterface 10 1, .iload 4, .isub, .iastore, .iload 4, .istore 6, .goto_w 230])]
def hq141_3 : List (List (List Nat)) := [[[], [], [], [], [], [], [], [972], [], [], [], [], [], [], [997], [], [], [], [], []],
  [[], [974], [], [], [959], [], [], [], [], [], []]]
set_option maxRecDepth 100000 in
theorem cq141_3 : mm_chkM 141 bq141_3 hq141_3 = true := by decide +kernel
def bq141_4 : List (Nat × List Instr) := [(230, [.iload 6, .aload 0, .invokeinterface 10 1, .if_icmp .ge 273, .iload 1, .sipush (2), .if_icmp .ne 273, .aload 0, .invokeinterface 10 15, .sipush (120), .iload 5, .imul, .iload 6, .iadd, .iload 4, .isub, .aload 0, .invokeinterface 10 5, .iload 6, .caload, .castore, .iinc 6 (1), .goto 230]),
  (273, [.aload 0, .dup, .invokeinterface 10 2, .sipush (1), .iadd, .multianewarray 10 2, .iload 5, .ireturn])]
def hq141_4 : List (List (List Nat)) := [[[], [], [959], [], [], [], [], [], [973], [], [], [], [], [], [], [], [], [963], [], [], [], [], []],
  [[], [], [960], [], [], [960], [], []]]
set_option maxRecDepth 100000 in
theorem cq141_4 : mm_chkM 141 bq141_4 hq141_4 = true := by decide +kernel
-- LispForgeModel.position ()I
def bq142_0 : List (Nat × List Instr) := [(0, [.aload 0, .sipush (0), .multianewarray 10 0, .aload 0, .invokeinterface 10 3, .ireturn])]
def hq142_0 : List (List (List Nat)) := [[[], [], [958], [], [961], []]]
set_option maxRecDepth 100000 in
theorem cq142_0 : mm_chkM 142 bq142_0 hq142_0 = true := by decide +kernel
