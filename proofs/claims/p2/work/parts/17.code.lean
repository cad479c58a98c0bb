-- LispForge.link ()I
def bq87_0 : List (Nat × List Instr) := [(0, [.aload 0, .aload 0, .invokeinterface 0 4, .invokevirtual 88, .multianewarray 0 7, .aload 0, .invokeinterface 0 7, .ifCond .eq 28, .checkcast 2]),
  (28, [.aload 0, .invokeinterface 0 4, .aload 0, .invokeinterface 0 5, .invokeinterface 5 0, .invokevirtual 92, .aload 0, .invokeinterface 0 5, .invokevirtual 22, .aload 0, .invokeinterface 0 5, .invokeinterface 5 0, .invokeinterface 1 1, .ireturn])]
def hq87_0 : List (List (List Nat)) := [[[], [], [292], [857, 858, 859, 85, 860], [295], [], [295], [], [829, 875]],
  [[], [292], [], [293], [251], [876, 877, 878, 85, 879], [], [293], [368, 369, 370, 86, 371], [], [293], [251], [120], []]]
set_option maxRecDepth 100000 in
theorem cq87_0 : mm_chkM 87 bq87_0 hq87_0 = true := by decide +kernel
-- LispForge$Linker.gather ()I
def bq88_0 : List (Nat × List Instr) := [(0, [.aload 0, .sipush (0), .multianewarray 4 3, .aload 0, .sipush (0), .multianewarray 4 4, .aload 0, .invokeinterface 4 0, .sipush (0), .sipush (0), .invokevirtual 59, .astore 1, .aload 1, .ifnonnull 26, .sipush (1), .ireturn]),
  (26, [.aload 0, .aload 1, .invokevirtual 89, .sipush (0), .istore 2, .goto_w 33]),
  (33, [.iload 2, .sipush (16), .if_icmp .ge 70, .iload 2, .aload 0, .invokeinterface 4 3, .if_icmp .ge 70, .aload 0, .aload 0, .invokeinterface 4 1, .iload 2, .aaload, .invokevirtual 90, .istore 3, .iload 3, .ifCond .eq 64, .iload 3, .ireturn]),
  (64, [.iinc 2 (1), .goto 33])]
def hq88_0 : List (List (List Nat)) := [[[], [], [229], [], [], [230], [], [226], [], [], [861, 687, 688, 83, 689], [], [], [], [], []],
  [[], [], [862, 864, 29, 85, 865], [], [], []],
  [[], [], [], [], [], [229], [], [], [], [227], [], [], [866, 868, 30, 85, 869], [], [], [], [], []],
  [[], []]]
set_option maxRecDepth 100000 in
theorem cq88_0 : mm_chkM 88 bq88_0 hq88_0 = true := by decide +kernel
def bq88_1 : List (Nat × List Instr) := [(70, [.aload 0, .invokeinterface 4 4, .sipush (600), .if_icmp .le 84, .sipush (4), .goto 85]),
  (84, [.sipush (0), .goto_w 85]),
  (85, [.ireturn])]
def hq88_1 : List (List (List Nat)) := [[[], [230], [], [], [], []],
  [[], []],
  [[]]]
set_option maxRecDepth 100000 in
theorem cq88_1 : mm_chkM 88 bq88_1 hq88_1 = true := by decide +kernel
-- LispForge.run (I)I
def bq97_0 : List (Nat × List Instr) := [(0, [.iload 1, .ifCond .lt 11, .iload 1, .sipush (500), .if_icmp .le 21, .goto_w 11]),
  (11, [.checkcast 0]),
  (21, [.aload 0, .invokeinterface 0 5, .iload 1, .invokevirtual 98, .ireturn])]
def hq97_0 : List (List (List Nat)) := [[[], [], [], [], [], []],
  [[487, 907]],
  [[], [293], [], [908, 909, 910, 86, 911], []]]
set_option maxRecDepth 100000 in
theorem cq97_0 : mm_chkM 97 bq97_0 hq97_0 = true := by decide +kernel
-- LispForge$Machine.makeSteps (I)I
def bq98_0 : List (Nat × List Instr) := [(0, [.sipush (0), .istore 2, .goto_w 2]),
  (2, [.iload 2, .iload 1, .if_icmp .ge 25, .aload 0, .invokeinterface 5 6, .sipush (1), .if_icmp .ne 25, .aload 0, .invokevirtual 99, .iinc 2 (1), .goto 2]),
  (25, [.iload 2, .ireturn])]
def hq98_0 : List (List (List Nat)) := [[[], [], []],
  [[], [], [], [], [259], [], [], [], [912, 914, 34, 86, 915], [], []],
  [[], []]]
set_option maxRecDepth 100000 in
theorem cq98_0 : mm_chkM 98 bq98_0 hq98_0 = true := by decide +kernel
-- LispForgeModel.<init> ()V
def bq108_0 : List (Nat × List Instr) := [(0, [.aload 0, .invokespecial 0, .aload 0, .sipush (-1), .multianewarray 10 3, .aload 0, .sipush (120), .newarray .char, .multianewarray 10 5, .aload 0, .sipush (16), .newarray .int, .multianewarray 10 6, .aload 0, .sipush (16), .newarray .int, .multianewarray 10 7, .aload 0, .sipush (16), .newarray .int, .multianewarray 10 8, .aload 0, .sipush (16), .newarray .int, .multianewarray 10 9, .aload 0, .sipush (3200), .newarray .byte, .multianewarray 10 10, .aload 0, .sipush (16), .newarray .int, .multianewarray 10 11, .aload 0, .sipush (800), .newarray .int, .multianewarray 10 12, .aload 0, .sipush (800), .newarray .int, .multianewarray 10 13, .aload 0, .sipush (64), .newarray .int, .multianewarray 10 14, .aload 0, .sipush (1920), .newarray .char, .multianewarray 10 15, .aload 0, .sipush (16), .newarray .int, .multianewarray 10 16, .aload 0, .sipush (1300), .newarray .int, .multianewarray 10 19, .aload 0, .sipush (1300), .newarray .int, .multianewarray 10 20, .aload 0, .sipush (1300), .newarray .int, .multianewarray 10 21, .aload 0, .sipush (1300), .newarray .int, .multianewarray 10 22, .aload 0, .sipush (9), .newarray .int, .multianewarray 10 26, .aload 0, .sipush (9), .newarray .int, .multianewarray 10 27, .aload 0, .sipush (300), .newarray .int, .multianewarray 10 35, .aload 0, .sipush (300), .newarray .int, .multianewarray 10 36, .aload 0, .sipush (300), .newarray .int, .multianewarray 10 37, .aload 0, .sipush (260), .newarray .byte, .multianewarray 10 38, .aload 0, .sipush (120), .newarray .int, .multianewarray 10 39, .aload 0, .sipush (120), .newarray .int, .multianewarray 10 40, .aload 0, .sipush (70), .newarray .int, .multianewarray 10 41, .aload 0, .sipush (70), .newarray .int, .multianewarray 10 42, .aload 0, .sipush (16), .newarray .int, .multianewarray 10 44, .aload 0, .sipush (16), .newarray .int, .multianewarray 10 45, .aload 0, .sipush (600), .newarray .byte, .multianewarray 10 47, .aload 0, .sipush (120), .newarray .int, .multianewarray 10 54, .aload 0, .sipush (24), .newarray .int, .multianewarray 10 55, .aload 0, .sipush (24), .newarray .int, .multianewarray 10 56, .return_])]
def hq108_0 : List (List (List Nat)) := [[[], [957, 105, 106], [], [], [961], [], [], [1130], [963], [], [], [127], [964], [], [], [127], [965], [], [], [127], [966], [], [], [127], [967], [], [], [554], [968], [], [], [127], [969], [], [], [127], [970], [], [], [127], [971], [], [], [127], [972], [], [], [1130], [973], [], [], [127], [974], [], [], [127], [977], [], [], [127], [978], [], [], [127], [979], [], [], [127], [980], [], [], [127], [984], [], [], [127], [985], [], [], [127], [993], [], [], [127], [994], [], [], [127], [995], [], [], [554], [996], [], [], [127], [997], [], [], [127], [998], [], [], [127], [999], [], [], [127], [1000], [], [], [127], [1002], [], [], [127], [1003], [], [], [554], [1005], [], [], [127], [1012], [], [], [127], [1013], [], [], [127], [1014], []]]
set_option maxRecDepth 100000 in
theorem cq108_0 : mm_chkM 108 bq108_0 hq108_0 = true := by decide +kernel
-- LispForgeModel.write (J)Z
def bq109_0 : List (Nat × List Instr) := [(0, [.aload 0, .sipush (0), .multianewarray 10 0, .aload 0, .invokeinterface 10 1, .istore 3, .sipush (1), .istore 4, .sipush (7), .istore 5, .goto_w 17]),
  (17, [.iload 5, .ifCond .lt 101, .lload 1, .sipush (8), .iload 5, .imul, .lushr, .l2i, .sipush (255), .iand, .istore 6, .iload 4, .ifCond .eq 70, .iload 6, .ifCond .eq 66, .iload 6, .sipush (31), .if_icmp .le 70, .iload 6, .sipush (127), .if_icmp .ge 70, .iload 3, .sipush (120), .if_icmp .ge 70, .goto_w 66]),
  (66, [.sipush (1), .goto 71]),
  (70, [.sipush (0), .goto_w 71])]
def hq109_0 : List (List (List Nat)) := [[[], [], [958], [], [959], [], [], [], [], [], []],
  [[], [], [], [], [], [], [], [], [], [], [], [], [], [], [], [], [], [], [], [], [], [], [], [], []],
  [[], []],
  [[], []]]
set_option maxRecDepth 100000 in
theorem cq109_0 : mm_chkM 109 bq109_0 hq109_0 = true := by decide +kernel
def bq109_1 : List (Nat × List Instr) := [(71, [.istore 4, .iload 4, .ifCond .eq 95, .iload 6, .ifCond .eq 95, .aload 0, .invokeinterface 10 5, .iload 3, .iload 6, .i2c, .castore, .iinc 3 (1), .goto_w 95]),
  (95, [.iinc 5 (-1), .goto 17]),
  (101, [.aload 0, .iload 4, .ifCond .eq 111, .iload 3, .goto 115]),
  (111, [.aload 0, .invokeinterface 10 1, .goto_w 115]),
  (115, [.multianewarray 10 1, .iload 4, .freturn])]
def hq109_1 : List (List (List Nat)) := [[[], [], [], [], [], [], [963], [], [], [], [], [], []],
  [[], []],
  [[], [], [], [], []],
  [[], [959], []],
  [[959], [], []]]
set_option maxRecDepth 100000 in
theorem cq109_1 : mm_chkM 109 bq109_1 hq109_1 = true := by decide +kernel
