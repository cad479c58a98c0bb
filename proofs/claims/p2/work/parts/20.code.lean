-- LispForgeModel.parametersOf (I)I
def bq126_0 : List (Nat × List Instr) := [(0, [.aload 0, .iload 1, .invokevirtual 121, .istore 2, .aload 0, .aload 0, .invokeinterface 10 28, .ifCond .ne 29, .aload 0, .invokeinterface 10 19, .iload 1, .iaload, .sipush (2), .if_icmp .ne 29, .iload 2, .sipush (4), .if_icmp .le 33, .goto_w 29]),
  (29, [.sipush (1), .goto 34]),
  (33, [.sipush (0), .goto_w 34]),
  (34, [.multianewarray 10 28, .sipush (0), .istore 3, .goto_w 39]),
  (39, [.iload 3, .iload 2, .if_icmp .ge 148, .aload 0, .invokeinterface 10 28, .ifCond .ne 148, .aload 0, .iload 1, .iload 3, .invokevirtual 122, .istore 4, .aload 0, .aload 0, .iload 4, .invokevirtual 124, .ifCond .ne 73, .sipush (1), .goto 74])]
def hq126_0 : List (List (List Nat)) := [[[], [], [1176, 1178, 50, 87, 1179], [], [], [], [986], [], [], [977], [], [], [], [], [], [], [], []],
  [[], []],
  [[], []],
  [[986], [], [], []],
  [[], [], [], [], [986], [], [], [], [], [1180, 1182, 51, 87, 1183], [], [], [], [], [1187, 1189, 52, 87, 1190], [], [], []]]
set_option maxRecDepth 100000 in
theorem cq126_0 : mm_chkM 126 bq126_0 hq126_0 = true := by decide +kernel
def bq126_1 : List (Nat × List Instr) := [(73, [.sipush (0), .goto_w 74]),
  (74, [.multianewarray 10 28, .sipush (0), .istore 5, .goto_w 80]),
  (80, [.iload 5, .iload 3, .if_icmp .ge 130, .aload 0, .invokeinterface 10 28, .ifCond .ne 130, .aload 0, .aload 0, .invokeinterface 10 20, .aload 0, .iload 1, .iload 5, .invokevirtual 122, .iaload, .aload 0, .invokeinterface 10 20, .iload 4, .iaload, .if_icmp .ne 120, .sipush (1), .goto 121]),
  (120, [.sipush (0), .goto_w 121]),
  (121, [.multianewarray 10 28, .iinc 5 (1), .goto 80]),
  (130, [.aload 0, .aload 0, .invokeinterface 10 20, .iload 4, .iaload, .iload 3, .invokevirtual 127, .iinc 3 (1), .goto 39]),
  (148, [.iload 2, .ireturn])]
def hq126_1 : List (List (List Nat)) := [[[], []],
  [[986], [], [], []],
  [[], [], [], [], [986], [], [], [], [978], [], [], [], [1180, 1182, 51, 87, 1183], [], [], [978], [], [], [], [], []],
  [[], []],
  [[986], [], []],
  [[], [], [978], [], [], [], [1198, 1200, 54, 87, 1201], [], []],
  [[], []]]
set_option maxRecDepth 100000 in
theorem cq126_1 : mm_chkM 126 bq126_1 hq126_1 = true := by decide +kernel
-- LispForgeModel.know (II)V
def bq127_0 : List (Nat × List Instr) := [(0, [.aload 0, .invokeinterface 10 39, .aload 0, .invokeinterface 10 32, .iload 1, .iastore, .aload 0, .invokeinterface 10 40, .aload 0, .invokeinterface 10 32, .iload 2, .iastore, .aload 0, .dup, .invokeinterface 10 32, .sipush (1), .iadd, .multianewarray 10 32, .return_])]
def hq127_0 : List (List (List Nat)) := [[[], [997], [], [990], [], [], [], [998], [], [990], [], [], [], [], [990], [], [], [990], []]]
set_option maxRecDepth 100000 in
theorem cq127_0 : mm_chkM 127 bq127_0 hq127_0 = true := by decide +kernel
-- LispForgeModel.body (III)V
def bq128_0 : List (Nat × List Instr) := [(0, [.aload 0, .sipush (0), .multianewarray 10 29, .aload 0, .sipush (0), .multianewarray 10 30, .aload 0, .iload 3, .multianewarray 10 31, .aload 0, .sipush (0), .multianewarray 10 33, .aload 0, .sipush (0), .multianewarray 10 34, .aload 0, .sipush (0), .iload 1, .sipush (0), .invokevirtual 129, .goto_w 32])]
def hq128_0 : List (List (List Nat)) := [[[], [], [987], [], [], [988], [], [], [989], [], [], [991], [], [], [992], [], [], [], [], [1206, 1208, 56, 87, 1209], []]]
set_option maxRecDepth 100000 in
theorem cq128_0 : mm_chkM 128 bq128_0 hq128_0 = true := by decide +kernel
def bq128_1 : List (Nat × List Instr) := [(32, [.aload 0, .invokeinterface 10 29, .ifCond .le 90, .aload 0, .invokeinterface 10 28, .ifCond .ne 90, .aload 0, .dup, .invokeinterface 10 29, .sipush (1), .isub, .multianewarray 10 29, .aload 0, .aload 0, .invokeinterface 10 35, .aload 0, .invokeinterface 10 29, .iaload, .aload 0, .invokeinterface 10 36, .aload 0, .invokeinterface 10 29, .iaload, .aload 0, .invokeinterface 10 37, .aload 0, .invokeinterface 10 29, .iaload, .invokevirtual 130, .goto 32]),
  (90, [.aload 0, .iload 2, .invokevirtual 136, .iload 2, .sipush (13), .if_icmp .ne 106, .aload 0, .iload 3, .invokevirtual 136, .goto_w 106]),
  (106, [.return_])]
def hq128_1 : List (List (List Nat)) := [[[], [987], [], [], [986], [], [], [], [987], [], [], [987], [], [], [993], [], [987], [], [], [994], [], [987], [], [], [995], [], [987], [], [1210, 1212, 57, 87, 1213], []],
  [[], [], [1233, 1235, 62, 87, 1236], [], [], [], [], [], [1233, 1235, 62, 87, 1236], []],
  [[]]]
set_option maxRecDepth 100000 in
theorem cq128_1 : mm_chkM 128 bq128_1 hq128_1 = true := by decide +kernel
-- LispForgeModel.push (III)V
def bq129_0 : List (Nat × List Instr) := [(0, [.aload 0, .invokeinterface 10 35, .aload 0, .invokeinterface 10 29, .iload 1, .iastore, .aload 0, .invokeinterface 10 36, .aload 0, .invokeinterface 10 29, .iload 2, .iastore, .aload 0, .invokeinterface 10 37, .aload 0, .invokeinterface 10 29, .iload 3, .iastore, .aload 0, .dup, .invokeinterface 10 29, .sipush (1), .iadd, .multianewarray 10 29, .return_])]
def hq129_0 : List (List (List Nat)) := [[[], [993], [], [987], [], [], [], [994], [], [987], [], [], [], [995], [], [987], [], [], [], [], [987], [], [], [987], []]]
set_option maxRecDepth 100000 in
theorem cq129_0 : mm_chkM 129 bq129_0 hq129_0 = true := by decide +kernel
