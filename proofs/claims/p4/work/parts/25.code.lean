-- LispForgeModel.perform (III)V
def bq130_0 : List (Nat × List Instr) := [(0, [.iload 1, .lookupswitch 465 #[(0, 64), (1, 90), (2, 121), (3, 139), (4, 185), (5, 236), (6, 244), (7, 288), (8, 317), (9, 365), (10, 383), (11, 430)]]),
  (64, [.aload 0, .invokeinterface 10 19, .iload 2, .iaload, .sipush (2), .if_icmp .ne 82, .aload 0, .iload 2, .invokevirtual 131, .goto 526]),
  (82, [.aload 0, .iload 2, .invokevirtual 135, .goto 526]),
  (90, [.iload 2, .ifCond .lt 526, .aload 0, .sipush (1), .aload 0, .invokeinterface 10 22, .iload 2, .iaload, .sipush (0), .invokevirtual 129, .aload 0, .sipush (0), .aload 0, .invokeinterface 10 21, .iload 2, .iaload, .sipush (0), .invokevirtual 129, .goto 526]),
  (121, [.aload 0, .iload 2, .invokevirtual 136, .aload 0, .dup, .invokeinterface 10 31, .sipush (1), .isub, .multianewarray 10 31, .goto 526])]
def hq130_0 : List (List (List Nat)) := [[[], []],
  [[], [977], [], [], [], [], [], [], [1214, 1216, 58, 87, 1217], []],
  [[], [], [1229, 1231, 61, 87, 1232], []],
  [[], [], [], [], [], [980], [], [], [], [1206, 1208, 56, 87, 1209], [], [], [], [979], [], [], [], [1206, 1208, 56, 87, 1209], []],
  [[], [], [1233, 1235, 62, 87, 1236], [], [], [989], [], [], [989], []]]
set_option maxRecDepth 100000 in
theorem cq130_0 : mm_chkM 130 bq130_0 hq130_0 = true := by decide +kernel
def bq130_1 : List (Nat × List Instr) := [(139, [.aload 0, .sipush (8), .invokevirtual 136, .aload 0, .sipush (4), .iload 2, .aload 0, .invokeinterface 10 30, .invokevirtual 129, .aload 0, .sipush (0), .invokevirtual 137, .aload 0, .dup, .invokeinterface 10 31, .sipush (1), .isub, .multianewarray 10 31, .aload 0, .sipush (0), .aload 0, .iload 2, .sipush (2), .invokevirtual 122, .sipush (0), .invokevirtual 129, .goto 526])]
def hq130_1 : List (List (List Nat)) := [[[], [], [1233, 1235, 62, 87, 1236], [], [], [], [], [988], [1206, 1208, 56, 87, 1209], [], [], [1237, 1239, 63, 87, 1240], [], [], [989], [], [], [989], [], [], [], [], [], [1180, 1182, 51, 87, 1183], [], [1206, 1208, 56, 87, 1209], []]]
set_option maxRecDepth 100000 in
theorem cq130_1 : mm_chkM 130 bq130_1 hq130_1 = true := by decide +kernel
def bq130_2 : List (Nat × List Instr) := [(185, [.aload 0, .sipush (7), .invokevirtual 136, .aload 0, .sipush (5), .aload 0, .invokeinterface 10 30, .sipush (0), .invokevirtual 129, .aload 0, .sipush (0), .invokevirtual 137, .aload 0, .iload 3, .invokevirtual 139, .aload 0, .dup, .invokeinterface 10 31, .sipush (1), .isub, .multianewarray 10 31, .aload 0, .sipush (0), .aload 0, .iload 2, .sipush (3), .invokevirtual 122, .sipush (0), .invokevirtual 129, .goto 526]),
  (236, [.aload 0, .iload 2, .invokevirtual 139, .goto 526])]
def hq130_2 : List (List (List Nat)) := [[[], [], [1233, 1235, 62, 87, 1236], [], [], [], [988], [], [1206, 1208, 56, 87, 1209], [], [], [1237, 1239, 63, 87, 1240], [], [], [1245, 1247, 65, 87, 1248], [], [], [989], [], [], [989], [], [], [], [], [], [1180, 1182, 51, 87, 1183], [], [1206, 1208, 56, 87, 1209], []],
  [[], [], [1245, 1247, 65, 87, 1248], []]]
set_option maxRecDepth 100000 in
theorem cq130_2 : mm_chkM 130 bq130_2 hq130_2 = true := by decide +kernel
def bq130_3 : List (Nat × List Instr) := [(244, [.aload 0, .aload 0, .invokeinterface 10 20, .aload 0, .iload 2, .sipush (1), .invokevirtual 122, .iaload, .aload 0, .invokeinterface 10 31, .sipush (1), .isub, .invokevirtual 127, .aload 0, .sipush (7), .sipush (0), .sipush (0), .invokevirtual 129, .aload 0, .sipush (0), .aload 0, .iload 2, .sipush (3), .invokevirtual 122, .sipush (0), .invokevirtual 129, .goto 526]),
  (288, [.aload 0, .sipush (9), .invokevirtual 136, .aload 0, .dup, .invokeinterface 10 31, .sipush (1), .isub, .multianewarray 10 31, .aload 0, .dup, .invokeinterface 10 32, .sipush (1), .isub, .multianewarray 10 32, .goto 526])]
def hq130_3 : List (List (List Nat)) := [[[], [], [978], [], [], [], [1180, 1182, 51, 87, 1183], [], [], [989], [], [], [1198, 1200, 54, 87, 1201], [], [], [], [], [1206, 1208, 56, 87, 1209], [], [], [], [], [], [1180, 1182, 51, 87, 1183], [], [1206, 1208, 56, 87, 1209], []],
  [[], [], [1233, 1235, 62, 87, 1236], [], [], [989], [], [], [989], [], [], [990], [], [], [990], []]]
set_option maxRecDepth 100000 in
theorem cq130_3 : mm_chkM 130 bq130_3 hq130_3 = true := by decide +kernel
def bq130_4 : List (Nat × List Instr) := [(317, [.iload 2, .ifCond .lt 526, .aload 0, .sipush (10), .invokevirtual 136, .aload 0, .dup, .invokeinterface 10 31, .sipush (1), .isub, .multianewarray 10 31, .aload 0, .sipush (8), .aload 0, .invokeinterface 10 22, .iload 2, .iaload, .sipush (0), .invokevirtual 129, .aload 0, .sipush (0), .aload 0, .invokeinterface 10 21, .iload 2, .iaload, .sipush (0), .invokevirtual 129, .goto 526]),
  (365, [.aload 0, .sipush (11), .invokevirtual 136, .aload 0, .aload 0, .iload 2, .invokevirtual 138, .invokevirtual 136, .goto 526])]
def hq130_4 : List (List (List Nat)) := [[[], [], [], [], [1233, 1235, 62, 87, 1236], [], [], [989], [], [], [989], [], [], [], [980], [], [], [], [1206, 1208, 56, 87, 1209], [], [], [], [979], [], [], [], [1206, 1208, 56, 87, 1209], []],
  [[], [], [1233, 1235, 62, 87, 1236], [], [], [], [1241, 1243, 64, 87, 1244], [1233, 1235, 62, 87, 1236], []]]
set_option maxRecDepth 100000 in
theorem cq130_4 : mm_chkM 130 bq130_4 hq130_4 = true := by decide +kernel
def bq130_5 : List (Nat × List Instr) := [(383, [.aload 0, .sipush (8), .invokevirtual 136, .aload 0, .sipush (11), .aload 0, .invokeinterface 10 30, .iload 3, .invokevirtual 129, .aload 0, .sipush (0), .invokevirtual 137, .aload 0, .dup, .invokeinterface 10 31, .sipush (1), .isub, .multianewarray 10 31, .aload 0, .sipush (0), .aload 0, .iload 2, .sipush (2), .invokevirtual 122, .sipush (0), .invokevirtual 129, .goto 526])]
def hq130_5 : List (List (List Nat)) := [[[], [], [1233, 1235, 62, 87, 1236], [], [], [], [988], [], [1206, 1208, 56, 87, 1209], [], [], [1237, 1239, 63, 87, 1240], [], [], [989], [], [], [989], [], [], [], [], [], [1180, 1182, 51, 87, 1183], [], [1206, 1208, 56, 87, 1209], []]]
set_option maxRecDepth 100000 in
theorem cq130_5 : mm_chkM 130 bq130_5 hq130_5 = true := by decide +kernel
def bq130_6 : List (Nat × List Instr) := [(430, [.aload 0, .sipush (10), .invokevirtual 136, .aload 0, .sipush (7), .invokevirtual 136, .aload 0, .iload 3, .invokevirtual 137, .aload 0, .iload 2, .invokevirtual 139, .aload 0, .sipush (0), .invokevirtual 136, .aload 0, .sipush (0), .invokevirtual 137, .goto 526])]
def hq130_6 : List (List (List Nat)) := [[[], [], [1233, 1235, 62, 87, 1236], [], [], [1233, 1235, 62, 87, 1236], [], [], [1237, 1239, 63, 87, 1240], [], [], [1245, 1247, 65, 87, 1248], [], [], [1233, 1235, 62, 87, 1236], [], [], [1237, 1239, 63, 87, 1240], []]]
set_option maxRecDepth 100000 in
theorem cq130_6 : mm_chkM 130 bq130_6 hq130_6 = true := by decide +kernel
def bq130_7 : List (Nat × List Instr) := [(465, [.aload 0, .sipush (12), .invokevirtual 136, .aload 0, .invokeinterface 10 41, .aload 0, .invokeinterface 10 34, .aload 0, .invokeinterface 10 30, .iastore, .aload 0, .invokeinterface 10 42, .aload 0, .invokeinterface 10 34, .iload 2, .iastore, .aload 0, .dup, .invokeinterface 10 34, .sipush (1), .iadd, .multianewarray 10 34, .aload 0, .sipush (0), .invokevirtual 137, .aload 0, .iload 3, .invokevirtual 136, .aload 0, .dup, .invokeinterface 10 31, .sipush (1), .iload 3, .isub, .iadd, .multianewarray 10 31, .goto_w 526]),
  (526, [.return_])]
def hq130_7 : List (List (List Nat)) := [[[], [], [1233, 1235, 62, 87, 1236], [], [999], [], [992], [], [988], [], [], [1000], [], [992], [], [], [], [], [992], [], [], [992], [], [], [1237, 1239, 63, 87, 1240], [], [], [1233, 1235, 62, 87, 1236], [], [], [989], [], [], [], [], [989], []],
  [[]]]
set_option maxRecDepth 100000 in
theorem cq130_7 : mm_chkM 130 bq130_7 hq130_7 = true := by decide +kernel
