-- LispForgeModel.step ()V
def bq159_0 : List (Nat × List Instr) := [(0, [.aload 0, .invokeinterface 10 47, .aload 0, .invokeinterface 10 49, .baload, .istore 1, .iload 1, .sipush (1), .if_icmp .eq 27, .iload 1, .sipush (11), .if_icmp .eq 27, .iload 1, .sipush (13), .if_icmp .ne 45, .goto_w 27]),
  (27, [.aload 0, .invokeinterface 10 47, .aload 0, .invokeinterface 10 49, .sipush (1), .iadd, .baload, .sipush (255), .iand, .goto 46]),
  (45, [.sipush (0), .goto_w 46]),
  (46, [.istore 2, .iload 1, .sipush (2), .if_icmp .ge 61, .aload 0, .invokeinterface 10 51, .sipush (120), .if_icmp .eq 76, .goto_w 61]),
  (61, [.iload 1, .sipush (12), .if_icmp .ne 82, .aload 0, .invokeinterface 10 52, .sipush (24), .if_icmp .ne 82, .goto_w 76])]
def hq159_0 : List (List (List Nat)) := [[[], [1005], [], [1007], [], [], [], [], [], [], [], [], [], [], [], []],
  [[], [1005], [], [1007], [], [], [], [], [], []],
  [[], []],
  [[], [], [], [], [], [1009], [], [], []],
  [[], [], [], [], [1010], [], [], []]]
set_option maxRecDepth 100000 in
theorem cq159_0 : mm_chkM 159 bq159_0 hq159_0 = true := by decide +kernel
def bq159_1 : List (Nat × List Instr) := [(76, [.aload 0, .sipush (3), .multianewarray 10 48, .return_]),
  (82, [.aload 0, .invokeinterface 10 49, .iload 1, .invokestatic 153, .iadd, .istore 3, .iload 1, .lookupswitch 481 #[(0, 168), (1, 186), (2, 481), (3, 481), (4, 481), (5, 481), (6, 481), (7, 204), (8, 218), (9, 258), (10, 293), (11, 306), (12, 331), (13, 402), (14, 468)]]),
  (168, [.aload 0, .aload 0, .aload 0, .invokeinterface 10 49, .sipush (1), .iadd, .invokevirtual 160, .i2s, .invokevirtual 161, .goto 486]),
  (186, [.aload 0, .aload 0, .invokeinterface 10 54, .aload 0, .invokeinterface 10 50, .iload 2, .iadd, .iaload, .invokevirtual 161, .goto 486]),
  (204, [.aload 0, .aload 0, .invokeinterface 10 49, .sipush (1), .iadd, .invokevirtual 160, .istore 3, .goto 486])]
def hq159_1 : List (List (List Nat)) := [[[], [], [1006], []],
  [[], [1007], [], [1301, 1302, 87, 1303], [], [], [], []],
  [[], [], [], [1007], [], [], [1328, 1330, 75, 87, 1331], [], [1332, 1334, 76, 87, 1335], []],
  [[], [], [1012], [], [1008], [], [], [], [1332, 1334, 76, 87, 1335], []],
  [[], [], [1007], [], [], [1328, 1330, 75, 87, 1331], [], []]]
set_option maxRecDepth 100000 in
theorem cq159_1 : mm_chkM 159 bq159_1 hq159_1 = true := by decide +kernel
def bq159_2 : List (Nat × List Instr) := [(218, [.aload 0, .dup, .invokeinterface 10 51, .sipush (1), .isub, .multianewarray 10 51, .aload 0, .invokeinterface 10 54, .aload 0, .invokeinterface 10 51, .iaload, .ifCond .ne 253, .aload 0, .aload 0, .invokeinterface 10 49, .sipush (1), .iadd, .invokevirtual 160, .goto 254]),
  (253, [.iload 3, .goto_w 254]),
  (254, [.istore 3, .goto 486]),
  (258, [.aload 0, .invokeinterface 10 54, .aload 0, .invokeinterface 10 51, .sipush (2), .isub, .aload 0, .invokeinterface 10 54, .aload 0, .invokeinterface 10 51, .sipush (1), .isub, .iaload, .iastore, .aload 0, .dup, .invokeinterface 10 51, .sipush (1), .isub, .multianewarray 10 51, .goto 486])]
def hq159_2 : List (List (List Nat)) := [[[], [], [1009], [], [], [1009], [], [1012], [], [1009], [], [], [], [], [1007], [], [], [1328, 1330, 75, 87, 1331], []],
  [[], []],
  [[], []],
  [[], [1012], [], [1009], [], [], [], [1012], [], [1009], [], [], [], [], [], [], [1009], [], [], [1009], []]]
set_option maxRecDepth 100000 in
theorem cq159_2 : mm_chkM 159 bq159_2 hq159_2 = true := by decide +kernel
def bq159_3 : List (Nat × List Instr) := [(293, [.aload 0, .dup, .invokeinterface 10 51, .sipush (1), .isub, .multianewarray 10 51, .goto 486]),
  (306, [.aload 0, .invokeinterface 10 54, .aload 0, .invokeinterface 10 50, .iload 2, .iadd, .aload 0, .invokeinterface 10 54, .aload 0, .invokeinterface 10 51, .sipush (1), .isub, .iaload, .iastore, .goto 486])]
def hq159_3 : List (List (List Nat)) := [[[], [], [1009], [], [], [1009], []],
  [[], [1012], [], [1008], [], [], [], [1012], [], [1009], [], [], [], [], []]]
set_option maxRecDepth 100000 in
theorem cq159_3 : mm_chkM 159 bq159_3 hq159_3 = true := by decide +kernel
def bq159_4 : List (Nat × List Instr) := [(331, [.aload 0, .invokeinterface 10 55, .aload 0, .invokeinterface 10 52, .aload 0, .invokeinterface 10 50, .iastore, .aload 0, .invokeinterface 10 56, .aload 0, .invokeinterface 10 52, .iload 3, .iastore, .aload 0, .dup, .invokeinterface 10 52, .sipush (1), .iadd, .multianewarray 10 52, .aload 0, .aload 0, .invokeinterface 10 51, .aload 0, .invokeinterface 10 47, .aload 0, .invokeinterface 10 49, .sipush (3), .iadd, .baload, .sipush (255), .iand, .isub, .multianewarray 10 50, .aload 0, .aload 0, .invokeinterface 10 49, .sipush (1), .iadd, .invokevirtual 160, .istore 3, .goto 486])]
def hq159_4 : List (List (List Nat)) := [[[], [1013], [], [1010], [], [1008], [], [], [1014], [], [1010], [], [], [], [], [1010], [], [], [1010], [], [], [1009], [], [1005], [], [1007], [], [], [], [], [], [], [1008], [], [], [1007], [], [], [1328, 1330, 75, 87, 1331], [], []]]
set_option maxRecDepth 100000 in
theorem cq159_4 : mm_chkM 159 bq159_4 hq159_4 = true := by decide +kernel
def bq159_5 : List (Nat × List Instr) := [(402, [.aload 0, .invokeinterface 10 54, .aload 0, .invokeinterface 10 50, .aload 0, .invokeinterface 10 54, .aload 0, .invokeinterface 10 51, .sipush (1), .isub, .iaload, .iastore, .aload 0, .aload 0, .invokeinterface 10 50, .sipush (1), .iadd, .multianewarray 10 51, .aload 0, .dup, .invokeinterface 10 52, .sipush (1), .isub, .multianewarray 10 52, .aload 0, .aload 0, .invokeinterface 10 55, .aload 0, .invokeinterface 10 52, .iaload, .multianewarray 10 50, .aload 0, .invokeinterface 10 56, .aload 0, .invokeinterface 10 52, .iaload, .istore 3, .goto 486]),
  (468, [.aload 0, .sipush (2), .multianewarray 10 48, .aload 0, .invokeinterface 10 49, .istore 3, .goto 486])]
def hq159_5 : List (List (List Nat)) := [[[], [1012], [], [1008], [], [1012], [], [1009], [], [], [], [], [], [], [1008], [], [], [1009], [], [], [1010], [], [], [1010], [], [], [1013], [], [1010], [], [1008], [], [1014], [], [1010], [], [], []],
  [[], [], [1006], [], [1007], [], []]]
set_option maxRecDepth 100000 in
theorem cq159_5 : mm_chkM 159 bq159_5 hq159_5 = true := by decide +kernel
def bq159_6 : List (Nat × List Instr) := [(481, [.aload 0, .iload 1, .invokevirtual 162, .goto_w 486]),
  (486, [.aload 0, .iload 3, .multianewarray 10 49, .aload 0, .dup, .invokeinterface 10 53, .sipush (1), .iadd, .multianewarray 10 53, .return_])]
def hq159_6 : List (List (List Nat)) := [[[], [], [1336, 1338, 77, 87, 1339], []],
  [[], [], [1007], [], [], [1011], [], [], [1011], []]]
set_option maxRecDepth 100000 in
theorem cq159_6 : mm_chkM 159 bq159_6 hq159_6 = true := by decide +kernel
-- LispForgeModel.placeAt (I)I
def bq160_0 : List (Nat × List Instr) := [(0, [.aload 0, .invokeinterface 10 47, .iload 1, .baload, .sipush (255), .iand, .sipush (8), .ishl, .aload 0, .invokeinterface 10 47, .iload 1, .sipush (1), .iadd, .baload, .sipush (255), .iand, .ior, .ireturn])]
def hq160_0 : List (List (List Nat)) := [[[], [1005], [], [], [], [], [], [], [], [1005], [], [], [], [], [], [], [], []]]
set_option maxRecDepth 100000 in
theorem cq160_0 : mm_chkM 160 bq160_0 hq160_0 = true := by decide +kernel
-- LispForgeModel.put (I)V
def bq161_0 : List (Nat × List Instr) := [(0, [.aload 0, .invokeinterface 10 54, .aload 0, .invokeinterface 10 51, .iload 1, .iastore, .aload 0, .dup, .invokeinterface 10 51, .sipush (1), .iadd, .multianewarray 10 51, .return_])]
def hq161_0 : List (List (List Nat)) := [[[], [1012], [], [1009], [], [], [], [], [1009], [], [], [1009], []]]
set_option maxRecDepth 100000 in
theorem cq161_0 : mm_chkM 161 bq161_0 hq161_0 = true := by decide +kernel
-- LispForgeModel.work (I)V
def bq162_0 : List (Nat × List Instr) := [(0, [.aload 0, .invokeinterface 10 54, .aload 0, .invokeinterface 10 51, .sipush (1), .isub, .iaload, .istore 2, .aload 0, .invokeinterface 10 54, .aload 0, .invokeinterface 10 51, .sipush (2), .isub, .iaload, .istore 3, .aload 0, .dup, .invokeinterface 10 51, .sipush (1), .isub, .multianewarray 10 51, .aload 0, .invokeinterface 10 54, .aload 0, .invokeinterface 10 51, .sipush (1), .isub, .iload 1, .sipush (2), .if_icmp .ne 55, .iload 3, .iload 2, .iadd, .goto 100]),
  (55, [.iload 1, .sipush (3), .if_icmp .ne 66, .iload 3, .iload 2, .isub, .goto 100])]
def hq162_0 : List (List (List Nat)) := [[[], [1012], [], [1009], [], [], [], [], [], [1012], [], [1009], [], [], [], [], [], [], [1009], [], [], [1009], [], [1012], [], [1009], [], [], [], [], [], [], [], [], []],
  [[], [], [], [], [], [], []]]
set_option maxRecDepth 100000 in
theorem cq162_0 : mm_chkM 162 bq162_0 hq162_0 = true := by decide +kernel
def bq162_1 : List (Nat × List Instr) := [(66, [.iload 1, .sipush (4), .if_icmp .ne 77, .iload 3, .iload 2, .imul, .goto 100]),
  (77, [.iload 1, .sipush (5), .if_icmp .ne 90, .iload 3, .iload 2, .if_icmp .ge 99, .goto 95]),
  (90, [.iload 3, .iload 2, .if_icmp .ne 99, .goto_w 95]),
  (95, [.sipush (1), .goto 100]),
  (99, [.sipush (0), .goto_w 100]),
  (100, [.iastore, .return_])]
def hq162_1 : List (List (List Nat)) := [[[], [], [], [], [], [], []],
  [[], [], [], [], [], [], []],
  [[], [], [], []],
  [[], []],
  [[], []],
  [[], []]]
set_option maxRecDepth 100000 in
theorem cq162_1 : mm_chkM 162 bq162_1 hq162_1 = true := by decide +kernel
-- LispForgeModel.about (I)I
def bq163_0 : List (Nat × List Instr) := [(0, [.aload 0, .sipush (0), .multianewarray 10 0, .iload 1, .lookupswitch 74 #[(0, 44), (1, 49), (2, 54), (3, 59), (4, 64), (5, 69)]]),
  (44, [.aload 0, .invokeinterface 10 48, .ireturn]),
  (49, [.aload 0, .invokeinterface 10 49, .ireturn]),
  (54, [.aload 0, .invokeinterface 10 50, .ireturn]),
  (59, [.aload 0, .invokeinterface 10 51, .ireturn]),
  (64, [.aload 0, .invokeinterface 10 52, .ireturn]),
  (69, [.aload 0, .invokeinterface 10 53, .ireturn]),
  (74, [.sipush (-1), .ireturn])]
def hq163_0 : List (List (List Nat)) := [[[], [], [958], [], []],
  [[], [1006], []],
  [[], [1007], []],
  [[], [1008], []],
  [[], [1009], []],
  [[], [1010], []],
  [[], [1011], []],
  [[], []]]
set_option maxRecDepth 100000 in
theorem cq163_0 : mm_chkM 163 bq163_0 hq163_0 = true := by decide +kernel
-- LispForgeModel.stack (I)I
def bq164_0 : List (Nat × List Instr) := [(0, [.aload 0, .sipush (0), .multianewarray 10 0, .iload 1, .ifCond .lt 26, .iload 1, .aload 0, .invokeinterface 10 51, .if_icmp .ge 26, .aload 0, .invokeinterface 10 54, .iload 1, .iaload, .goto 27]),
  (26, [.sipush (0), .goto_w 27]),
  (27, [.ireturn])]
def hq164_0 : List (List (List Nat)) := [[[], [], [958], [], [], [], [], [1009], [], [], [1012], [], [], []],
  [[], []],
  [[]]]
set_option maxRecDepth 100000 in
theorem cq164_0 : mm_chkM 164 bq164_0 hq164_0 = true := by decide +kernel
-- LispForgeModel.top ()I
def bq165_0 : List (Nat × List Instr) := [(0, [.aload 0, .sipush (0), .multianewarray 10 0, .aload 0, .invokeinterface 10 51, .ifCond .le 26, .aload 0, .invokeinterface 10 54, .aload 0, .invokeinterface 10 51, .sipush (1), .isub, .iaload, .goto 27]),
  (26, [.sipush (0), .goto_w 27]),
  (27, [.ireturn])]
def hq165_0 : List (List (List Nat)) := [[[], [], [958], [], [1009], [], [], [1012], [], [1009], [], [], [], []],
  [[], []],
  [[]]]
set_option maxRecDepth 100000 in
theorem cq165_0 : mm_chkM 165 bq165_0 hq165_0 = true := by decide +kernel
