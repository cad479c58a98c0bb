-- LispForge$Machine.makeStep ()V
def bq99_0 : List (Nat × List Instr) := [(0, [.aload 0, .invokeinterface 5 0, .aload 0, .invokeinterface 5 7, .invokevirtual 16, .istore 1, .aload 0, .iload 1, .invokevirtual 100, .ifCond .eq 26, .aload 0, .sipush (3), .multianewarray 5 6, .return_]),
  (26, [.aload 0, .dup, .invokeinterface 5 9, .sipush (1), .iadd, .multianewarray 5 9, .iload 1, .lookupswitch 336 #[(0, 108), (1, 139), (2, 178), (3, 178), (4, 178), (5, 178), (6, 178), (7, 196), (8, 216), (9, 252), (10, 269), (11, 287), (12, 322), (13, 329)]]),
  (108, [.aload 0, .aload 0, .invokeinterface 5 0, .aload 0, .invokeinterface 5 7, .sipush (1), .iadd, .invokevirtual 94, .i2s, .invokevirtual 101, .aload 0, .dup, .invokeinterface 5 7, .sipush (3), .iadd, .multianewarray 5 7, .goto 341])]
def hq99_0 : List (List (List Nat)) := [[[], [250], [], [261], [916, 345, 346, 80, 347], [], [], [], [917, 919, 35, 86, 920], [], [], [], [259], []],
  [[], [], [265], [], [], [265], [], []],
  [[], [], [250], [], [261], [], [], [921, 887, 888, 80, 889], [], [922, 924, 36, 86, 925], [], [], [261], [], [], [261], []]]
set_option maxRecDepth 100000 in
theorem cq99_0 : mm_chkM 99 bq99_0 hq99_0 = true := by decide +kernel
def bq99_1 : List (Nat × List Instr) := [(139, [.aload 0, .aload 0, .aload 0, .invokeinterface 5 8, .aload 0, .invokeinterface 5 0, .aload 0, .invokeinterface 5 7, .sipush (1), .iadd, .invokevirtual 16, .iadd, .invokevirtual 25, .invokevirtual 101, .aload 0, .dup, .invokeinterface 5 7, .sipush (2), .iadd, .multianewarray 5 7, .goto 341]),
  (178, [.aload 0, .iload 1, .invokevirtual 102, .aload 0, .dup, .invokeinterface 5 7, .sipush (1), .iadd, .multianewarray 5 7, .goto 341]),
  (196, [.aload 0, .aload 0, .invokeinterface 5 0, .aload 0, .invokeinterface 5 7, .sipush (1), .iadd, .invokevirtual 94, .multianewarray 5 7, .goto 341])]
def hq99_1 : List (List (List Nat)) := [[[], [], [], [263], [], [250], [], [261], [], [], [916, 345, 346, 80, 347], [], [926, 381, 382, 86, 383], [922, 924, 36, 86, 925], [], [], [261], [], [], [261], []],
  [[], [], [927, 929, 37, 86, 930], [], [], [261], [], [], [261], []],
  [[], [], [250], [], [261], [], [], [921, 887, 888, 80, 889], [261], []]]
set_option maxRecDepth 100000 in
theorem cq99_1 : mm_chkM 99 bq99_1 hq99_1 = true := by decide +kernel
def bq99_2 : List (Nat × List Instr) := [(216, [.aload 0, .aload 0, .invokevirtual 103, .ifCond .ne 240, .aload 0, .invokeinterface 5 0, .aload 0, .invokeinterface 5 7, .sipush (1), .iadd, .invokevirtual 94, .goto 246]),
  (240, [.aload 0, .invokeinterface 5 7, .sipush (3), .iadd, .goto_w 246]),
  (246, [.multianewarray 5 7, .goto 341]),
  (252, [.aload 0, .invokevirtual 104, .aload 0, .dup, .invokeinterface 5 7, .sipush (1), .iadd, .multianewarray 5 7, .goto 341]),
  (269, [.aload 0, .invokevirtual 103, .pop, .aload 0, .dup, .invokeinterface 5 7, .sipush (1), .iadd, .multianewarray 5 7, .goto 341])]
def hq99_2 : List (List (List Nat)) := [[[], [], [931, 933, 38, 86, 934], [], [], [250], [], [261], [], [], [921, 887, 888, 80, 889], []],
  [[], [261], [], [], []],
  [[261], []],
  [[], [936, 938, 39, 86, 939], [], [], [261], [], [], [261], []],
  [[], [931, 933, 38, 86, 934], [], [], [], [261], [], [], [261], []]]
set_option maxRecDepth 100000 in
theorem cq99_2 : mm_chkM 99 bq99_2 hq99_2 = true := by decide +kernel
def bq99_3 : List (Nat × List Instr) := [(287, [.aload 0, .aload 0, .invokeinterface 5 8, .aload 0, .invokeinterface 5 0, .aload 0, .invokeinterface 5 7, .sipush (1), .iadd, .invokevirtual 16, .iadd, .invokevirtual 105, .aload 0, .dup, .invokeinterface 5 7, .sipush (2), .iadd, .multianewarray 5 7, .goto 341]),
  (322, [.aload 0, .invokevirtual 106, .goto 341]),
  (329, [.aload 0, .invokevirtual 107, .goto 341]),
  (336, [.aload 0, .sipush (2), .multianewarray 5 6, .goto_w 341]),
  (341, [.return_])]
def hq99_3 : List (List (List Nat)) := [[[], [], [263], [], [250], [], [261], [], [], [916, 345, 346, 80, 347], [], [940, 942, 40, 86, 943], [], [], [261], [], [], [261], []],
  [[], [944, 946, 41, 86, 947], []],
  [[], [948, 950, 42, 86, 951], []],
  [[], [], [259], []],
  [[]]]
set_option maxRecDepth 100000 in
theorem cq99_3 : mm_chkM 99 bq99_3 hq99_3 = true := by decide +kernel
-- LispForge$Machine.hasNoRoomFor (I)Z
def bq100_0 : List (Nat × List Instr) := [(0, [.iload 1, .lookupswitch 66 #[(0, 36), (1, 36), (12, 51)]]),
  (36, [.aload 0, .invokeinterface 5 2, .sipush (120), .if_icmp .lt 49, .sipush (1), .goto 50]),
  (49, [.sipush (0), .goto_w 50]),
  (50, [.freturn]),
  (51, [.aload 0, .invokeinterface 5 5, .sipush (24), .if_icmp .lt 64, .sipush (1), .goto 65]),
  (64, [.sipush (0), .goto_w 65]),
  (65, [.freturn]),
  (66, [.sipush (0), .freturn])]
def hq100_0 : List (List (List Nat)) := [[[], []],
  [[], [253], [], [], [], []],
  [[], []],
  [[]],
  [[], [257], [], [], [], []],
  [[], []],
  [[]],
  [[], []]]
set_option maxRecDepth 100000 in
theorem cq100_0 : mm_chkM 100 bq100_0 hq100_0 = true := by decide +kernel
-- LispForge$Machine.put (I)V
def bq101_0 : List (Nat × List Instr) := [(0, [.aload 0, .invokeinterface 5 2, .ifCond .lt 36, .aload 0, .invokeinterface 5 2, .sipush (120), .if_icmp .ge 36, .aload 0, .invokeinterface 5 1, .aload 0, .invokeinterface 5 2, .iload 1, .iastore, .aload 0, .dup, .invokeinterface 5 2, .sipush (1), .iadd, .multianewarray 5 2, .goto_w 36]),
  (36, [.return_])]
def hq101_0 : List (List (List Nat)) := [[[], [253], [], [], [253], [], [], [], [252], [], [253], [], [], [], [], [253], [], [], [253], []],
  [[]]]
set_option maxRecDepth 100000 in
theorem cq101_0 : mm_chkM 101 bq101_0 hq101_0 = true := by decide +kernel
-- LispForge$Machine.joinTwo (I)V
def bq102_0 : List (Nat × List Instr) := [(0, [.aload 0, .invokevirtual 103, .istore 2, .aload 0, .invokevirtual 103, .istore 3, .iload 1, .lookupswitch 87 #[(2, 40), (3, 50), (4, 60), (5, 70)]]),
  (40, [.aload 0, .iload 3, .iload 2, .iadd, .invokevirtual 101, .goto 101]),
  (50, [.aload 0, .iload 3, .iload 2, .isub, .invokevirtual 101, .goto 101]),
  (60, [.aload 0, .iload 3, .iload 2, .imul, .invokevirtual 101, .goto 101]),
  (70, [.aload 0, .iload 3, .iload 2, .if_icmp .ge 80, .sipush (1), .goto 81]),
  (80, [.sipush (0), .goto_w 81]),
  (81, [.invokevirtual 101, .goto 101]),
  (87, [.aload 0, .iload 3, .iload 2, .if_icmp .ne 97, .sipush (1), .goto 98]),
  (97, [.sipush (0), .goto_w 98])]
def hq102_0 : List (List (List Nat)) := [[[], [931, 933, 38, 86, 934], [], [], [931, 933, 38, 86, 934], [], [], []],
  [[], [], [], [], [922, 924, 36, 86, 925], []],
  [[], [], [], [], [922, 924, 36, 86, 925], []],
  [[], [], [], [], [922, 924, 36, 86, 925], []],
  [[], [], [], [], [], []],
  [[], []],
  [[922, 924, 36, 86, 925], []],
  [[], [], [], [], [], []],
  [[], []]]
set_option maxRecDepth 100000 in
theorem cq102_0 : mm_chkM 102 bq102_0 hq102_0 = true := by decide +kernel
def bq102_1 : List (Nat × List Instr) := [(98, [.invokevirtual 101, .goto_w 101]),
  (101, [.return_])]
def hq102_1 : List (List (List Nat)) := [[[922, 924, 36, 86, 925], []],
  [[]]]
set_option maxRecDepth 100000 in
theorem cq102_1 : mm_chkM 102 bq102_1 hq102_1 = true := by decide +kernel
-- LispForge$Machine.takeOff ()I
def bq103_0 : List (Nat × List Instr) := [(0, [.aload 0, .aload 0, .invokeinterface 5 2, .sipush (1), .isub, .invokevirtual 25, .istore 1, .aload 0, .aload 0, .invokeinterface 5 2, .sipush (1), .isub, .sipush (0), .fadd, .multianewarray 5 2, .iload 1, .ireturn])]
def hq103_0 : List (List (List Nat)) := [[[], [], [253], [], [], [926, 381, 382, 86, 383], [], [], [], [253], [], [], [], [935, 114, 81, 115], [253], [], []]]
set_option maxRecDepth 100000 in
theorem cq103_0 : mm_chkM 103 bq103_0 hq103_0 = true := by decide +kernel
-- LispForge$Machine.takeOutBelow ()V
def bq104_0 : List (Nat × List Instr) := [(0, [.aload 0, .invokevirtual 103, .istore 1, .aload 0, .invokevirtual 103, .pop, .aload 0, .iload 1, .invokevirtual 101, .return_])]
def hq104_0 : List (List (List Nat)) := [[[], [931, 933, 38, 86, 934], [], [], [931, 933, 38, 86, 934], [], [], [], [922, 924, 36, 86, 925], []]]
set_option maxRecDepth 100000 in
theorem cq104_0 : mm_chkM 104 bq104_0 hq104_0 = true := by decide +kernel
-- LispForge$Machine.store (I)V
def bq105_0 : List (Nat × List Instr) := [(0, [.iload 1, .ifCond .lt 34, .iload 1, .aload 0, .invokeinterface 5 2, .if_icmp .ge 34, .iload 1, .sipush (120), .if_icmp .ge 34, .aload 0, .invokeinterface 5 1, .iload 1, .aload 0, .aload 0, .invokeinterface 5 2, .sipush (1), .isub, .invokevirtual 25, .iastore, .goto_w 34]),
  (34, [.return_])]
def hq105_0 : List (List (List Nat)) := [[[], [], [], [], [253], [], [], [], [], [], [252], [], [], [], [253], [], [], [926, 381, 382, 86, 383], [], []],
  [[]]]
set_option maxRecDepth 100000 in
theorem cq105_0 : mm_chkM 105 bq105_0 hq105_0 = true := by decide +kernel
-- LispForge$Machine.enter ()V
def bq106_0 : List (Nat × List Instr) := [(0, [.aload 0, .invokeinterface 5 5, .ifCond .lt 97, .aload 0, .invokeinterface 5 5, .sipush (24), .if_icmp .ge 97, .aload 0, .invokeinterface 5 3, .aload 0, .invokeinterface 5 5, .aload 0, .invokeinterface 5 8, .iastore, .aload 0, .invokeinterface 5 4, .aload 0, .invokeinterface 5 5, .aload 0, .invokeinterface 5 7, .sipush (4), .iadd, .iastore, .aload 0, .dup, .invokeinterface 5 5, .sipush (1), .iadd, .multianewarray 5 5, .aload 0, .aload 0, .invokeinterface 5 2, .aload 0, .invokeinterface 5 0, .aload 0, .invokeinterface 5 7, .sipush (3), .iadd, .invokevirtual 16, .isub, .sipush (0), .fadd, .multianewarray 5 8, .aload 0, .aload 0, .invokeinterface 5 0, .aload 0, .invokeinterface 5 7, .sipush (1), .iadd, .invokevirtual 94, .multianewarray 5 7, .goto_w 97])]
def hq106_0 : List (List (List Nat)) := [[[], [257], [], [], [257], [], [], [], [255], [], [257], [], [263], [], [], [256], [], [257], [], [261], [], [], [], [], [], [257], [], [], [257], [], [], [253], [], [250], [], [261], [], [], [916, 345, 346, 80, 347], [], [], [935, 114, 81, 115], [263], [], [], [250], [], [261], [], [], [921, 887, 888, 80, 889], [261], []]]
set_option maxRecDepth 100000 in
theorem cq106_0 : mm_chkM 106 bq106_0 hq106_0 = true := by decide +kernel
def bq106_1 : List (Nat × List Instr) := [(97, [.return_])]
def hq106_1 : List (List (List Nat)) := [[[]]]
set_option maxRecDepth 100000 in
theorem cq106_1 : mm_chkM 106 bq106_1 hq106_1 = true := by decide +kernel
-- LispForge$Machine.leave ()V
def bq107_0 : List (Nat × List Instr) := [(0, [.aload 0, .invokeinterface 5 5, .ifCond .le 70, .aload 0, .invokeinterface 5 5, .sipush (24), .if_icmp .gt 70, .aload 0, .invokevirtual 103, .istore 1, .aload 0, .aload 0, .invokeinterface 5 8, .multianewarray 5 2, .aload 0, .iload 1, .invokevirtual 101, .aload 0, .dup, .invokeinterface 5 5, .sipush (1), .isub, .multianewarray 5 5, .aload 0, .aload 0, .invokeinterface 5 3, .aload 0, .invokeinterface 5 5, .iaload, .multianewarray 5 8, .aload 0, .aload 0, .invokeinterface 5 4, .aload 0, .invokeinterface 5 5, .iaload, .multianewarray 5 7, .goto_w 70]),
  (70, [.return_])]
def hq107_0 : List (List (List Nat)) := [[[], [257], [], [], [257], [], [], [], [931, 933, 38, 86, 934], [], [], [], [263], [253], [], [], [922, 924, 36, 86, 925], [], [], [257], [], [], [257], [], [], [255], [], [257], [], [263], [], [], [256], [], [257], [], [261], []],
  [[]]]
set_option maxRecDepth 100000 in
theorem cq107_0 : mm_chkM 107 bq107_0 hq107_0 = true := by decide +kernel
