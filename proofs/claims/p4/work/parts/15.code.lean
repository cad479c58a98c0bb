/-- the blocks of a method, each checked against its bytes -/
def mm_chkM (mi : Nat) (bs : List (Nat × List Instr)) (hs : List (List (List Nat))) : Bool := decide (bs.length = hs.length) && (bs.zip hs).all fun q => mm_chk mi q.1.1 q.1.2 q.2
theorem mm_chkM_of {mi : Nat} {bs : List (Nat × List Instr)} {hs : List (List (List Nat))} (h : mm_chkM mi bs hs = true) {k pc : Nat} {is : List Instr} (hk : bs[k]? = some (pc, is)) : ∃ hq, mm_chk mi pc is hq = true := by
  simp only [mm_chkM, Bool.and_eq_true, decide_eq_true_eq] at h
  have hl : k < bs.length := (List.getElem?_eq_some_iff.mp hk).1
  have h1 : hs[k]? = some (hs[k]'(by omega)) := List.getElem?_eq_getElem (by omega)
  have h2 : (bs.zip hs)[k]? = some ((pc, is), hs[k]'(by omega)) := by rw [List.getElem?_zip_eq_some]; exact ⟨hk, h1⟩
  exact ⟨_, List.all_eq_true.mp h.2 _ (List.mem_of_getElem? h2)⟩
-- LispForge.<init> ()V
def bq0_0 : List (Nat × List Instr) := [(0, [.aload 0, .invokespecial 0, .aload 0, .new 1, .dup, .sipush (120), .invokevirtual 1, .multianewarray 0 0, .aload 0, .new 6, .dup, .invokevirtual 3, .multianewarray 0 1, .aload 0, .new 8, .dup, .invokevirtual 4, .multianewarray 0 2, .aload 0, .new 2, .dup, .aload 0, .invokeinterface 0 2, .invokevirtual 5, .multianewarray 0 3, .aload 0, .new 4, .dup, .aload 0, .invokeinterface 0 2, .invokevirtual 6, .multianewarray 0 4, .aload 0, .new 5, .dup, .invokevirtual 7, .multianewarray 0 5, .aload 0, .sipush (-1), .multianewarray 0 6, .aload 0, .sipush (0), .multianewarray 0 7, .return_])]
def hq0_0 : List (List (List Nat)) := [[[], [104, 105, 106], [], [107, 108, 80], [], [], [109, 110, 80, 111], [288], [], [128, 129, 82], [], [130, 131, 82, 132], [289], [], [159, 160, 83], [], [161, 162, 83, 163], [290], [], [174, 175, 84], [], [], [290], [176, 177, 84, 178], [291], [], [219, 220, 85], [], [], [290], [221, 222, 85, 223], [292], [], [242, 243, 86], [], [244, 245, 86, 246], [293], [], [], [294], [], [], [295], []]]
set_option maxRecDepth 100000 in
theorem cq0_0 : mm_chkM 0 bq0_0 hq0_0 = true := by decide +kernel
-- LispForge$Bytes.<init> (I)V
def bq1_0 : List (Nat × List Instr) := [(0, [.aload 0, .invokespecial 0, .aload 0, .iload 1, .sipush (0), .fadd, .newarray .int, .multianewarray 1 0, .return_])]
def hq1_0 : List (List (List Nat)) := [[[], [112, 105, 106], [], [], [], [113, 114, 81, 115], [127], [116], []]]
set_option maxRecDepth 100000 in
theorem cq1_0 : mm_chkM 1 bq1_0 hq1_0 = true := by decide +kernel
-- LispForge$Reader.<init> ()V
def bq3_0 : List (Nat × List Instr) := [(0, [.aload 0, .invokespecial 0, .aload 0, .sipush (8), .anewarray 0, .multianewarray 6 0, .return_])]
def hq3_0 : List (List (List Nat)) := [[[], [133, 105, 106], [], [], [134], [136], []]]
set_option maxRecDepth 100000 in
theorem cq3_0 : mm_chkM 3 bq3_0 hq3_0 = true := by decide +kernel
-- LispForge$Shelf.<init> ()V
def bq4_0 : List (Nat × List Instr) := [(0, [.aload 0, .invokespecial 0, .aload 0, .sipush (16), .anewarray 1, .multianewarray 8 0, .return_])]
def hq4_0 : List (List (List Nat)) := [[[], [164, 105, 106], [], [], [165], [167], []]]
set_option maxRecDepth 100000 in
theorem cq4_0 : mm_chkM 4 bq4_0 hq4_0 = true := by decide +kernel
-- LispForge$Compiler.<init> (LLispForge$Shelf;)V
def bq5_0 : List (Nat × List Instr) := [(0, [.aload 0, .invokespecial 0, .aload 0, .new 1, .dup, .sipush (200), .invokevirtual 1, .multianewarray 2 1, .aload 0, .new 1, .dup, .sipush (560), .invokevirtual 1, .multianewarray 2 2, .aload 0, .sipush (50), .newarray .int, .multianewarray 2 3, .aload 0, .sipush (50), .newarray .int, .multianewarray 2 4, .aload 0, .sipush (104), .newarray .int, .multianewarray 2 6, .aload 0, .sipush (104), .newarray .int, .multianewarray 2 7, .aload 0, .aload 1, .multianewarray 2 0, .return_])]
def hq5_0 : List (List (List Nat)) := [[[], [179, 105, 106], [], [180, 108, 80], [], [], [181, 110, 80, 111], [183], [], [180, 108, 80], [], [], [181, 110, 80, 111], [184], [], [], [127], [185], [], [], [127], [186], [], [], [127], [188], [], [], [127], [189], [], [], [182], []]]
set_option maxRecDepth 100000 in
theorem cq5_0 : mm_chkM 5 bq5_0 hq5_0 = true := by decide +kernel
-- LispForge$Linker.<init> (LLispForge$Shelf;)V
def bq6_0 : List (Nat × List Instr) := [(0, [.aload 0, .invokespecial 0, .aload 0, .sipush (16), .anewarray 1, .multianewarray 4 1, .aload 0, .sipush (16), .newarray .int, .multianewarray 4 2, .aload 0, .aload 1, .multianewarray 4 0, .return_])]
def hq6_0 : List (List (List Nat)) := [[[], [224, 105, 106], [], [], [225], [227], [], [], [127], [228], [], [], [226], []]]
set_option maxRecDepth 100000 in
theorem cq6_0 : mm_chkM 6 bq6_0 hq6_0 = true := by decide +kernel
-- LispForge$Machine.<init> ()V
def bq7_0 : List (Nat × List Instr) := [(0, [.aload 0, .invokespecial 0, .aload 0, .new 1, .dup, .sipush (600), .invokevirtual 1, .multianewarray 5 0, .aload 0, .sipush (120), .newarray .int, .multianewarray 5 1, .aload 0, .sipush (24), .newarray .int, .multianewarray 5 3, .aload 0, .sipush (24), .newarray .int, .multianewarray 5 4, .aload 0, .sipush (0), .multianewarray 5 6, .return_])]
def hq7_0 : List (List (List Nat)) := [[[], [247, 105, 106], [], [248, 108, 80], [], [], [249, 110, 80, 111], [250], [], [], [127], [252], [], [], [127], [255], [], [], [127], [256], [], [], [259], []]]
set_option maxRecDepth 100000 in
theorem cq7_0 : mm_chkM 7 bq7_0 hq7_0 = true := by decide +kernel
-- LispForge.write (J)Z
def bq8_0 : List (Nat × List Instr) := [(0, [.sipush (0), .istore 3, .sipush (56), .istore 4, .goto_w 6]),
  (6, [.iload 4, .ifCond .lt 49, .lload 1, .iload 4, .invokestatic 9, .istore 5, .iload 5, .ifCond .eq 43, .iload 5, .sipush (32), .if_icmp .lt 38, .iload 5, .sipush (126), .if_icmp .le 40, .goto_w 38]),
  (38, [.sipush (0), .freturn]),
  (40, [.iinc 3 (1), .goto_w 43]),
  (43, [.iinc 4 (-8), .goto 6]),
  (49, [.iload 3, .aload 0, .invokeinterface 0 0, .invokevirtual 10, .if_icmp .le 62, .sipush (0), .freturn]),
  (62, [.sipush (56), .istore 4, .goto_w 66])]
def hq8_0 : List (List (List Nat)) := [[[], [], [], [], []],
  [[], [], [], [], [317, 318, 79, 319], [], [], [], [], [], [], [], [], [], []],
  [[], []],
  [[], []],
  [[], []],
  [[], [], [288], [320, 321, 322, 80, 323], [], [], []],
  [[], [], []]]
set_option maxRecDepth 100000 in
theorem cq8_0 : mm_chkM 8 bq8_0 hq8_0 = true := by decide +kernel
def bq8_1 : List (Nat × List Instr) := [(66, [.iload 4, .ifCond .lt 99, .lload 1, .iload 4, .invokestatic 9, .istore 5, .iload 5, .ifCond .eq 93, .aload 0, .invokeinterface 0 0, .iload 5, .invokevirtual 11, .goto_w 93]),
  (93, [.iinc 4 (-8), .goto 66]),
  (99, [.sipush (1), .freturn])]
def hq8_1 : List (List (List Nat)) := [[[], [], [], [], [317, 318, 79, 319], [], [], [], [], [288], [], [324, 325, 326, 80, 327], []],
  [[], []],
  [[], []]]
set_option maxRecDepth 100000 in
theorem cq8_1 : mm_chkM 8 bq8_1 hq8_1 = true := by decide +kernel
-- LispForge.characterAt (JI)I
def bq9_0 : List (Nat × List Instr) := [(0, [.lload 0, .iload 2, .lushr, .l2i, .sipush (255), .iand, .ireturn])]
def hq9_0 : List (List (List Nat)) := [[[], [], [], [], [], [], []]]
set_option maxRecDepth 100000 in
theorem cq9_0 : mm_chkM 9 bq9_0 hq9_0 = true := by decide +kernel
-- LispForge$Bytes.room ()I
def bq10_0 : List (Nat × List Instr) := [(0, [.aload 0, .invokeinterface 1 0, .arraylength, .aload 0, .invokeinterface 1 1, .isub, .ireturn])]
def hq10_0 : List (List (List Nat)) := [[[], [116], [], [], [117], [], []]]
set_option maxRecDepth 100000 in
theorem cq10_0 : mm_chkM 10 bq10_0 hq10_0 = true := by decide +kernel
-- LispForge$Bytes.put (I)V
def bq11_0 : List (Nat × List Instr) := [(0, [.aload 0, .invokeinterface 1 1, .aload 0, .invokeinterface 1 0, .arraylength, .if_icmp .ge 36, .aload 0, .invokeinterface 1 0, .aload 0, .invokeinterface 1 1, .iload 1, .sipush (255), .iand, .iastore, .aload 0, .dup, .invokeinterface 1 1, .sipush (1), .iadd, .multianewarray 1 1, .goto_w 36]),
  (36, [.return_])]
def hq11_0 : List (List (List Nat)) := [[[], [117], [], [116], [], [], [], [116], [], [117], [], [], [], [], [], [], [117], [], [], [117], []],
  [[]]]
set_option maxRecDepth 100000 in
theorem cq11_0 : mm_chkM 11 bq11_0 hq11_0 = true := by decide +kernel
-- LispForge.position ()I
def bq12_0 : List (Nat × List Instr) := [(0, [.aload 0, .invokeinterface 0 6, .ireturn])]
def hq12_0 : List (List (List Nat)) := [[[], [294], []]]
set_option maxRecDepth 100000 in
theorem cq12_0 : mm_chkM 12 bq12_0 hq12_0 = true := by decide +kernel
-- LispForge.object (II)I
def bq13_0 : List (Nat × List Instr) := [(0, [.aload 0, .invokeinterface 0 2, .iload 1, .invokevirtual 14, .astore 3, .aload 3, .ifnull 21, .aload 3, .invokeinterface 9 0, .sipush (2), .if_icmp .ne 25, .goto_w 21]),
  (21, [.sipush (-1), .goto 33]),
  (25, [.aload 3, .invokeinterface 9 5, .iload 2, .invokevirtual 15, .goto_w 33]),
  (33, [.ireturn])]
def hq13_0 : List (List (List Nat)) := [[[], [290], [], [336, 337, 338, 83, 339], [], [], [], [], [613], [], [], []],
  [[], []],
  [[], [629], [], [340, 341, 342, 80, 343], []],
  [[]]]
set_option maxRecDepth 100000 in
theorem cq13_0 : mm_chkM 13 bq13_0 hq13_0 = true := by decide +kernel
-- LispForge$Shelf.unit (I)LLispForge$Unit;
def bq14_0 : List (Nat × List Instr) := [(0, [.iload 1, .ifCond .lt 21, .iload 1, .aload 0, .invokeinterface 8 1, .if_icmp .ge 21, .aload 0, .invokeinterface 8 0, .iload 1, .aaload, .goto 22]),
  (21, [.aconst_null, .goto_w 22]),
  (22, [.areturn])]
def hq14_0 : List (List (List Nat)) := [[[], [], [], [], [168], [], [], [167], [], [], []],
  [[], []],
  [[]]]
set_option maxRecDepth 100000 in
theorem cq14_0 : mm_chkM 14 bq14_0 hq14_0 = true := by decide +kernel
-- LispForge$Bytes.lengthOrByte (I)I
def bq15_0 : List (Nat × List Instr) := [(0, [.iload 1, .sipush (-1), .if_icmp .ne 12, .aload 0, .invokeinterface 1 1, .goto 17]),
  (12, [.aload 0, .iload 1, .invokevirtual 16, .goto_w 17]),
  (17, [.ireturn])]
def hq15_0 : List (List (List Nat)) := [[[], [], [], [], [117], []],
  [[], [], [344, 345, 346, 80, 347], []],
  [[]]]
set_option maxRecDepth 100000 in
theorem cq15_0 : mm_chkM 15 bq15_0 hq15_0 = true := by decide +kernel
-- LispForge$Bytes.at (I)I
def bq16_0 : List (Nat × List Instr) := [(0, [.iload 1, .ifCond .lt 21, .iload 1, .aload 0, .invokeinterface 1 1, .if_icmp .ge 21, .aload 0, .invokeinterface 1 0, .iload 1, .iaload, .goto 22]),
  (21, [.sipush (-1), .goto_w 22]),
  (22, [.ireturn])]
def hq16_0 : List (List (List Nat)) := [[[], [], [], [], [117], [], [], [116], [], [], []],
  [[], []],
  [[]]]
set_option maxRecDepth 100000 in
theorem cq16_0 : mm_chkM 16 bq16_0 hq16_0 = true := by decide +kernel
-- LispForge.clear ()V
def bq17_0 : List (Nat × List Instr) := [(0, [.aload 0, .invokeinterface 0 2, .invokevirtual 18, .return_])]
def hq17_0 : List (List (List Nat)) := [[[], [290], [352, 353, 354, 83, 355], []]]
set_option maxRecDepth 100000 in
theorem cq17_0 : mm_chkM 17 bq17_0 hq17_0 = true := by decide +kernel
-- LispForge$Shelf.empty ()V
def bq18_0 : List (Nat × List Instr) := [(0, [.aload 0, .sipush (0), .multianewarray 8 1, .return_])]
def hq18_0 : List (List (List Nat)) := [[[], [], [168], []]]
set_option maxRecDepth 100000 in
theorem cq18_0 : mm_chkM 18 bq18_0 hq18_0 = true := by decide +kernel
-- LispForge.failure ()I
def bq19_0 : List (Nat × List Instr) := [(0, [.aload 0, .invokeinterface 0 7, .ireturn])]
def hq19_0 : List (List (List Nat)) := [[[], [295], []]]
set_option maxRecDepth 100000 in
theorem cq19_0 : mm_chkM 19 bq19_0 hq19_0 = true := by decide +kernel
-- LispForge.image (I)I
def bq20_0 : List (Nat × List Instr) := [(0, [.aload 0, .invokeinterface 0 5, .invokeinterface 5 0, .iload 1, .invokevirtual 15, .ireturn])]
def hq20_0 : List (List (List Nat)) := [[[], [293], [251], [], [340, 341, 342, 80, 343], []]]
set_option maxRecDepth 100000 in
theorem cq20_0 : mm_chkM 20 bq20_0 hq20_0 = true := by decide +kernel
-- LispForge.restart ()Z
def bq21_0 : List (Nat × List Instr) := [(0, [.aload 0, .invokeinterface 0 5, .invokeinterface 5 6, .ifCond .ne 12, .sipush (0), .freturn]),
  (12, [.aload 0, .invokeinterface 0 5, .invokevirtual 22, .sipush (1), .freturn])]
def hq21_0 : List (List (List Nat)) := [[[], [293], [260], [], [], []],
  [[], [293], [368, 369, 370, 86, 371], [], []]]
set_option maxRecDepth 100000 in
theorem cq21_0 : mm_chkM 21 bq21_0 hq21_0 = true := by decide +kernel
-- LispForge$Machine.begin ()V
def bq22_0 : List (Nat × List Instr) := [(0, [.aload 0, .sipush (1), .multianewarray 5 6, .aload 0, .sipush (0), .multianewarray 5 2, .aload 0, .sipush (0), .multianewarray 5 5, .aload 0, .sipush (0), .multianewarray 5 7, .aload 0, .sipush (0), .multianewarray 5 8, .aload 0, .sipush (0), .multianewarray 5 9, .return_])]
def hq22_0 : List (List (List Nat)) := [[[], [], [259], [], [], [253], [], [], [257], [], [], [261], [], [], [263], [], [], [265], []]]
set_option maxRecDepth 100000 in
theorem cq22_0 : mm_chkM 22 bq22_0 hq22_0 = true := by decide +kernel
-- LispForge.about (I)I
def bq23_0 : List (Nat × List Instr) := [(0, [.iload 1, .lookupswitch 88 #[(0, 40), (1, 48), (2, 56), (3, 64), (4, 72), (5, 80)]]),
  (40, [.aload 0, .invokeinterface 0 5, .invokeinterface 5 6, .ireturn]),
  (48, [.aload 0, .invokeinterface 0 5, .invokeinterface 5 7, .ireturn]),
  (56, [.aload 0, .invokeinterface 0 5, .invokeinterface 5 8, .ireturn]),
  (64, [.aload 0, .invokeinterface 0 5, .invokeinterface 5 2, .ireturn]),
  (72, [.aload 0, .invokeinterface 0 5, .invokeinterface 5 5, .ireturn]),
  (80, [.aload 0, .invokeinterface 0 5, .invokeinterface 5 9, .ireturn]),
  (88, [.sipush (-1), .ireturn])]
def hq23_0 : List (List (List Nat)) := [[[], []],
  [[], [293], [260], []],
  [[], [293], [262], []],
  [[], [293], [264], []],
  [[], [293], [254], []],
  [[], [293], [258], []],
  [[], [293], [266], []],
  [[], []]]
set_option maxRecDepth 100000 in
theorem cq23_0 : mm_chkM 23 bq23_0 hq23_0 = true := by decide +kernel
-- LispForge.stack (I)I
def bq24_0 : List (Nat × List Instr) := [(0, [.aload 0, .invokeinterface 0 5, .iload 1, .invokevirtual 25, .ireturn])]
def hq24_0 : List (List (List Nat)) := [[[], [293], [], [380, 381, 382, 86, 383], []]]
set_option maxRecDepth 100000 in
theorem cq24_0 : mm_chkM 24 bq24_0 hq24_0 = true := by decide +kernel
-- LispForge$Machine.numberAt (I)I
def bq25_0 : List (Nat × List Instr) := [(0, [.iload 1, .ifCond .lt 27, .iload 1, .aload 0, .invokeinterface 5 2, .if_icmp .ge 27, .iload 1, .sipush (120), .if_icmp .ge 27, .aload 0, .invokeinterface 5 1, .iload 1, .iaload, .goto 28]),
  (27, [.sipush (0), .goto_w 28]),
  (28, [.ireturn])]
def hq25_0 : List (List (List Nat)) := [[[], [], [], [], [253], [], [], [], [], [], [252], [], [], []],
  [[], []],
  [[]]]
set_option maxRecDepth 100000 in
theorem cq25_0 : mm_chkM 25 bq25_0 hq25_0 = true := by decide +kernel
-- LispForge.top ()I
def bq26_0 : List (Nat × List Instr) := [(0, [.aload 0, .invokeinterface 0 5, .aload 0, .invokeinterface 0 5, .invokeinterface 5 2, .sipush (1), .isub, .invokevirtual 25, .ireturn])]
def hq26_0 : List (List (List Nat)) := [[[], [293], [], [293], [254], [], [], [380, 381, 382, 86, 383], []]]
set_option maxRecDepth 100000 in
theorem cq26_0 : mm_chkM 26 bq26_0 hq26_0 = true := by decide +kernel
-- LispForge.compile ()I
def bq27_0 : List (Nat × List Instr) := [(0, [.aload 0, .invokeinterface 0 1, .aload 0, .invokeinterface 0 0, .invokevirtual 28, .astore 1, .aload 0, .invokeinterface 0 0, .invokevirtual 43, .aload 0, .aload 1, .ifnonnull 34, .aload 0, .invokeinterface 0 1, .invokeinterface 6 6, .goto 35]),
  (34, [.sipush (-1), .goto_w 35]),
  (35, [.multianewarray 0 6, .aload 1, .ifnonnull 52, .checkcast 0]),
  (52, [.aload 0, .invokeinterface 0 3, .aload 1, .invokevirtual 44, .astore 2, .aload 2, .invokeinterface 9 0, .sipush (2), .if_icmp .eq 77, .aload 0, .invokeinterface 0 3, .aload 2, .invokevirtual 52, .goto_w 77]),
  (77, [.aload 0, .invokeinterface 0 2, .invokevirtual 85, .ifCond .eq 97, .checkcast 2])]
def hq27_0 : List (List (List Nat)) := [[[], [289], [], [288], [398, 399, 400, 82, 401], [], [], [288], [483, 484, 485, 80, 486], [], [], [], [], [289], [143], []],
  [[], []],
  [[294], [], [], [487, 528]],
  [[], [291], [], [555, 556, 557, 84, 558], [], [], [613], [], [], [], [291], [], [654, 655, 656, 84, 657], []],
  [[], [290], [825, 826, 827, 83, 828], [], [829, 838]]]
set_option maxRecDepth 100000 in
theorem cq27_0 : mm_chkM 27 bq27_0 hq27_0 = true := by decide +kernel
def bq27_1 : List (Nat × List Instr) := [(97, [.aload 0, .invokeinterface 0 2, .aload 2, .invokevirtual 86, .ireturn])]
def hq27_1 : List (List (List Nat)) := [[[], [290], [], [845, 846, 847, 83, 848], []]]
set_option maxRecDepth 100000 in
theorem cq27_1 : mm_chkM 27 bq27_1 hq27_1 = true := by decide +kernel
