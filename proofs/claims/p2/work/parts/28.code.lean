-- LispForgeLaw.run (LLispForge;I[J)I
def bq169_0 : List (Nat × List Instr) := [(0, [.aload 2, .sipush (0), .aload 0, .iload 1, .goto_w 4]),
  (7, [.i2l, .lastore, .goto 15]),
  (15, [.sipush (0), .ireturn])]
def hq169_0 : List (List (List Nat)) := [[[], [], [], [], []],
  [[], [], []],
  [[], []]]
set_option maxRecDepth 100000 in
theorem cq169_0 : mm_chkM 169 bq169_0 hq169_0 = true := by decide +kernel
