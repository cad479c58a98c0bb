/-! THE LAW'S BLOCKS, and its helpers' -/
-- law ([I)Z
set_option maxRecDepth 100000 in
theorem nb166_0 : mm_blk 166 0 = some [.new 0, .dup, .invokevirtual 0, .astore 1, .new 10, .dup, .invokevirtual 108, .astore 2, .sipush (1), .newarray .long, .astore 3, .sipush (0), .istore 4, .goto_w 23] := by decide +kernel
set_option maxRecDepth 100000 in
theorem nb166_23 : mm_blk 166 23 = some [.iload 4, .aload 0, .arraylength, .sipush (3), .isub, .if_icmp .gt 402, .aload 0, .iload 4, .iaload, .sipush (15), .iand, .lookupswitch 396 #[(0, 104), (1, 161), (2, 177), (3, 190), (4, 227), (5, 238), (6, 254), (7, 267), (8, 292), (9, 305), (10, 333), (11, 358), (12, 383)]] := by decide +kernel
set_option maxRecDepth 100000 in
theorem nb166_104 : mm_blk 166 104 = some [.aload 1, .aload 0, .iload 4, .sipush (1), .iadd, .iaload, .i2l, .sipush (32), .lshl, .aload 0, .iload 4, .sipush (2), .iadd, .iaload, .i2l, .jsr (4294967295), .land, .lor, .invokevirtual 8, .pop, .aload 2, .aload 0, .iload 4, .sipush (1), .iadd, .iaload, .i2l, .sipush (32), .lshl, .aload 0, .iload 4, .sipush (2), .iadd, .iaload, .i2l, .jsr (4294967295), .land, .lor, .invokevirtual 109, .pop, .goto 396] := by decide +kernel
set_option maxRecDepth 100000 in
theorem nb166_161 : mm_blk 166 161 = some [.aload 1, .aload 3, .putstatic 167, .istore 5, .aload 2, .invokevirtual 110, .istore 6, .goto 396] := by decide +kernel
set_option maxRecDepth 100000 in
theorem nb166_177 : mm_blk 166 177 = some [.aload 1, .invokevirtual 12, .aload 2, .invokevirtual 142, .if_icmp .eq 396, .sipush (0), .freturn] := by decide +kernel
set_option maxRecDepth 100000 in
theorem nb166_190 : mm_blk 166 190 = some [.aload 1, .aload 0, .iload 4, .sipush (1), .iadd, .iaload, .aload 0, .iload 4, .sipush (2), .iadd, .iaload, .invokevirtual 13, .pop, .aload 2, .aload 0, .iload 4, .sipush (1), .iadd, .iaload, .aload 0, .iload 4, .sipush (2), .iadd, .iaload, .invokevirtual 143, .pop, .goto 396] := by decide +kernel
set_option maxRecDepth 100000 in
theorem nb166_227 : mm_blk 166 227 = some [.aload 1, .invokevirtual 17, .aload 2, .invokevirtual 146, .goto 396] := by decide +kernel
set_option maxRecDepth 100000 in
theorem nb166_238 : mm_blk 166 238 = some [.aload 1, .aload 3, .putstatic 168, .istore 5, .aload 2, .invokevirtual 147, .istore 6, .goto 396] := by decide +kernel
set_option maxRecDepth 100000 in
theorem nb166_254 : mm_blk 166 254 = some [.aload 1, .invokevirtual 19, .pop, .aload 2, .invokevirtual 155, .pop, .goto 396] := by decide +kernel
set_option maxRecDepth 100000 in
theorem nb166_267 : mm_blk 166 267 = some [.aload 1, .aload 0, .iload 4, .sipush (1), .iadd, .iaload, .invokevirtual 20, .pop, .aload 2, .aload 0, .iload 4, .sipush (1), .iadd, .iaload, .invokevirtual 156, .pop, .goto 396] := by decide +kernel
set_option maxRecDepth 100000 in
theorem nb166_292 : mm_blk 166 292 = some [.aload 1, .invokevirtual 21, .pop, .aload 2, .invokevirtual 157, .pop, .goto 396] := by decide +kernel
set_option maxRecDepth 100000 in
theorem nb166_305 : mm_blk 166 305 = some [.aload 1, .aload 0, .iload 4, .sipush (1), .iadd, .iaload, .aload 3, .putstatic 169, .istore 5, .aload 2, .aload 0, .iload 4, .sipush (1), .iadd, .iaload, .invokevirtual 158, .istore 6, .goto 396] := by decide +kernel
set_option maxRecDepth 100000 in
theorem nb166_333 : mm_blk 166 333 = some [.aload 1, .aload 0, .iload 4, .sipush (1), .iadd, .iaload, .invokevirtual 23, .pop, .aload 2, .aload 0, .iload 4, .sipush (1), .iadd, .iaload, .invokevirtual 163, .pop, .goto 396] := by decide +kernel
set_option maxRecDepth 100000 in
theorem nb166_358 : mm_blk 166 358 = some [.aload 1, .aload 0, .iload 4, .sipush (1), .iadd, .iaload, .invokevirtual 24, .pop, .aload 2, .aload 0, .iload 4, .sipush (1), .iadd, .iaload, .invokevirtual 164, .pop, .goto 396] := by decide +kernel
set_option maxRecDepth 100000 in
theorem nb166_383 : mm_blk 166 383 = some [.aload 1, .invokevirtual 26, .pop, .aload 2, .invokevirtual 165, .pop, .goto 396] := by decide +kernel
set_option maxRecDepth 100000 in
theorem nb166_396 : mm_blk 166 396 = some [.iinc 4 (3), .goto 23] := by decide +kernel
set_option maxRecDepth 100000 in
theorem nb166_402 : mm_blk 166 402 = some [.sipush (1), .freturn] := by decide +kernel
set_option maxRecDepth 100000 in
theorem nl166 : mm_ml 166 = 7 := by decide +kernel
set_option maxRecDepth 100000 in
theorem nn166 : mm_na 166 = 1 := by decide +kernel
-- compile (LLispForge;[J)I
set_option maxRecDepth 100000 in
theorem nb167_0 : mm_blk 167 0 = some [.aload 1, .sipush (0), .aload 0, .goto_w 3] := by decide +kernel
set_option maxRecDepth 100000 in
theorem nb167_6 : mm_blk 167 6 = some [.i2l, .lastore, .goto 20] := by decide +kernel
set_option maxRecDepth 100000 in
theorem nb167_20 : mm_blk 167 20 = some [.sipush (0), .ireturn] := by decide +kernel
set_option maxRecDepth 100000 in
theorem nl167 : mm_ml 167 = 3 := by decide +kernel
set_option maxRecDepth 100000 in
theorem nn167 : mm_na 167 = 2 := by decide +kernel
-- link (LLispForge;[J)I
set_option maxRecDepth 100000 in
theorem nb168_0 : mm_blk 168 0 = some [.aload 1, .sipush (0), .aload 0, .goto_w 3] := by decide +kernel
set_option maxRecDepth 100000 in
theorem nb168_6 : mm_blk 168 6 = some [.i2l, .lastore, .goto 14] := by decide +kernel
set_option maxRecDepth 100000 in
theorem nb168_14 : mm_blk 168 14 = some [.sipush (0), .ireturn] := by decide +kernel
set_option maxRecDepth 100000 in
theorem nl168 : mm_ml 168 = 3 := by decide +kernel
set_option maxRecDepth 100000 in
theorem nn168 : mm_na 168 = 2 := by decide +kernel
-- run (LLispForge;I[J)I
set_option maxRecDepth 100000 in
theorem nb169_0 : mm_blk 169 0 = some [.aload 2, .sipush (0), .aload 0, .iload 1, .goto_w 4] := by decide +kernel
set_option maxRecDepth 100000 in
theorem nb169_7 : mm_blk 169 7 = some [.i2l, .lastore, .goto 15] := by decide +kernel
set_option maxRecDepth 100000 in
theorem nb169_15 : mm_blk 169 15 = some [.sipush (0), .ireturn] := by decide +kernel
set_option maxRecDepth 100000 in
theorem nl169 : mm_ml 169 = 4 := by decide +kernel
set_option maxRecDepth 100000 in
theorem nn169 : mm_na 169 = 3 := by decide +kernel
