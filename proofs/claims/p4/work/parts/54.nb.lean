-- <init> ()V
set_option maxRecDepth 100000 in
theorem nb108_0 : mm_blk 108 0 = some [.aload 0, .invokespecial 0, .aload 0, .sipush (-1), .multianewarray 10 3, .aload 0, .sipush (120), .newarray .char, .multianewarray 10 5, .aload 0, .sipush (16), .newarray .int, .multianewarray 10 6, .aload 0, .sipush (16), .newarray .int, .multianewarray 10 7, .aload 0, .sipush (16), .newarray .int, .multianewarray 10 8, .aload 0, .sipush (16), .newarray .int, .multianewarray 10 9, .aload 0, .sipush (3200), .newarray .byte, .multianewarray 10 10, .aload 0, .sipush (16), .newarray .int, .multianewarray 10 11, .aload 0, .sipush (800), .newarray .int, .multianewarray 10 12, .aload 0, .sipush (800), .newarray .int, .multianewarray 10 13, .aload 0, .sipush (64), .newarray .int, .multianewarray 10 14, .aload 0, .sipush (1920), .newarray .char, .multianewarray 10 15, .aload 0, .sipush (16), .newarray .int, .multianewarray 10 16, .aload 0, .sipush (1300), .newarray .int, .multianewarray 10 19, .aload 0, .sipush (1300), .newarray .int, .multianewarray 10 20, .aload 0, .sipush (1300), .newarray .int, .multianewarray 10 21, .aload 0, .sipush (1300), .newarray .int, .multianewarray 10 22, .aload 0, .sipush (9), .newarray .int, .multianewarray 10 26, .aload 0, .sipush (9), .newarray .int, .multianewarray 10 27, .aload 0, .sipush (300), .newarray .int, .multianewarray 10 35, .aload 0, .sipush (300), .newarray .int, .multianewarray 10 36, .aload 0, .sipush (300), .newarray .int, .multianewarray 10 37, .aload 0, .sipush (260), .newarray .byte, .multianewarray 10 38, .aload 0, .sipush (120), .newarray .int, .multianewarray 10 39, .aload 0, .sipush (120), .newarray .int, .multianewarray 10 40, .aload 0, .sipush (70), .newarray .int, .multianewarray 10 41, .aload 0, .sipush (70), .newarray .int, .multianewarray 10 42, .aload 0, .sipush (16), .newarray .int, .multianewarray 10 44, .aload 0, .sipush (16), .newarray .int, .multianewarray 10 45, .aload 0, .sipush (600), .newarray .byte, .multianewarray 10 47, .aload 0, .sipush (120), .newarray .int, .multianewarray 10 54, .aload 0, .sipush (24), .newarray .int, .multianewarray 10 55, .aload 0, .sipush (24), .newarray .int, .multianewarray 10 56, .return_] := by decide +kernel
set_option maxRecDepth 100000 in
theorem nl108 : mm_ml 108 = 1 := by decide +kernel
set_option maxRecDepth 100000 in
theorem nn108 : mm_na 108 = 1 := by decide +kernel
set_option maxRecDepth 100000 in
theorem nc108 : mm_ci 108 = 10 := by decide +kernel
-- write (J)Z
set_option maxRecDepth 100000 in
theorem nb109_0 : mm_blk 109 0 = some [.aload 0, .sipush (0), .multianewarray 10 0, .aload 0, .invokeinterface 10 1, .istore 3, .sipush (1), .istore 4, .sipush (7), .istore 5, .goto_w 17] := by decide +kernel
set_option maxRecDepth 100000 in
theorem nb109_17 : mm_blk 109 17 = some [.iload 5, .ifCond .lt 101, .lload 1, .sipush (8), .iload 5, .imul, .lushr, .l2i, .sipush (255), .iand, .istore 6, .iload 4, .ifCond .eq 70, .iload 6, .ifCond .eq 66, .iload 6, .sipush (31), .if_icmp .le 70, .iload 6, .sipush (127), .if_icmp .ge 70, .iload 3, .sipush (120), .if_icmp .ge 70, .goto_w 66] := by decide +kernel
set_option maxRecDepth 100000 in
theorem nb109_66 : mm_blk 109 66 = some [.sipush (1), .goto 71] := by decide +kernel
set_option maxRecDepth 100000 in
theorem nb109_70 : mm_blk 109 70 = some [.sipush (0), .goto_w 71] := by decide +kernel
set_option maxRecDepth 100000 in
theorem nb109_71 : mm_blk 109 71 = some [.istore 4, .iload 4, .ifCond .eq 95, .iload 6, .ifCond .eq 95, .aload 0, .invokeinterface 10 5, .iload 3, .iload 6, .i2c, .castore, .iinc 3 (1), .goto_w 95] := by decide +kernel
set_option maxRecDepth 100000 in
theorem nb109_95 : mm_blk 109 95 = some [.iinc 5 (-1), .goto 17] := by decide +kernel
set_option maxRecDepth 100000 in
theorem nb109_101 : mm_blk 109 101 = some [.aload 0, .iload 4, .ifCond .eq 111, .iload 3, .goto 115] := by decide +kernel
set_option maxRecDepth 100000 in
theorem nb109_111 : mm_blk 109 111 = some [.aload 0, .invokeinterface 10 1, .goto_w 115] := by decide +kernel
set_option maxRecDepth 100000 in
theorem nb109_115 : mm_blk 109 115 = some [.multianewarray 10 1, .iload 4, .freturn] := by decide +kernel
set_option maxRecDepth 100000 in
theorem nl109 : mm_ml 109 = 7 := by decide +kernel
set_option maxRecDepth 100000 in
theorem nn109 : mm_na 109 = 2 := by decide +kernel
set_option maxRecDepth 100000 in
theorem nc109 : mm_ci 109 = 10 := by decide +kernel
-- compile ()I
set_option maxRecDepth 100000 in
theorem nb110_0 : mm_blk 110 0 = some [.aload 0, .sipush (0), .multianewarray 10 17, .aload 0, .sipush (0), .multianewarray 10 18, .aload 0, .sipush (0), .multianewarray 10 32, .aload 0, .sipush (0), .multianewarray 10 28, .aload 0, .sipush (-1), .sipush (0), .sipush (-1), .invokevirtual 111, .istore 1, .aload 0, .aload 0, .invokeinterface 10 24, .multianewarray 10 3, .aload 0, .aload 0, .invokeinterface 10 24, .ifCond .lt 48, .sipush (1), .goto 49] := by decide +kernel
set_option maxRecDepth 100000 in
theorem nb110_48 : mm_blk 110 48 = some [.sipush (0), .goto_w 49] := by decide +kernel
set_option maxRecDepth 100000 in
theorem nb110_49 : mm_blk 110 49 = some [.multianewarray 10 0, .sipush (0), .istore 2, .aload 0, .invokeinterface 10 0, .ifCond .ne 339, .aload 0, .iload 1, .invokevirtual 120, .istore 3, .iload 3, .sipush (109), .sipush (97), .sipush (99), .invokestatic 123, .if_icmp .ne 84, .sipush (1), .goto 85] := by decide +kernel
set_option maxRecDepth 100000 in
theorem nb110_84 : mm_blk 110 84 = some [.sipush (0), .goto_w 85] := by decide +kernel
set_option maxRecDepth 100000 in
theorem nb110_85 : mm_blk 110 85 = some [.istore 4, .iload 3, .sipush (100), .sipush (101), .sipush (102), .invokestatic 123, .if_icmp .ne 104, .sipush (1), .goto 105] := by decide +kernel
set_option maxRecDepth 100000 in
theorem nb110_104 : mm_blk 110 104 = some [.sipush (0), .goto_w 105] := by decide +kernel
set_option maxRecDepth 100000 in
theorem nb110_105 : mm_blk 110 105 = some [.istore 5, .sipush (0), .istore 6, .iload 4, .ifCond .ne 120, .iload 5, .ifCond .eq 191, .goto_w 120] := by decide +kernel
set_option maxRecDepth 100000 in
theorem nb110_120 : mm_blk 110 120 = some [.aload 0, .aload 0, .iload 1, .invokevirtual 121, .sipush (4), .if_icmp .ne 160, .aload 0, .aload 0, .iload 1, .sipush (1), .invokevirtual 122, .invokevirtual 124, .ifCond .eq 160, .aload 0, .invokeinterface 10 20, .aload 0, .iload 1, .sipush (1), .invokevirtual 122, .iaload, .invokestatic 125, .ifCond .eq 164, .goto_w 160] := by decide +kernel
set_option maxRecDepth 100000 in
theorem nb110_160 : mm_blk 110 160 = some [.sipush (1), .goto 165] := by decide +kernel
set_option maxRecDepth 100000 in
theorem nb110_164 : mm_blk 110 164 = some [.sipush (0), .goto_w 165] := by decide +kernel
set_option maxRecDepth 100000 in
theorem nb110_165 : mm_blk 110 165 = some [.multianewarray 10 28, .aload 0, .invokeinterface 10 28, .ifCond .eq 179, .sipush (0), .goto 189] := by decide +kernel
set_option maxRecDepth 100000 in
theorem nb110_179 : mm_blk 110 179 = some [.aload 0, .aload 0, .iload 1, .sipush (2), .invokevirtual 122, .invokevirtual 126, .goto_w 189] := by decide +kernel
set_option maxRecDepth 100000 in
theorem nb110_189 : mm_blk 110 189 = some [.istore 6, .goto_w 191] := by decide +kernel
set_option maxRecDepth 100000 in
theorem nb110_191 : mm_blk 110 191 = some [.aload 0, .invokeinterface 10 28, .ifCond .ne 236, .iload 4, .ifCond .ne 236, .aload 0, .iload 5, .ifCond .eq 218, .aload 0, .iload 1, .sipush (3), .invokevirtual 122, .goto 219] := by decide +kernel
set_option maxRecDepth 100000 in
theorem nb110_218 : mm_blk 110 218 = some [.iload 1, .goto_w 219] := by decide +kernel
set_option maxRecDepth 100000 in
theorem nb110_219 : mm_blk 110 219 = some [.iload 5, .ifCond .eq 229, .sipush (13), .goto 231] := by decide +kernel
set_option maxRecDepth 100000 in
theorem nb110_229 : mm_blk 110 229 = some [.sipush (14), .goto_w 231] := by decide +kernel
set_option maxRecDepth 100000 in
theorem nb110_231 : mm_blk 110 231 = some [.iload 6, .invokevirtual 128, .goto_w 236] := by decide +kernel
set_option maxRecDepth 100000 in
theorem nb110_236 : mm_blk 110 236 = some [.aload 0, .aload 0, .invokeinterface 10 28, .ifCond .eq 248, .sipush (2), .goto 262] := by decide +kernel
set_option maxRecDepth 100000 in
theorem nb110_248 : mm_blk 110 248 = some [.aload 0, .invokeinterface 10 2, .sipush (16), .if_icmp .ne 261, .sipush (3), .goto 262] := by decide +kernel
set_option maxRecDepth 100000 in
theorem nb110_261 : mm_blk 110 261 = some [.sipush (0), .goto_w 262] := by decide +kernel
set_option maxRecDepth 100000 in
theorem nb110_262 : mm_blk 110 262 = some [.multianewarray 10 0, .aload 0, .invokeinterface 10 0, .ifCond .ne 339, .aload 0, .iload 4, .ifCond .eq 282, .sipush (2), .goto 292] := by decide +kernel
set_option maxRecDepth 100000 in
theorem nb110_282 : mm_blk 110 282 = some [.iload 5, .ifCond .eq 291, .sipush (1), .goto 292] := by decide +kernel
set_option maxRecDepth 100000 in
theorem nb110_291 : mm_blk 110 291 = some [.sipush (0), .goto_w 292] := by decide +kernel
set_option maxRecDepth 100000 in
theorem nb110_292 : mm_blk 110 292 = some [.iload 4, .ifCond .ne 302, .iload 5, .ifCond .eq 316, .goto_w 302] := by decide +kernel
set_option maxRecDepth 100000 in
theorem nb110_302 : mm_blk 110 302 = some [.aload 0, .invokeinterface 10 20, .aload 0, .iload 1, .sipush (1), .invokevirtual 122, .iaload, .goto 317] := by decide +kernel
set_option maxRecDepth 100000 in
theorem nb110_316 : mm_blk 110 316 = some [.sipush (0), .goto_w 317] := by decide +kernel
set_option maxRecDepth 100000 in
theorem nb110_317 : mm_blk 110 317 = some [.iload 6, .iload 4, .ifCond .eq 331, .aload 0, .invokevirtual 140, .goto 335] := by decide +kernel
set_option maxRecDepth 100000 in
theorem nb110_331 : mm_blk 110 331 = some [.aload 0, .invokeinterface 10 1, .goto_w 335] := by decide +kernel
set_option maxRecDepth 100000 in
theorem nb110_335 : mm_blk 110 335 = some [.invokevirtual 141, .istore 2, .goto_w 339] := by decide +kernel
set_option maxRecDepth 100000 in
theorem nb110_339 : mm_blk 110 339 = some [.aload 0, .sipush (0), .multianewarray 10 1, .iload 2, .ireturn] := by decide +kernel
set_option maxRecDepth 100000 in
theorem nl110 : mm_ml 110 = 7 := by decide +kernel
set_option maxRecDepth 100000 in
theorem nn110 : mm_na 110 = 1 := by decide +kernel
set_option maxRecDepth 100000 in
theorem nc110 : mm_ci 110 = 10 := by decide +kernel
-- read (III)I
set_option maxRecDepth 100000 in
theorem nb111_0 : mm_blk 111 0 = some [.aload 0, .iload 2, .multianewarray 10 23, .aload 0, .sipush (-1), .multianewarray 10 24, .aload 0, .sipush (0), .multianewarray 10 25, .sipush (-1), .istore 4, .sipush (1), .istore 5, .goto_w 21] := by decide +kernel
set_option maxRecDepth 100000 in
theorem nb111_21 : mm_blk 111 21 = some [.aload 0, .invokeinterface 10 24, .ifCond .ge 384, .iload 4, .ifCond .lt 37, .iload 1, .ifCond .ge 384, .goto_w 37] := by decide +kernel
set_option maxRecDepth 100000 in
theorem nb111_37 : mm_blk 111 37 = some [.aload 0, .iload 1, .aload 0, .invokeinterface 10 23, .invokevirtual 112, .istore 6, .iload 6, .invokestatic 113, .ifCond .ne 72, .iload 6, .invokestatic 114, .ifCond .ne 72, .iload 6, .invokestatic 115, .ifCond .eq 76, .goto_w 72] := by decide +kernel
set_option maxRecDepth 100000 in
theorem nb111_72 : mm_blk 111 72 = some [.sipush (1), .goto 77] := by decide +kernel
set_option maxRecDepth 100000 in
theorem nb111_76 : mm_blk 111 76 = some [.sipush (0), .goto_w 77] := by decide +kernel
set_option maxRecDepth 100000 in
theorem nb111_77 : mm_blk 111 77 = some [.istore 7, .iload 6, .sipush (32), .if_icmp .ne 102, .aload 0, .dup, .invokeinterface 10 23, .sipush (1), .iadd, .multianewarray 10 23, .sipush (1), .istore 5, .goto 381] := by decide +kernel
set_option maxRecDepth 100000 in
theorem nb111_102 : mm_blk 111 102 = some [.iload 6, .ifCond .ne 115, .iload 4, .ifCond .lt 115, .iload 4, .ireturn] := by decide +kernel
set_option maxRecDepth 100000 in
theorem nb111_115 : mm_blk 111 115 = some [.iload 6, .sipush (41), .if_icmp .ne 174, .aload 0, .invokeinterface 10 25, .ifCond .le 174, .aload 0, .dup, .invokeinterface 10 23, .sipush (1), .iadd, .multianewarray 10 23, .aload 0, .dup, .invokeinterface 10 25, .sipush (1), .isub, .multianewarray 10 25, .sipush (1), .istore 5, .aload 0, .invokeinterface 10 25, .ifCond .ne 168, .aload 0, .invokeinterface 10 26, .sipush (1), .iaload, .goto 169] := by decide +kernel
set_option maxRecDepth 100000 in
theorem nb111_168 : mm_blk 111 168 = some [.sipush (-1), .goto_w 169] := by decide +kernel
set_option maxRecDepth 100000 in
theorem nb111_169 : mm_blk 111 169 = some [.istore 4, .goto 381] := by decide +kernel
set_option maxRecDepth 100000 in
theorem nb111_174 : mm_blk 111 174 = some [.iload 4, .ifCond .ge 212, .iload 6, .sipush (40), .if_icmp .eq 196, .iload 7, .ifCond .eq 212, .iload 5, .ifCond .eq 212, .goto_w 196] := by decide +kernel
set_option maxRecDepth 100000 in
theorem nb111_196 : mm_blk 111 196 = some [.iload 6, .sipush (40), .if_icmp .ne 223, .aload 0, .invokeinterface 10 25, .sipush (8), .if_icmp .ne 223, .goto_w 212] := by decide +kernel
set_option maxRecDepth 100000 in
theorem nb111_212 : mm_blk 111 212 = some [.aload 0, .aload 0, .invokeinterface 10 23, .multianewarray 10 24, .goto 381] := by decide +kernel
set_option maxRecDepth 100000 in
theorem nb111_223 : mm_blk 111 223 = some [.iload 6, .sipush (40), .if_icmp .ne 298, .aload 0, .sipush (2), .sipush (-1), .invokevirtual 116, .istore 8, .aload 0, .invokeinterface 10 25, .ifCond .le 251, .aload 0, .iload 8, .invokevirtual 117, .goto_w 251] := by decide +kernel
set_option maxRecDepth 100000 in
theorem nb111_251 : mm_blk 111 251 = some [.aload 0, .dup, .invokeinterface 10 23, .sipush (1), .iadd, .multianewarray 10 23, .aload 0, .dup, .invokeinterface 10 25, .sipush (1), .iadd, .multianewarray 10 25, .aload 0, .invokeinterface 10 26, .aload 0, .invokeinterface 10 25, .iload 8, .iastore, .aload 0, .invokeinterface 10 27, .aload 0, .invokeinterface 10 25, .sipush (-1), .iastore, .sipush (1), .istore 5, .goto 381] := by decide +kernel
set_option maxRecDepth 100000 in
theorem nb111_298 : mm_blk 111 298 = some [.iload 6, .invokestatic 113, .ifCond .ne 330, .iload 6, .sipush (45), .if_icmp .ne 334, .aload 0, .iload 1, .aload 0, .invokeinterface 10 23, .sipush (1), .iadd, .invokevirtual 112, .invokestatic 113, .ifCond .eq 334, .goto_w 330] := by decide +kernel
set_option maxRecDepth 100000 in
theorem nb111_330 : mm_blk 111 330 = some [.sipush (1), .goto 335] := by decide +kernel
set_option maxRecDepth 100000 in
theorem nb111_334 : mm_blk 111 334 = some [.sipush (0), .goto_w 335] := by decide +kernel
set_option maxRecDepth 100000 in
theorem nb111_335 : mm_blk 111 335 = some [.istore 8, .iload 8, .ifCond .eq 350, .aload 0, .iload 1, .invokevirtual 118, .goto 356] := by decide +kernel
set_option maxRecDepth 100000 in
theorem nb111_350 : mm_blk 111 350 = some [.aload 0, .iload 1, .iload 3, .invokevirtual 119, .goto_w 356] := by decide +kernel
set_option maxRecDepth 100000 in
theorem nb111_356 : mm_blk 111 356 = some [.istore 9, .aload 0, .invokeinterface 10 25, .ifCond .le 374, .aload 0, .iload 9, .invokevirtual 117, .goto 378] := by decide +kernel
set_option maxRecDepth 100000 in
theorem nb111_374 : mm_blk 111 374 = some [.iload 9, .istore 4, .goto_w 378] := by decide +kernel
set_option maxRecDepth 100000 in
theorem nb111_378 : mm_blk 111 378 = some [.sipush (0), .istore 5, .goto_w 381] := by decide +kernel
set_option maxRecDepth 100000 in
theorem nb111_381 : mm_blk 111 381 = some [.goto 21] := by decide +kernel
set_option maxRecDepth 100000 in
theorem nb111_384 : mm_blk 111 384 = some [.iload 4, .ireturn] := by decide +kernel
set_option maxRecDepth 100000 in
theorem nl111 : mm_ml 111 = 10 := by decide +kernel
set_option maxRecDepth 100000 in
theorem nn111 : mm_na 111 = 4 := by decide +kernel
set_option maxRecDepth 100000 in
theorem nc111 : mm_ci 111 = 10 := by decide +kernel
-- at (II)I
set_option maxRecDepth 100000 in
theorem nb112_0 : mm_blk 112 0 = some [.iload 1, .ifCond .ge 23, .iload 2, .aload 0, .invokeinterface 10 1, .if_icmp .ge 21, .aload 0, .invokeinterface 10 5, .iload 2, .caload, .goto 22] := by decide +kernel
set_option maxRecDepth 100000 in
theorem nb112_21 : mm_blk 112 21 = some [.sipush (0), .goto_w 22] := by decide +kernel
set_option maxRecDepth 100000 in
theorem nb112_22 : mm_blk 112 22 = some [.ireturn] := by decide +kernel
set_option maxRecDepth 100000 in
theorem nb112_23 : mm_blk 112 23 = some [.iload 2, .aload 0, .invokeinterface 10 16, .iload 1, .iaload, .if_icmp .ge 47, .aload 0, .invokeinterface 10 15, .sipush (120), .iload 1, .imul, .iload 2, .iadd, .caload, .goto 48] := by decide +kernel
set_option maxRecDepth 100000 in
theorem nb112_47 : mm_blk 112 47 = some [.sipush (0), .goto_w 48] := by decide +kernel
set_option maxRecDepth 100000 in
theorem nb112_48 : mm_blk 112 48 = some [.ireturn] := by decide +kernel
set_option maxRecDepth 100000 in
theorem nl112 : mm_ml 112 = 3 := by decide +kernel
set_option maxRecDepth 100000 in
theorem nn112 : mm_na 112 = 3 := by decide +kernel
set_option maxRecDepth 100000 in
theorem nc112 : mm_ci 112 = 10 := by decide +kernel
-- isDigit (I)Z
set_option maxRecDepth 100000 in
theorem nb113_0 : mm_blk 113 0 = some [.iload 0, .sipush (48), .if_icmp .lt 16, .iload 0, .sipush (57), .if_icmp .gt 16, .sipush (1), .goto 17] := by decide +kernel
set_option maxRecDepth 100000 in
theorem nb113_16 : mm_blk 113 16 = some [.sipush (0), .goto_w 17] := by decide +kernel
set_option maxRecDepth 100000 in
theorem nb113_17 : mm_blk 113 17 = some [.freturn] := by decide +kernel
set_option maxRecDepth 100000 in
theorem nl113 : mm_ml 113 = 1 := by decide +kernel
set_option maxRecDepth 100000 in
theorem nn113 : mm_na 113 = 1 := by decide +kernel
set_option maxRecDepth 100000 in
theorem nc113 : mm_ci 113 = 10 := by decide +kernel
-- isLetter (I)Z
set_option maxRecDepth 100000 in
theorem nb114_0 : mm_blk 114 0 = some [.iload 0, .sipush (97), .if_icmp .lt 16, .iload 0, .sipush (122), .if_icmp .gt 16, .sipush (1), .goto 17] := by decide +kernel
set_option maxRecDepth 100000 in
theorem nb114_16 : mm_blk 114 16 = some [.sipush (0), .goto_w 17] := by decide +kernel
set_option maxRecDepth 100000 in
theorem nb114_17 : mm_blk 114 17 = some [.freturn] := by decide +kernel
set_option maxRecDepth 100000 in
theorem nl114 : mm_ml 114 = 1 := by decide +kernel
set_option maxRecDepth 100000 in
theorem nn114 : mm_na 114 = 1 := by decide +kernel
set_option maxRecDepth 100000 in
theorem nc114 : mm_ci 114 = 10 := by decide +kernel
-- isSign (I)Z
set_option maxRecDepth 100000 in
theorem nb115_0 : mm_blk 115 0 = some [.iload 0, .sipush (43), .if_icmp .eq 30, .iload 0, .sipush (45), .if_icmp .eq 30, .iload 0, .sipush (42), .if_icmp .eq 30, .iload 0, .sipush (60), .if_icmp .eq 30, .iload 0, .sipush (61), .if_icmp .ne 34, .goto_w 30] := by decide +kernel
set_option maxRecDepth 100000 in
theorem nb115_30 : mm_blk 115 30 = some [.sipush (1), .goto 35] := by decide +kernel
set_option maxRecDepth 100000 in
theorem nb115_34 : mm_blk 115 34 = some [.sipush (0), .goto_w 35] := by decide +kernel
set_option maxRecDepth 100000 in
theorem nb115_35 : mm_blk 115 35 = some [.freturn] := by decide +kernel
set_option maxRecDepth 100000 in
theorem nl115 : mm_ml 115 = 1 := by decide +kernel
set_option maxRecDepth 100000 in
theorem nn115 : mm_na 115 = 1 := by decide +kernel
set_option maxRecDepth 100000 in
theorem nc115 : mm_ci 115 = 10 := by decide +kernel
-- form (II)I
set_option maxRecDepth 100000 in
theorem nb116_0 : mm_blk 116 0 = some [.aload 0, .invokeinterface 10 19, .aload 0, .invokeinterface 10 17, .iload 1, .iastore, .aload 0, .invokeinterface 10 20, .aload 0, .invokeinterface 10 17, .iload 2, .iastore, .aload 0, .dup, .invokeinterface 10 17, .sipush (1), .iadd, .multianewarray 10 17, .aload 0, .invokeinterface 10 17, .sipush (1), .isub, .ireturn] := by decide +kernel
set_option maxRecDepth 100000 in
theorem nl116 : mm_ml 116 = 3 := by decide +kernel
set_option maxRecDepth 100000 in
theorem nn116 : mm_na 116 = 3 := by decide +kernel
set_option maxRecDepth 100000 in
theorem nc116 : mm_ci 116 = 10 := by decide +kernel
-- joins (I)V
set_option maxRecDepth 100000 in
theorem nb117_0 : mm_blk 117 0 = some [.aload 0, .invokeinterface 10 21, .aload 0, .invokeinterface 10 18, .iload 1, .iastore, .aload 0, .invokeinterface 10 22, .aload 0, .invokeinterface 10 18, .sipush (-1), .iastore, .aload 0, .invokeinterface 10 27, .aload 0, .invokeinterface 10 25, .iaload, .ifCond .ge 53, .aload 0, .invokeinterface 10 20, .aload 0, .invokeinterface 10 26, .aload 0, .invokeinterface 10 25, .iaload, .aload 0, .invokeinterface 10 18, .iastore, .goto 71] := by decide +kernel
set_option maxRecDepth 100000 in
theorem nb117_53 : mm_blk 117 53 = some [.aload 0, .invokeinterface 10 22, .aload 0, .invokeinterface 10 27, .aload 0, .invokeinterface 10 25, .iaload, .aload 0, .invokeinterface 10 18, .iastore, .goto_w 71] := by decide +kernel
set_option maxRecDepth 100000 in
theorem nb117_71 : mm_blk 117 71 = some [.aload 0, .invokeinterface 10 27, .aload 0, .invokeinterface 10 25, .aload 0, .invokeinterface 10 18, .iastore, .aload 0, .dup, .invokeinterface 10 18, .sipush (1), .iadd, .multianewarray 10 18, .return_] := by decide +kernel
set_option maxRecDepth 100000 in
theorem nl117 : mm_ml 117 = 2 := by decide +kernel
set_option maxRecDepth 100000 in
theorem nn117 : mm_na 117 = 2 := by decide +kernel
set_option maxRecDepth 100000 in
theorem nc117 : mm_ci 117 = 10 := by decide +kernel
-- number (I)I
set_option maxRecDepth 100000 in
theorem nb118_0 : mm_blk 118 0 = some [.sipush (1), .istore 2, .aload 0, .iload 1, .aload 0, .invokeinterface 10 23, .invokevirtual 112, .sipush (45), .if_icmp .ne 28, .sipush (-1), .istore 2, .aload 0, .dup, .invokeinterface 10 23, .sipush (1), .iadd, .multianewarray 10 23, .goto_w 28] := by decide +kernel
set_option maxRecDepth 100000 in
theorem nb118_28 : mm_blk 118 28 = some [.sipush (0), .istore 3, .sipush (0), .istore 4, .goto_w 33] := by decide +kernel
set_option maxRecDepth 100000 in
theorem nb118_33 : mm_blk 118 33 = some [.iload 4, .sipush (4), .if_icmp .ge 88, .aload 0, .iload 1, .aload 0, .invokeinterface 10 23, .invokevirtual 112, .invokestatic 113, .ifCond .eq 88, .sipush (10), .iload 3, .imul, .aload 0, .iload 1, .aload 0, .invokeinterface 10 23, .invokevirtual 112, .iadd, .sipush (48), .isub, .istore 3, .aload 0, .dup, .invokeinterface 10 23, .sipush (1), .iadd, .multianewarray 10 23, .iinc 4 (1), .goto 33] := by decide +kernel
set_option maxRecDepth 100000 in
theorem nb118_88 : mm_blk 118 88 = some [.aload 0, .sipush (0), .iload 2, .iload 3, .imul, .invokevirtual 116, .ireturn] := by decide +kernel
set_option maxRecDepth 100000 in
theorem nl118 : mm_ml 118 = 5 := by decide +kernel
set_option maxRecDepth 100000 in
theorem nn118 : mm_na 118 = 2 := by decide +kernel
set_option maxRecDepth 100000 in
theorem nc118 : mm_ci 118 = 10 := by decide +kernel
-- symbolForm (II)I
set_option maxRecDepth 100000 in
theorem nb119_0 : mm_blk 119 0 = some [.aload 0, .iload 1, .aload 0, .invokeinterface 10 23, .invokevirtual 112, .istore 3, .aload 0, .dup, .invokeinterface 10 23, .sipush (1), .iadd, .multianewarray 10 23, .sipush (1), .istore 4, .goto_w 23] := by decide +kernel
set_option maxRecDepth 100000 in
theorem nb119_23 : mm_blk 119 23 = some [.iload 4, .sipush (4), .if_icmp .ge 86, .iload 3, .sipush (255), .iand, .invokestatic 114, .ifCond .eq 86, .aload 0, .iload 1, .aload 0, .invokeinterface 10 23, .invokevirtual 112, .invokestatic 114, .ifCond .eq 86, .iload 3, .sipush (8), .ishl, .aload 0, .iload 1, .aload 0, .invokeinterface 10 23, .invokevirtual 112, .ior, .istore 3, .aload 0, .dup, .invokeinterface 10 23, .sipush (1), .iadd, .multianewarray 10 23, .iinc 4 (1), .goto 23] := by decide +kernel
set_option maxRecDepth 100000 in
theorem nb119_86 : mm_blk 119 86 = some [.iload 2, .istore 4, .sipush (0), .istore 5, .goto_w 92] := by decide +kernel
set_option maxRecDepth 100000 in
theorem nb119_92 : mm_blk 119 92 = some [.iload 1, .ifCond .lt 145, .iload 5, .aload 0, .invokeinterface 10 8, .iload 1, .iaload, .if_icmp .ge 145, .aload 0, .invokeinterface 10 14, .sipush (4), .iload 1, .imul, .iload 5, .iadd, .iaload, .iload 3, .if_icmp .ne 130, .aload 0, .invokeinterface 10 21, .iload 4, .iaload, .ireturn] := by decide +kernel
set_option maxRecDepth 100000 in
theorem nb119_130 : mm_blk 119 130 = some [.aload 0, .invokeinterface 10 22, .iload 4, .iaload, .istore 4, .iinc 5 (1), .goto 92] := by decide +kernel
set_option maxRecDepth 100000 in
theorem nb119_145 : mm_blk 119 145 = some [.aload 0, .sipush (1), .iload 3, .invokevirtual 116, .ireturn] := by decide +kernel
set_option maxRecDepth 100000 in
theorem nl119 : mm_ml 119 = 6 := by decide +kernel
set_option maxRecDepth 100000 in
theorem nn119 : mm_na 119 = 3 := by decide +kernel
set_option maxRecDepth 100000 in
theorem nc119 : mm_ci 119 = 10 := by decide +kernel
-- head (I)I
set_option maxRecDepth 100000 in
theorem nb120_0 : mm_blk 120 0 = some [.aload 0, .iload 1, .invokevirtual 121, .istore 2, .iload 2, .ifCond .le 39, .aload 0, .invokeinterface 10 19, .aload 0, .iload 1, .sipush (0), .invokevirtual 122, .iaload, .sipush (1), .if_icmp .ne 39, .aload 0, .invokeinterface 10 20, .aload 0, .iload 1, .sipush (0), .invokevirtual 122, .iaload, .goto 40] := by decide +kernel
set_option maxRecDepth 100000 in
theorem nb120_39 : mm_blk 120 39 = some [.sipush (0), .goto_w 40] := by decide +kernel
set_option maxRecDepth 100000 in
theorem nb120_40 : mm_blk 120 40 = some [.ireturn] := by decide +kernel
set_option maxRecDepth 100000 in
theorem nl120 : mm_ml 120 = 3 := by decide +kernel
set_option maxRecDepth 100000 in
theorem nn120 : mm_na 120 = 2 := by decide +kernel
set_option maxRecDepth 100000 in
theorem nc120 : mm_ci 120 = 10 := by decide +kernel
-- count (I)I
set_option maxRecDepth 100000 in
theorem nb121_0 : mm_blk 121 0 = some [.sipush (0), .istore 2, .aload 0, .invokeinterface 10 19, .iload 1, .iaload, .sipush (2), .if_icmp .ne 21, .aload 0, .invokeinterface 10 20, .iload 1, .iaload, .goto 22] := by decide +kernel
set_option maxRecDepth 100000 in
theorem nb121_21 : mm_blk 121 21 = some [.sipush (-1), .goto_w 22] := by decide +kernel
set_option maxRecDepth 100000 in
theorem nb121_22 : mm_blk 121 22 = some [.istore 3, .goto_w 23] := by decide +kernel
set_option maxRecDepth 100000 in
theorem nb121_23 : mm_blk 121 23 = some [.iload 3, .ifCond .lt 40, .iinc 2 (1), .aload 0, .invokeinterface 10 22, .iload 3, .iaload, .istore 3, .goto 23] := by decide +kernel
set_option maxRecDepth 100000 in
theorem nb121_40 : mm_blk 121 40 = some [.iload 2, .ireturn] := by decide +kernel
set_option maxRecDepth 100000 in
theorem nl121 : mm_ml 121 = 4 := by decide +kernel
set_option maxRecDepth 100000 in
theorem nn121 : mm_na 121 = 2 := by decide +kernel
set_option maxRecDepth 100000 in
theorem nc121 : mm_ci 121 = 10 := by decide +kernel
-- part (II)I
set_option maxRecDepth 100000 in
theorem nb122_0 : mm_blk 122 0 = some [.aload 0, .invokeinterface 10 20, .iload 1, .iaload, .istore 3, .sipush (0), .istore 4, .goto_w 10] := by decide +kernel
set_option maxRecDepth 100000 in
theorem nb122_10 : mm_blk 122 10 = some [.iload 4, .iload 2, .if_icmp .ge 29, .aload 0, .invokeinterface 10 22, .iload 3, .iaload, .istore 3, .iinc 4 (1), .goto 10] := by decide +kernel
set_option maxRecDepth 100000 in
theorem nb122_29 : mm_blk 122 29 = some [.aload 0, .invokeinterface 10 21, .iload 3, .iaload, .ireturn] := by decide +kernel
set_option maxRecDepth 100000 in
theorem nl122 : mm_ml 122 = 5 := by decide +kernel
set_option maxRecDepth 100000 in
theorem nn122 : mm_na 122 = 3 := by decide +kernel
set_option maxRecDepth 100000 in
theorem nc122 : mm_ci 122 = 10 := by decide +kernel
-- word (III)I
set_option maxRecDepth 100000 in
theorem nb123_0 : mm_blk 123 0 = some [.iload 0, .sipush (16), .ishl, .iload 1, .sipush (8), .ishl, .ior, .iload 2, .ior, .ireturn] := by decide +kernel
set_option maxRecDepth 100000 in
theorem nl123 : mm_ml 123 = 3 := by decide +kernel
set_option maxRecDepth 100000 in
theorem nn123 : mm_na 123 = 3 := by decide +kernel
set_option maxRecDepth 100000 in
theorem nc123 : mm_ci 123 = 10 := by decide +kernel
-- isSymbol (I)Z
set_option maxRecDepth 100000 in
theorem nb124_0 : mm_blk 124 0 = some [.aload 0, .invokeinterface 10 19, .iload 1, .iaload, .sipush (1), .if_icmp .ne 30, .aload 0, .invokeinterface 10 20, .iload 1, .iaload, .sipush (255), .iand, .invokestatic 114, .ifCond .eq 30, .sipush (1), .goto 31] := by decide +kernel
set_option maxRecDepth 100000 in
theorem nb124_30 : mm_blk 124 30 = some [.sipush (0), .goto_w 31] := by decide +kernel
set_option maxRecDepth 100000 in
theorem nb124_31 : mm_blk 124 31 = some [.freturn] := by decide +kernel
set_option maxRecDepth 100000 in
theorem nl124 : mm_ml 124 = 2 := by decide +kernel
set_option maxRecDepth 100000 in
theorem nn124 : mm_na 124 = 2 := by decide +kernel
set_option maxRecDepth 100000 in
theorem nc124 : mm_ci 124 = 10 := by decide +kernel
-- isWord (I)Z
set_option maxRecDepth 100000 in
theorem nb125_0 : mm_blk 125 0 = some [.iload 0, .sipush (100), .sipush (101), .sipush (102), .invokestatic 123, .if_icmp .eq 89, .iload 0, .sipush (109), .sipush (97), .sipush (99), .invokestatic 123, .if_icmp .eq 89, .iload 0, .sipush (0), .sipush (105), .sipush (102), .invokestatic 123, .if_icmp .eq 89, .iload 0, .sipush (108), .sipush (101), .sipush (116), .invokestatic 123, .if_icmp .eq 89, .iload 0, .sipush (0), .sipush (100), .sipush (111), .invokestatic 123, .if_icmp .eq 89, .iload 0, .sipush (115), .sipush (101), .sipush (116), .invokestatic 123, .if_icmp .eq 89, .iload 0, .sipush (114), .sipush (117), .sipush (110), .invokestatic 123, .if_icmp .ne 93, .goto_w 89] := by decide +kernel
set_option maxRecDepth 100000 in
theorem nb125_89 : mm_blk 125 89 = some [.sipush (1), .goto 94] := by decide +kernel
set_option maxRecDepth 100000 in
theorem nb125_93 : mm_blk 125 93 = some [.sipush (0), .goto_w 94] := by decide +kernel
set_option maxRecDepth 100000 in
theorem nb125_94 : mm_blk 125 94 = some [.freturn] := by decide +kernel
set_option maxRecDepth 100000 in
theorem nl125 : mm_ml 125 = 1 := by decide +kernel
set_option maxRecDepth 100000 in
theorem nn125 : mm_na 125 = 1 := by decide +kernel
set_option maxRecDepth 100000 in
theorem nc125 : mm_ci 125 = 10 := by decide +kernel
-- parametersOf (I)I
set_option maxRecDepth 100000 in
theorem nb126_0 : mm_blk 126 0 = some [.aload 0, .iload 1, .invokevirtual 121, .istore 2, .aload 0, .aload 0, .invokeinterface 10 28, .ifCond .ne 29, .aload 0, .invokeinterface 10 19, .iload 1, .iaload, .sipush (2), .if_icmp .ne 29, .iload 2, .sipush (4), .if_icmp .le 33, .goto_w 29] := by decide +kernel
set_option maxRecDepth 100000 in
theorem nb126_29 : mm_blk 126 29 = some [.sipush (1), .goto 34] := by decide +kernel
set_option maxRecDepth 100000 in
theorem nb126_33 : mm_blk 126 33 = some [.sipush (0), .goto_w 34] := by decide +kernel
set_option maxRecDepth 100000 in
theorem nb126_34 : mm_blk 126 34 = some [.multianewarray 10 28, .sipush (0), .istore 3, .goto_w 39] := by decide +kernel
set_option maxRecDepth 100000 in
theorem nb126_39 : mm_blk 126 39 = some [.iload 3, .iload 2, .if_icmp .ge 148, .aload 0, .invokeinterface 10 28, .ifCond .ne 148, .aload 0, .iload 1, .iload 3, .invokevirtual 122, .istore 4, .aload 0, .aload 0, .iload 4, .invokevirtual 124, .ifCond .ne 73, .sipush (1), .goto 74] := by decide +kernel
set_option maxRecDepth 100000 in
theorem nb126_73 : mm_blk 126 73 = some [.sipush (0), .goto_w 74] := by decide +kernel
set_option maxRecDepth 100000 in
theorem nb126_74 : mm_blk 126 74 = some [.multianewarray 10 28, .sipush (0), .istore 5, .goto_w 80] := by decide +kernel
set_option maxRecDepth 100000 in
theorem nb126_80 : mm_blk 126 80 = some [.iload 5, .iload 3, .if_icmp .ge 130, .aload 0, .invokeinterface 10 28, .ifCond .ne 130, .aload 0, .aload 0, .invokeinterface 10 20, .aload 0, .iload 1, .iload 5, .invokevirtual 122, .iaload, .aload 0, .invokeinterface 10 20, .iload 4, .iaload, .if_icmp .ne 120, .sipush (1), .goto 121] := by decide +kernel
set_option maxRecDepth 100000 in
theorem nb126_120 : mm_blk 126 120 = some [.sipush (0), .goto_w 121] := by decide +kernel
set_option maxRecDepth 100000 in
theorem nb126_121 : mm_blk 126 121 = some [.multianewarray 10 28, .iinc 5 (1), .goto 80] := by decide +kernel
set_option maxRecDepth 100000 in
theorem nb126_130 : mm_blk 126 130 = some [.aload 0, .aload 0, .invokeinterface 10 20, .iload 4, .iaload, .iload 3, .invokevirtual 127, .iinc 3 (1), .goto 39] := by decide +kernel
set_option maxRecDepth 100000 in
theorem nb126_148 : mm_blk 126 148 = some [.iload 2, .ireturn] := by decide +kernel
set_option maxRecDepth 100000 in
theorem nl126 : mm_ml 126 = 6 := by decide +kernel
set_option maxRecDepth 100000 in
theorem nn126 : mm_na 126 = 2 := by decide +kernel
set_option maxRecDepth 100000 in
theorem nc126 : mm_ci 126 = 10 := by decide +kernel
-- know (II)V
set_option maxRecDepth 100000 in
theorem nb127_0 : mm_blk 127 0 = some [.aload 0, .invokeinterface 10 39, .aload 0, .invokeinterface 10 32, .iload 1, .iastore, .aload 0, .invokeinterface 10 40, .aload 0, .invokeinterface 10 32, .iload 2, .iastore, .aload 0, .dup, .invokeinterface 10 32, .sipush (1), .iadd, .multianewarray 10 32, .return_] := by decide +kernel
set_option maxRecDepth 100000 in
theorem nl127 : mm_ml 127 = 3 := by decide +kernel
set_option maxRecDepth 100000 in
theorem nn127 : mm_na 127 = 3 := by decide +kernel
set_option maxRecDepth 100000 in
theorem nc127 : mm_ci 127 = 10 := by decide +kernel
-- body (III)V
set_option maxRecDepth 100000 in
theorem nb128_0 : mm_blk 128 0 = some [.aload 0, .sipush (0), .multianewarray 10 29, .aload 0, .sipush (0), .multianewarray 10 30, .aload 0, .iload 3, .multianewarray 10 31, .aload 0, .sipush (0), .multianewarray 10 33, .aload 0, .sipush (0), .multianewarray 10 34, .aload 0, .sipush (0), .iload 1, .sipush (0), .invokevirtual 129, .goto_w 32] := by decide +kernel
set_option maxRecDepth 100000 in
theorem nb128_32 : mm_blk 128 32 = some [.aload 0, .invokeinterface 10 29, .ifCond .le 90, .aload 0, .invokeinterface 10 28, .ifCond .ne 90, .aload 0, .dup, .invokeinterface 10 29, .sipush (1), .isub, .multianewarray 10 29, .aload 0, .aload 0, .invokeinterface 10 35, .aload 0, .invokeinterface 10 29, .iaload, .aload 0, .invokeinterface 10 36, .aload 0, .invokeinterface 10 29, .iaload, .aload 0, .invokeinterface 10 37, .aload 0, .invokeinterface 10 29, .iaload, .invokevirtual 130, .goto 32] := by decide +kernel
set_option maxRecDepth 100000 in
theorem nb128_90 : mm_blk 128 90 = some [.aload 0, .iload 2, .invokevirtual 136, .iload 2, .sipush (13), .if_icmp .ne 106, .aload 0, .iload 3, .invokevirtual 136, .goto_w 106] := by decide +kernel
set_option maxRecDepth 100000 in
theorem nb128_106 : mm_blk 128 106 = some [.return_] := by decide +kernel
set_option maxRecDepth 100000 in
theorem nl128 : mm_ml 128 = 4 := by decide +kernel
set_option maxRecDepth 100000 in
theorem nn128 : mm_na 128 = 4 := by decide +kernel
set_option maxRecDepth 100000 in
theorem nc128 : mm_ci 128 = 10 := by decide +kernel
-- push (III)V
set_option maxRecDepth 100000 in
theorem nb129_0 : mm_blk 129 0 = some [.aload 0, .invokeinterface 10 35, .aload 0, .invokeinterface 10 29, .iload 1, .iastore, .aload 0, .invokeinterface 10 36, .aload 0, .invokeinterface 10 29, .iload 2, .iastore, .aload 0, .invokeinterface 10 37, .aload 0, .invokeinterface 10 29, .iload 3, .iastore, .aload 0, .dup, .invokeinterface 10 29, .sipush (1), .iadd, .multianewarray 10 29, .return_] := by decide +kernel
set_option maxRecDepth 100000 in
theorem nl129 : mm_ml 129 = 4 := by decide +kernel
set_option maxRecDepth 100000 in
theorem nn129 : mm_na 129 = 4 := by decide +kernel
set_option maxRecDepth 100000 in
theorem nc129 : mm_ci 129 = 10 := by decide +kernel
-- perform (III)V
set_option maxRecDepth 100000 in
theorem nb130_0 : mm_blk 130 0 = some [.iload 1, .lookupswitch 465 #[(0, 64), (1, 90), (2, 121), (3, 139), (4, 185), (5, 236), (6, 244), (7, 288), (8, 317), (9, 365), (10, 383), (11, 430)]] := by decide +kernel
set_option maxRecDepth 100000 in
theorem nb130_64 : mm_blk 130 64 = some [.aload 0, .invokeinterface 10 19, .iload 2, .iaload, .sipush (2), .if_icmp .ne 82, .aload 0, .iload 2, .invokevirtual 131, .goto 526] := by decide +kernel
set_option maxRecDepth 100000 in
theorem nb130_82 : mm_blk 130 82 = some [.aload 0, .iload 2, .invokevirtual 135, .goto 526] := by decide +kernel
set_option maxRecDepth 100000 in
theorem nb130_90 : mm_blk 130 90 = some [.iload 2, .ifCond .lt 526, .aload 0, .sipush (1), .aload 0, .invokeinterface 10 22, .iload 2, .iaload, .sipush (0), .invokevirtual 129, .aload 0, .sipush (0), .aload 0, .invokeinterface 10 21, .iload 2, .iaload, .sipush (0), .invokevirtual 129, .goto 526] := by decide +kernel
set_option maxRecDepth 100000 in
theorem nb130_121 : mm_blk 130 121 = some [.aload 0, .iload 2, .invokevirtual 136, .aload 0, .dup, .invokeinterface 10 31, .sipush (1), .isub, .multianewarray 10 31, .goto 526] := by decide +kernel
set_option maxRecDepth 100000 in
theorem nb130_139 : mm_blk 130 139 = some [.aload 0, .sipush (8), .invokevirtual 136, .aload 0, .sipush (4), .iload 2, .aload 0, .invokeinterface 10 30, .invokevirtual 129, .aload 0, .sipush (0), .invokevirtual 137, .aload 0, .dup, .invokeinterface 10 31, .sipush (1), .isub, .multianewarray 10 31, .aload 0, .sipush (0), .aload 0, .iload 2, .sipush (2), .invokevirtual 122, .sipush (0), .invokevirtual 129, .goto 526] := by decide +kernel
set_option maxRecDepth 100000 in
theorem nb130_185 : mm_blk 130 185 = some [.aload 0, .sipush (7), .invokevirtual 136, .aload 0, .sipush (5), .aload 0, .invokeinterface 10 30, .sipush (0), .invokevirtual 129, .aload 0, .sipush (0), .invokevirtual 137, .aload 0, .iload 3, .invokevirtual 139, .aload 0, .dup, .invokeinterface 10 31, .sipush (1), .isub, .multianewarray 10 31, .aload 0, .sipush (0), .aload 0, .iload 2, .sipush (3), .invokevirtual 122, .sipush (0), .invokevirtual 129, .goto 526] := by decide +kernel
set_option maxRecDepth 100000 in
theorem nb130_236 : mm_blk 130 236 = some [.aload 0, .iload 2, .invokevirtual 139, .goto 526] := by decide +kernel
set_option maxRecDepth 100000 in
theorem nb130_244 : mm_blk 130 244 = some [.aload 0, .aload 0, .invokeinterface 10 20, .aload 0, .iload 2, .sipush (1), .invokevirtual 122, .iaload, .aload 0, .invokeinterface 10 31, .sipush (1), .isub, .invokevirtual 127, .aload 0, .sipush (7), .sipush (0), .sipush (0), .invokevirtual 129, .aload 0, .sipush (0), .aload 0, .iload 2, .sipush (3), .invokevirtual 122, .sipush (0), .invokevirtual 129, .goto 526] := by decide +kernel
set_option maxRecDepth 100000 in
theorem nb130_288 : mm_blk 130 288 = some [.aload 0, .sipush (9), .invokevirtual 136, .aload 0, .dup, .invokeinterface 10 31, .sipush (1), .isub, .multianewarray 10 31, .aload 0, .dup, .invokeinterface 10 32, .sipush (1), .isub, .multianewarray 10 32, .goto 526] := by decide +kernel
set_option maxRecDepth 100000 in
theorem nb130_317 : mm_blk 130 317 = some [.iload 2, .ifCond .lt 526, .aload 0, .sipush (10), .invokevirtual 136, .aload 0, .dup, .invokeinterface 10 31, .sipush (1), .isub, .multianewarray 10 31, .aload 0, .sipush (8), .aload 0, .invokeinterface 10 22, .iload 2, .iaload, .sipush (0), .invokevirtual 129, .aload 0, .sipush (0), .aload 0, .invokeinterface 10 21, .iload 2, .iaload, .sipush (0), .invokevirtual 129, .goto 526] := by decide +kernel
set_option maxRecDepth 100000 in
theorem nb130_365 : mm_blk 130 365 = some [.aload 0, .sipush (11), .invokevirtual 136, .aload 0, .aload 0, .iload 2, .invokevirtual 138, .invokevirtual 136, .goto 526] := by decide +kernel
set_option maxRecDepth 100000 in
theorem nb130_383 : mm_blk 130 383 = some [.aload 0, .sipush (8), .invokevirtual 136, .aload 0, .sipush (11), .aload 0, .invokeinterface 10 30, .iload 3, .invokevirtual 129, .aload 0, .sipush (0), .invokevirtual 137, .aload 0, .dup, .invokeinterface 10 31, .sipush (1), .isub, .multianewarray 10 31, .aload 0, .sipush (0), .aload 0, .iload 2, .sipush (2), .invokevirtual 122, .sipush (0), .invokevirtual 129, .goto 526] := by decide +kernel
set_option maxRecDepth 100000 in
theorem nb130_430 : mm_blk 130 430 = some [.aload 0, .sipush (10), .invokevirtual 136, .aload 0, .sipush (7), .invokevirtual 136, .aload 0, .iload 3, .invokevirtual 137, .aload 0, .iload 2, .invokevirtual 139, .aload 0, .sipush (0), .invokevirtual 136, .aload 0, .sipush (0), .invokevirtual 137, .goto 526] := by decide +kernel
set_option maxRecDepth 100000 in
theorem nb130_465 : mm_blk 130 465 = some [.aload 0, .sipush (12), .invokevirtual 136, .aload 0, .invokeinterface 10 41, .aload 0, .invokeinterface 10 34, .aload 0, .invokeinterface 10 30, .iastore, .aload 0, .invokeinterface 10 42, .aload 0, .invokeinterface 10 34, .iload 2, .iastore, .aload 0, .dup, .invokeinterface 10 34, .sipush (1), .iadd, .multianewarray 10 34, .aload 0, .sipush (0), .invokevirtual 137, .aload 0, .iload 3, .invokevirtual 136, .aload 0, .dup, .invokeinterface 10 31, .sipush (1), .iload 3, .isub, .iadd, .multianewarray 10 31, .goto_w 526] := by decide +kernel
set_option maxRecDepth 100000 in
theorem nb130_526 : mm_blk 130 526 = some [.return_] := by decide +kernel
set_option maxRecDepth 100000 in
theorem nl130 : mm_ml 130 = 4 := by decide +kernel
set_option maxRecDepth 100000 in
theorem nn130 : mm_na 130 = 4 := by decide +kernel
set_option maxRecDepth 100000 in
theorem nc130 : mm_ci 130 = 10 := by decide +kernel
