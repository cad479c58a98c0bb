-- listed (I)V
set_option maxRecDepth 100000 in
theorem nb131_0 : mm_blk 131 0 = some [.aload 0, .iload 1, .invokevirtual 121, .istore 2, .aload 0, .iload 1, .invokevirtual 120, .istore 3, .aload 0, .iload 3, .invokevirtual 132, .istore 4, .iload 2, .ifCond .le 37, .aload 0, .invokeinterface 10 22, .aload 0, .invokeinterface 10 20, .iload 1, .iaload, .iaload, .goto 38] := by decide +kernel
set_option maxRecDepth 100000 in
theorem nb131_37 : mm_blk 131 37 = some [.sipush (-1), .goto_w 38] := by decide +kernel
set_option maxRecDepth 100000 in
theorem nb131_38 : mm_blk 131 38 = some [.istore 5, .iload 4, .ifCond .lt 56, .aload 0, .iload 1, .iload 4, .iload 2, .invokevirtual 133, .goto 392] := by decide +kernel
set_option maxRecDepth 100000 in
theorem nb131_56 : mm_blk 131 56 = some [.iload 3, .invokestatic 134, .ifCond .le 105, .iload 2, .sipush (3), .if_icmp .ne 105, .aload 0, .sipush (2), .iload 3, .invokestatic 134, .sipush (0), .invokevirtual 129, .aload 0, .sipush (0), .aload 0, .iload 1, .sipush (2), .invokevirtual 122, .sipush (0), .invokevirtual 129, .aload 0, .sipush (0), .aload 0, .iload 1, .sipush (1), .invokevirtual 122, .sipush (0), .invokevirtual 129, .goto 392] := by decide +kernel
set_option maxRecDepth 100000 in
theorem nb131_105 : mm_blk 131 105 = some [.iload 3, .sipush (0), .sipush (105), .sipush (102), .invokestatic 123, .if_icmp .ne 144, .iload 2, .sipush (4), .if_icmp .ne 144, .aload 0, .sipush (3), .iload 1, .sipush (0), .invokevirtual 129, .aload 0, .sipush (0), .aload 0, .iload 1, .sipush (1), .invokevirtual 122, .sipush (0), .invokevirtual 129, .goto 392] := by decide +kernel
set_option maxRecDepth 100000 in
theorem nb131_144 : mm_blk 131 144 = some [.iload 3, .sipush (108), .sipush (101), .sipush (116), .invokestatic 123, .if_icmp .ne 198, .iload 2, .sipush (4), .if_icmp .ne 198, .aload 0, .aload 0, .iload 1, .sipush (1), .invokevirtual 122, .invokevirtual 124, .ifCond .eq 198, .aload 0, .sipush (6), .iload 1, .sipush (0), .invokevirtual 129, .aload 0, .sipush (0), .aload 0, .iload 1, .sipush (2), .invokevirtual 122, .sipush (0), .invokevirtual 129, .goto 392] := by decide +kernel
set_option maxRecDepth 100000 in
theorem nb131_198 : mm_blk 131 198 = some [.iload 3, .sipush (0), .sipush (100), .sipush (111), .invokestatic 123, .if_icmp .ne 245, .iload 2, .sipush (1), .if_icmp .le 245, .aload 0, .sipush (8), .aload 0, .invokeinterface 10 22, .iload 5, .iaload, .sipush (0), .invokevirtual 129, .aload 0, .sipush (0), .aload 0, .invokeinterface 10 21, .iload 5, .iaload, .sipush (0), .invokevirtual 129, .goto 392] := by decide +kernel
set_option maxRecDepth 100000 in
theorem nb131_245 : mm_blk 131 245 = some [.iload 3, .sipush (115), .sipush (101), .sipush (116), .invokestatic 123, .if_icmp .ne 304, .iload 2, .sipush (3), .if_icmp .ne 304, .aload 0, .aload 0, .iload 1, .sipush (1), .invokevirtual 122, .invokevirtual 124, .ifCond .eq 304, .aload 0, .sipush (9), .aload 0, .iload 1, .sipush (1), .invokevirtual 122, .sipush (0), .invokevirtual 129, .aload 0, .sipush (0), .aload 0, .iload 1, .sipush (2), .invokevirtual 122, .sipush (0), .invokevirtual 129, .goto 392] := by decide +kernel
set_option maxRecDepth 100000 in
theorem nb131_304 : mm_blk 131 304 = some [.iload 3, .sipush (114), .sipush (117), .sipush (110), .invokestatic 123, .if_icmp .ne 348, .iload 2, .sipush (3), .if_icmp .ne 348, .aload 0, .sipush (10), .iload 1, .aload 0, .invokeinterface 10 30, .invokevirtual 129, .aload 0, .sipush (0), .aload 0, .iload 1, .sipush (1), .invokevirtual 122, .sipush (0), .invokevirtual 129, .goto 392] := by decide +kernel
set_option maxRecDepth 100000 in
theorem nb131_348 : mm_blk 131 348 = some [.iload 3, .sipush (255), .iand, .invokestatic 114, .ifCond .eq 387, .iload 3, .invokestatic 125, .ifCond .ne 387, .aload 0, .sipush (12), .iload 3, .iload 2, .sipush (1), .isub, .invokevirtual 129, .aload 0, .sipush (1), .iload 5, .sipush (0), .invokevirtual 129, .goto 392] := by decide +kernel
set_option maxRecDepth 100000 in
theorem nb131_387 : mm_blk 131 387 = some [.aload 0, .sipush (1), .multianewarray 10 28, .goto_w 392] := by decide +kernel
set_option maxRecDepth 100000 in
theorem nb131_392 : mm_blk 131 392 = some [.return_] := by decide +kernel
set_option maxRecDepth 100000 in
theorem nl131 : mm_ml 131 = 6 := by decide +kernel
set_option maxRecDepth 100000 in
theorem nn131 : mm_na 131 = 2 := by decide +kernel
set_option maxRecDepth 100000 in
theorem nc131 : mm_ci 131 = 10 := by decide +kernel
-- macro (I)I
set_option maxRecDepth 100000 in
theorem nb132_0 : mm_blk 132 0 = some [.aload 0, .invokeinterface 10 2, .sipush (1), .isub, .istore 2, .goto_w 7] := by decide +kernel
set_option maxRecDepth 100000 in
theorem nb132_7 : mm_blk 132 7 = some [.iload 2, .ifCond .lt 37, .aload 0, .invokeinterface 10 6, .iload 2, .iaload, .sipush (2), .if_icmp .ne 31, .aload 0, .invokeinterface 10 7, .iload 2, .iaload, .iload 1, .if_icmp .eq 37, .goto_w 31] := by decide +kernel
set_option maxRecDepth 100000 in
theorem nb132_31 : mm_blk 132 31 = some [.iinc 2 (-1), .goto 7] := by decide +kernel
set_option maxRecDepth 100000 in
theorem nb132_37 : mm_blk 132 37 = some [.iload 1, .ifCond .ne 45, .sipush (-1), .goto 46] := by decide +kernel
set_option maxRecDepth 100000 in
theorem nb132_45 : mm_blk 132 45 = some [.iload 2, .goto_w 46] := by decide +kernel
set_option maxRecDepth 100000 in
theorem nb132_46 : mm_blk 132 46 = some [.ireturn] := by decide +kernel
set_option maxRecDepth 100000 in
theorem nl132 : mm_ml 132 = 3 := by decide +kernel
set_option maxRecDepth 100000 in
theorem nn132 : mm_na 132 = 2 := by decide +kernel
set_option maxRecDepth 100000 in
theorem nc132 : mm_ci 132 = 10 := by decide +kernel
-- replace (III)V
set_option maxRecDepth 100000 in
theorem nb133_0 : mm_blk 133 0 = some [.aload 0, .dup, .invokeinterface 10 33, .sipush (1), .iadd, .multianewarray 10 33, .aload 0, .invokeinterface 10 33, .sipush (12), .if_icmp .gt 31, .iload 3, .aload 0, .invokeinterface 10 8, .iload 2, .iaload, .sipush (1), .iadd, .if_icmp .eq 37, .goto_w 31] := by decide +kernel
set_option maxRecDepth 100000 in
theorem nb133_31 : mm_blk 133 31 = some [.aload 0, .sipush (1), .multianewarray 10 28, .return_] := by decide +kernel
set_option maxRecDepth 100000 in
theorem nb133_37 : mm_blk 133 37 = some [.aload 0, .sipush (0), .aload 0, .iload 2, .sipush (0), .aload 0, .invokeinterface 10 22, .aload 0, .invokeinterface 10 20, .iload 1, .iaload, .iaload, .invokevirtual 111, .sipush (0), .invokevirtual 129, .return_] := by decide +kernel
set_option maxRecDepth 100000 in
theorem nl133 : mm_ml 133 = 4 := by decide +kernel
set_option maxRecDepth 100000 in
theorem nn133 : mm_na 133 = 4 := by decide +kernel
set_option maxRecDepth 100000 in
theorem nc133 : mm_ci 133 = 10 := by decide +kernel
-- sign (I)I
set_option maxRecDepth 100000 in
theorem nb134_0 : mm_blk 134 0 = some [.iload 0, .sipush (43), .if_icmp .ne 10, .sipush (2), .goto 52] := by decide +kernel
set_option maxRecDepth 100000 in
theorem nb134_10 : mm_blk 134 10 = some [.iload 0, .sipush (45), .if_icmp .ne 20, .sipush (3), .goto 52] := by decide +kernel
set_option maxRecDepth 100000 in
theorem nb134_20 : mm_blk 134 20 = some [.iload 0, .sipush (42), .if_icmp .ne 30, .sipush (4), .goto 52] := by decide +kernel
set_option maxRecDepth 100000 in
theorem nb134_30 : mm_blk 134 30 = some [.iload 0, .sipush (60), .if_icmp .ne 40, .sipush (5), .goto 52] := by decide +kernel
set_option maxRecDepth 100000 in
theorem nb134_40 : mm_blk 134 40 = some [.iload 0, .sipush (61), .if_icmp .ne 51, .sipush (6), .goto 52] := by decide +kernel
set_option maxRecDepth 100000 in
theorem nb134_51 : mm_blk 134 51 = some [.sipush (0), .goto_w 52] := by decide +kernel
set_option maxRecDepth 100000 in
theorem nb134_52 : mm_blk 134 52 = some [.ireturn] := by decide +kernel
set_option maxRecDepth 100000 in
theorem nl134 : mm_ml 134 = 1 := by decide +kernel
set_option maxRecDepth 100000 in
theorem nn134 : mm_na 134 = 1 := by decide +kernel
set_option maxRecDepth 100000 in
theorem nc134 : mm_ci 134 = 10 := by decide +kernel
-- atom (I)V
set_option maxRecDepth 100000 in
theorem nb135_0 : mm_blk 135 0 = some [.aload 0, .invokeinterface 10 19, .iload 1, .iaload, .ifCond .ne 27, .aload 0, .sipush (0), .invokevirtual 136, .aload 0, .aload 0, .invokeinterface 10 20, .iload 1, .iaload, .invokevirtual 137, .goto 43] := by decide +kernel
set_option maxRecDepth 100000 in
theorem nb135_27 : mm_blk 135 27 = some [.aload 0, .iload 1, .invokevirtual 138, .istore 2, .aload 0, .sipush (1), .invokevirtual 136, .aload 0, .iload 2, .invokevirtual 136, .goto_w 43] := by decide +kernel
set_option maxRecDepth 100000 in
theorem nb135_43 : mm_blk 135 43 = some [.aload 0, .dup, .invokeinterface 10 31, .sipush (1), .iadd, .multianewarray 10 31, .return_] := by decide +kernel
set_option maxRecDepth 100000 in
theorem nl135 : mm_ml 135 = 3 := by decide +kernel
set_option maxRecDepth 100000 in
theorem nn135 : mm_na 135 = 2 := by decide +kernel
set_option maxRecDepth 100000 in
theorem nc135 : mm_ci 135 = 10 := by decide +kernel
-- emit (I)V
set_option maxRecDepth 100000 in
theorem nb136_0 : mm_blk 136 0 = some [.aload 0, .invokeinterface 10 30, .sipush (260), .if_icmp .ge 31, .aload 0, .invokeinterface 10 38, .aload 0, .invokeinterface 10 30, .iload 1, .i2b, .bastore, .aload 0, .dup, .invokeinterface 10 30, .sipush (1), .iadd, .multianewarray 10 30, .goto_w 31] := by decide +kernel
set_option maxRecDepth 100000 in
theorem nb136_31 : mm_blk 136 31 = some [.aload 0, .aload 0, .invokeinterface 10 28, .ifCond .ne 49, .aload 0, .invokeinterface 10 30, .sipush (200), .if_icmp .le 53, .goto_w 49] := by decide +kernel
set_option maxRecDepth 100000 in
theorem nb136_49 : mm_blk 136 49 = some [.sipush (1), .goto 54] := by decide +kernel
set_option maxRecDepth 100000 in
theorem nb136_53 : mm_blk 136 53 = some [.sipush (0), .goto_w 54] := by decide +kernel
set_option maxRecDepth 100000 in
theorem nb136_54 : mm_blk 136 54 = some [.multianewarray 10 28, .return_] := by decide +kernel
set_option maxRecDepth 100000 in
theorem nl136 : mm_ml 136 = 2 := by decide +kernel
set_option maxRecDepth 100000 in
theorem nn136 : mm_na 136 = 2 := by decide +kernel
set_option maxRecDepth 100000 in
theorem nc136 : mm_ci 136 = 10 := by decide +kernel
-- emitPlace (I)V
set_option maxRecDepth 100000 in
theorem nb137_0 : mm_blk 137 0 = some [.aload 0, .iload 1, .sipush (8), .ishr, .invokevirtual 136, .aload 0, .iload 1, .invokevirtual 136, .return_] := by decide +kernel
set_option maxRecDepth 100000 in
theorem nl137 : mm_ml 137 = 2 := by decide +kernel
set_option maxRecDepth 100000 in
theorem nn137 : mm_na 137 = 2 := by decide +kernel
set_option maxRecDepth 100000 in
theorem nc137 : mm_ci 137 = 10 := by decide +kernel
-- slotOf (I)I
set_option maxRecDepth 100000 in
theorem nb138_0 : mm_blk 138 0 = some [.aload 0, .invokeinterface 10 32, .sipush (1), .isub, .istore 2, .goto_w 7] := by decide +kernel
set_option maxRecDepth 100000 in
theorem nb138_7 : mm_blk 138 7 = some [.iload 2, .ifCond .lt 42, .aload 0, .invokeinterface 10 19, .iload 1, .iaload, .sipush (1), .if_icmp .ne 36, .aload 0, .invokeinterface 10 39, .iload 2, .iaload, .aload 0, .invokeinterface 10 20, .iload 1, .iaload, .if_icmp .eq 42, .goto_w 36] := by decide +kernel
set_option maxRecDepth 100000 in
theorem nb138_36 : mm_blk 138 36 = some [.iinc 2 (-1), .goto 7] := by decide +kernel
set_option maxRecDepth 100000 in
theorem nb138_42 : mm_blk 138 42 = some [.aload 0, .aload 0, .invokeinterface 10 28, .ifCond .ne 54, .iload 2, .ifCond .ge 58, .goto_w 54] := by decide +kernel
set_option maxRecDepth 100000 in
theorem nb138_54 : mm_blk 138 54 = some [.sipush (1), .goto 59] := by decide +kernel
set_option maxRecDepth 100000 in
theorem nb138_58 : mm_blk 138 58 = some [.sipush (0), .goto_w 59] := by decide +kernel
set_option maxRecDepth 100000 in
theorem nb138_59 : mm_blk 138 59 = some [.multianewarray 10 28, .iload 2, .ifCond .ge 70, .sipush (0), .goto 76] := by decide +kernel
set_option maxRecDepth 100000 in
theorem nb138_70 : mm_blk 138 70 = some [.aload 0, .invokeinterface 10 40, .iload 2, .iaload, .goto_w 76] := by decide +kernel
set_option maxRecDepth 100000 in
theorem nb138_76 : mm_blk 138 76 = some [.ireturn] := by decide +kernel
set_option maxRecDepth 100000 in
theorem nl138 : mm_ml 138 = 3 := by decide +kernel
set_option maxRecDepth 100000 in
theorem nn138 : mm_na 138 = 2 := by decide +kernel
set_option maxRecDepth 100000 in
theorem nc138 : mm_ci 138 = 10 := by decide +kernel
-- aim (I)V
set_option maxRecDepth 100000 in
theorem nb139_0 : mm_blk 139 0 = some [.aload 0, .invokeinterface 10 38, .iload 1, .aload 0, .invokeinterface 10 30, .sipush (8), .ishr, .i2b, .bastore, .aload 0, .invokeinterface 10 38, .iload 1, .sipush (1), .iadd, .aload 0, .invokeinterface 10 30, .i2b, .bastore, .return_] := by decide +kernel
set_option maxRecDepth 100000 in
theorem nl139 : mm_ml 139 = 2 := by decide +kernel
set_option maxRecDepth 100000 in
theorem nn139 : mm_na 139 = 2 := by decide +kernel
set_option maxRecDepth 100000 in
theorem nc139 : mm_ci 139 = 10 := by decide +kernel
-- fourth ()I
set_option maxRecDepth 100000 in
theorem nb140_0 : mm_blk 140 0 = some [.sipush (0), .istore 1, .sipush (0), .istore 2, .sipush (0), .istore 3, .sipush (0), .istore 4, .goto_w 9] := by decide +kernel
set_option maxRecDepth 100000 in
theorem nb140_9 : mm_blk 140 9 = some [.iload 4, .aload 0, .invokeinterface 10 1, .if_icmp .ge 152, .aload 0, .invokeinterface 10 5, .iload 4, .caload, .istore 5, .iload 5, .sipush (32), .if_icmp .eq 52, .iload 5, .sipush (40), .if_icmp .eq 52, .iload 5, .sipush (41), .if_icmp .eq 52, .sipush (1), .goto 53] := by decide +kernel
set_option maxRecDepth 100000 in
theorem nb140_52 : mm_blk 140 52 = some [.sipush (0), .goto_w 53] := by decide +kernel
set_option maxRecDepth 100000 in
theorem nb140_53 : mm_blk 140 53 = some [.istore 6, .iload 2, .sipush (1), .if_icmp .ne 80, .iload 5, .sipush (40), .if_icmp .eq 76, .iload 6, .ifCond .eq 80, .iload 3, .ifCond .ne 80, .goto_w 76] := by decide +kernel
set_option maxRecDepth 100000 in
theorem nb140_76 : mm_blk 140 76 = some [.sipush (1), .goto 81] := by decide +kernel
set_option maxRecDepth 100000 in
theorem nb140_80 : mm_blk 140 80 = some [.sipush (0), .goto_w 81] := by decide +kernel
set_option maxRecDepth 100000 in
theorem nb140_81 : mm_blk 140 81 = some [.istore 7, .iload 6, .ifCond .eq 97, .iload 2, .sipush (1), .if_icmp .ne 97, .sipush (1), .goto 98] := by decide +kernel
set_option maxRecDepth 100000 in
theorem nb140_97 : mm_blk 140 97 = some [.sipush (0), .goto_w 98] := by decide +kernel
set_option maxRecDepth 100000 in
theorem nb140_98 : mm_blk 140 98 = some [.istore 3, .iload 7, .ifCond .eq 110, .iload 1, .sipush (1), .iadd, .goto 111] := by decide +kernel
set_option maxRecDepth 100000 in
theorem nb140_110 : mm_blk 140 110 = some [.iload 1, .goto_w 111] := by decide +kernel
set_option maxRecDepth 100000 in
theorem nb140_111 : mm_blk 140 111 = some [.istore 1, .iload 1, .sipush (4), .if_icmp .ne 120, .iload 4, .ireturn] := by decide +kernel
set_option maxRecDepth 100000 in
theorem nb140_120 : mm_blk 140 120 = some [.iload 2, .iload 5, .sipush (40), .if_icmp .ne 132, .sipush (1), .goto 144] := by decide +kernel
set_option maxRecDepth 100000 in
theorem nb140_132 : mm_blk 140 132 = some [.iload 5, .sipush (41), .if_icmp .ne 143, .sipush (-1), .goto 144] := by decide +kernel
set_option maxRecDepth 100000 in
theorem nb140_143 : mm_blk 140 143 = some [.sipush (0), .goto_w 144] := by decide +kernel
set_option maxRecDepth 100000 in
theorem nb140_144 : mm_blk 140 144 = some [.iadd, .istore 2, .iinc 4 (1), .goto 9] := by decide +kernel
set_option maxRecDepth 100000 in
theorem nb140_152 : mm_blk 140 152 = some [.sipush (0), .ireturn] := by decide +kernel
set_option maxRecDepth 100000 in
theorem nl140 : mm_ml 140 = 8 := by decide +kernel
set_option maxRecDepth 100000 in
theorem nn140 : mm_na 140 = 1 := by decide +kernel
set_option maxRecDepth 100000 in
theorem nc140 : mm_ci 140 = 10 := by decide +kernel
-- keep (IIII)I
set_option maxRecDepth 100000 in
theorem nb141_0 : mm_blk 141 0 = some [.aload 0, .invokeinterface 10 2, .istore 5, .aload 0, .invokeinterface 10 6, .iload 5, .iload 1, .iastore, .aload 0, .invokeinterface 10 7, .iload 5, .iload 2, .iastore, .aload 0, .invokeinterface 10 8, .iload 5, .iload 3, .iastore, .aload 0, .invokeinterface 10 9, .iload 5, .iload 1, .sipush (2), .if_icmp .ne 45, .sipush (0), .goto 49] := by decide +kernel
set_option maxRecDepth 100000 in
theorem nb141_45 : mm_blk 141 45 = some [.aload 0, .invokeinterface 10 30, .goto_w 49] := by decide +kernel
set_option maxRecDepth 100000 in
theorem nb141_49 : mm_blk 141 49 = some [.iastore, .aload 0, .invokeinterface 10 11, .iload 5, .iload 1, .sipush (2), .if_icmp .ne 65, .sipush (0), .goto 69] := by decide +kernel
set_option maxRecDepth 100000 in
theorem nb141_65 : mm_blk 141 65 = some [.aload 0, .invokeinterface 10 34, .goto_w 69] := by decide +kernel
set_option maxRecDepth 100000 in
theorem nb141_69 : mm_blk 141 69 = some [.iastore, .sipush (0), .istore 6, .goto_w 73] := by decide +kernel
set_option maxRecDepth 100000 in
theorem nb141_73 : mm_blk 141 73 = some [.iload 6, .aload 0, .invokeinterface 10 9, .iload 5, .iaload, .if_icmp .ge 112, .aload 0, .invokeinterface 10 10, .sipush (200), .iload 5, .imul, .iload 6, .iadd, .aload 0, .invokeinterface 10 38, .iload 6, .baload, .bastore, .iinc 6 (1), .goto 73] := by decide +kernel
set_option maxRecDepth 100000 in
theorem nb141_112 : mm_blk 141 112 = some [.sipush (0), .istore 6, .goto_w 115] := by decide +kernel
set_option maxRecDepth 100000 in
theorem nb141_115 : mm_blk 141 115 = some [.iload 6, .aload 0, .invokeinterface 10 11, .iload 5, .iaload, .if_icmp .ge 173, .aload 0, .invokeinterface 10 12, .sipush (50), .iload 5, .imul, .iload 6, .iadd, .aload 0, .invokeinterface 10 41, .iload 6, .iaload, .iastore, .aload 0, .invokeinterface 10 13, .sipush (50), .iload 5, .imul, .iload 6, .iadd, .aload 0, .invokeinterface 10 42, .iload 6, .iaload, .iastore, .iinc 6 (1), .goto 115] := by decide +kernel
set_option maxRecDepth 100000 in
theorem nb141_173 : mm_blk 141 173 = some [.sipush (0), .istore 6, .goto_w 176] := by decide +kernel
set_option maxRecDepth 100000 in
theorem nb141_176 : mm_blk 141 176 = some [.iload 6, .iload 3, .if_icmp .ge 212, .iload 1, .sipush (2), .if_icmp .ne 212, .aload 0, .invokeinterface 10 14, .sipush (4), .iload 5, .imul, .iload 6, .iadd, .aload 0, .invokeinterface 10 39, .iload 6, .iaload, .iastore, .iinc 6 (1), .goto 176] := by decide +kernel
set_option maxRecDepth 100000 in
theorem nb141_212 : mm_blk 141 212 = some [.aload 0, .invokeinterface 10 16, .iload 5, .aload 0, .invokeinterface 10 1, .iload 4, .isub, .iastore, .iload 4, .istore 6, .goto_w 230] := by decide +kernel
set_option maxRecDepth 100000 in
theorem nb141_230 : mm_blk 141 230 = some [.iload 6, .aload 0, .invokeinterface 10 1, .if_icmp .ge 273, .iload 1, .sipush (2), .if_icmp .ne 273, .aload 0, .invokeinterface 10 15, .sipush (120), .iload 5, .imul, .iload 6, .iadd, .iload 4, .isub, .aload 0, .invokeinterface 10 5, .iload 6, .caload, .castore, .iinc 6 (1), .goto 230] := by decide +kernel
set_option maxRecDepth 100000 in
theorem nb141_273 : mm_blk 141 273 = some [.aload 0, .dup, .invokeinterface 10 2, .sipush (1), .iadd, .multianewarray 10 2, .iload 5, .ireturn] := by decide +kernel
set_option maxRecDepth 100000 in
theorem nl141 : mm_ml 141 = 7 := by decide +kernel
set_option maxRecDepth 100000 in
theorem nn141 : mm_na 141 = 5 := by decide +kernel
set_option maxRecDepth 100000 in
theorem nc141 : mm_ci 141 = 10 := by decide +kernel
-- position ()I
set_option maxRecDepth 100000 in
theorem nb142_0 : mm_blk 142 0 = some [.aload 0, .sipush (0), .multianewarray 10 0, .aload 0, .invokeinterface 10 3, .ireturn] := by decide +kernel
set_option maxRecDepth 100000 in
theorem nl142 : mm_ml 142 = 1 := by decide +kernel
set_option maxRecDepth 100000 in
theorem nn142 : mm_na 142 = 1 := by decide +kernel
set_option maxRecDepth 100000 in
theorem nc142 : mm_ci 142 = 10 := by decide +kernel
-- object (II)I
set_option maxRecDepth 100000 in
theorem nb143_0 : mm_blk 143 0 = some [.aload 0, .sipush (0), .multianewarray 10 0, .iload 1, .ifCond .lt 27, .iload 1, .aload 0, .invokeinterface 10 2, .if_icmp .ge 27, .aload 0, .invokeinterface 10 6, .iload 1, .iaload, .sipush (2), .if_icmp .ne 29, .goto_w 27] := by decide +kernel
set_option maxRecDepth 100000 in
theorem nb143_27 : mm_blk 143 27 = some [.sipush (-1), .ireturn] := by decide +kernel
set_option maxRecDepth 100000 in
theorem nb143_29 : mm_blk 143 29 = some [.sipush (1), .aload 0, .invokeinterface 10 7, .iload 1, .iaload, .invokestatic 144, .iadd, .istore 3, .sipush (1), .iload 3, .iadd, .istore 4, .iload 4, .sipush (3), .iadd, .istore 5, .iload 5, .aload 0, .invokeinterface 10 9, .iload 1, .iaload, .iadd, .istore 6, .iload 2, .ifCond .ne 74, .aload 0, .invokeinterface 10 6, .iload 1, .iaload, .ireturn] := by decide +kernel
set_option maxRecDepth 100000 in
theorem nb143_74 : mm_blk 143 74 = some [.iload 2, .ifCond .le 97, .iload 2, .iload 4, .if_icmp .ge 97, .aload 0, .invokeinterface 10 7, .iload 1, .iaload, .iload 2, .sipush (1), .isub, .invokestatic 145, .ireturn] := by decide +kernel
set_option maxRecDepth 100000 in
theorem nb143_97 : mm_blk 143 97 = some [.iload 2, .iload 4, .if_icmp .lt 150, .iload 2, .iload 5, .if_icmp .ge 150, .iload 2, .iload 4, .if_icmp .ne 124, .aload 0, .invokeinterface 10 8, .iload 1, .iaload, .goto 149] := by decide +kernel
set_option maxRecDepth 100000 in
theorem nb143_124 : mm_blk 143 124 = some [.aload 0, .invokeinterface 10 9, .iload 1, .iaload, .iload 2, .iload 4, .sipush (1), .iadd, .if_icmp .ne 143, .sipush (8), .goto 144] := by decide +kernel
set_option maxRecDepth 100000 in
theorem nb143_143 : mm_blk 143 143 = some [.sipush (0), .goto_w 144] := by decide +kernel
set_option maxRecDepth 100000 in
theorem nb143_144 : mm_blk 143 144 = some [.ishr, .sipush (255), .iand, .goto_w 149] := by decide +kernel
set_option maxRecDepth 100000 in
theorem nb143_149 : mm_blk 143 149 = some [.ireturn] := by decide +kernel
set_option maxRecDepth 100000 in
theorem nb143_150 : mm_blk 143 150 = some [.iload 2, .iload 5, .if_icmp .lt 182, .iload 2, .iload 6, .if_icmp .ge 182, .aload 0, .invokeinterface 10 10, .sipush (200), .iload 1, .imul, .iload 2, .iadd, .iload 5, .isub, .baload, .sipush (255), .iand, .ireturn] := by decide +kernel
set_option maxRecDepth 100000 in
theorem nb143_182 : mm_blk 143 182 = some [.iload 2, .iload 6, .if_icmp .ne 195, .aload 0, .invokeinterface 10 11, .iload 1, .iaload, .ireturn] := by decide +kernel
set_option maxRecDepth 100000 in
theorem nb143_195 : mm_blk 143 195 = some [.iload 6, .sipush (1), .iadd, .istore 7, .sipush (0), .istore 8, .goto_w 204] := by decide +kernel
set_option maxRecDepth 100000 in
theorem nb143_204 : mm_blk 143 204 = some [.iload 8, .aload 0, .invokeinterface 10 11, .iload 1, .iaload, .if_icmp .ge 324, .sipush (50), .iload 1, .imul, .iload 8, .iadd, .istore 9, .sipush (3), .aload 0, .invokeinterface 10 13, .iload 9, .iaload, .invokestatic 144, .iadd, .istore 10, .iload 2, .iload 7, .if_icmp .lt 311, .iload 2, .iload 7, .iload 10, .iadd, .if_icmp .ge 311, .iload 2, .iload 7, .if_icmp .ne 272, .aload 0, .invokeinterface 10 12, .iload 9, .iaload, .sipush (8), .ishr, .goto 310] := by decide +kernel
set_option maxRecDepth 100000 in
theorem nb143_272 : mm_blk 143 272 = some [.iload 2, .iload 7, .sipush (1), .iadd, .if_icmp .ne 294, .aload 0, .invokeinterface 10 12, .iload 9, .iaload, .sipush (255), .iand, .goto 310] := by decide +kernel
set_option maxRecDepth 100000 in
theorem nb143_294 : mm_blk 143 294 = some [.aload 0, .invokeinterface 10 13, .iload 9, .iaload, .iload 2, .iload 7, .isub, .sipush (2), .isub, .invokestatic 145, .goto_w 310] := by decide +kernel
set_option maxRecDepth 100000 in
theorem nb143_310 : mm_blk 143 310 = some [.ireturn] := by decide +kernel
set_option maxRecDepth 100000 in
theorem nb143_311 : mm_blk 143 311 = some [.iload 7, .iload 10, .iadd, .istore 7, .iinc 8 (1), .goto 204] := by decide +kernel
set_option maxRecDepth 100000 in
theorem nb143_324 : mm_blk 143 324 = some [.iload 2, .sipush (-1), .if_icmp .ne 334, .iload 7, .goto 335] := by decide +kernel
set_option maxRecDepth 100000 in
theorem nb143_334 : mm_blk 143 334 = some [.sipush (-1), .goto_w 335] := by decide +kernel
set_option maxRecDepth 100000 in
theorem nb143_335 : mm_blk 143 335 = some [.ireturn] := by decide +kernel
set_option maxRecDepth 100000 in
theorem nl143 : mm_ml 143 = 11 := by decide +kernel
set_option maxRecDepth 100000 in
theorem nn143 : mm_na 143 = 3 := by decide +kernel
set_option maxRecDepth 100000 in
theorem nc143 : mm_ci 143 = 10 := by decide +kernel
-- letters (I)I
set_option maxRecDepth 100000 in
theorem nb144_0 : mm_blk 144 0 = some [.iload 0, .ifCond .ne 8, .sipush (0), .goto 42] := by decide +kernel
set_option maxRecDepth 100000 in
theorem nb144_8 : mm_blk 144 8 = some [.iload 0, .sipush (256), .if_icmp .ge 19, .sipush (1), .goto 42] := by decide +kernel
set_option maxRecDepth 100000 in
theorem nb144_19 : mm_blk 144 19 = some [.iload 0, .sipush (65536), .if_icmp .ge 30, .sipush (2), .goto 42] := by decide +kernel
set_option maxRecDepth 100000 in
theorem nb144_30 : mm_blk 144 30 = some [.iload 0, .sipush (16777216), .if_icmp .ge 41, .sipush (3), .goto 42] := by decide +kernel
set_option maxRecDepth 100000 in
theorem nb144_41 : mm_blk 144 41 = some [.sipush (4), .goto_w 42] := by decide +kernel
set_option maxRecDepth 100000 in
theorem nb144_42 : mm_blk 144 42 = some [.ireturn] := by decide +kernel
set_option maxRecDepth 100000 in
theorem nl144 : mm_ml 144 = 1 := by decide +kernel
set_option maxRecDepth 100000 in
theorem nn144 : mm_na 144 = 1 := by decide +kernel
set_option maxRecDepth 100000 in
theorem nc144 : mm_ci 144 = 10 := by decide +kernel
-- nameByte (II)I
set_option maxRecDepth 100000 in
theorem nb145_0 : mm_blk 145 0 = some [.iload 0, .invokestatic 144, .istore 2, .iload 1, .ifCond .ne 13, .iload 2, .goto 25] := by decide +kernel
set_option maxRecDepth 100000 in
theorem nb145_13 : mm_blk 145 13 = some [.iload 0, .sipush (8), .iload 2, .iload 1, .isub, .imul, .ishr, .sipush (255), .iand, .goto_w 25] := by decide +kernel
set_option maxRecDepth 100000 in
theorem nb145_25 : mm_blk 145 25 = some [.ireturn] := by decide +kernel
set_option maxRecDepth 100000 in
theorem nl145 : mm_ml 145 = 3 := by decide +kernel
set_option maxRecDepth 100000 in
theorem nn145 : mm_na 145 = 2 := by decide +kernel
set_option maxRecDepth 100000 in
theorem nc145 : mm_ci 145 = 10 := by decide +kernel
-- clear ()V
set_option maxRecDepth 100000 in
theorem nb146_0 : mm_blk 146 0 = some [.aload 0, .sipush (0), .multianewarray 10 0, .aload 0, .sipush (0), .multianewarray 10 2, .return_] := by decide +kernel
set_option maxRecDepth 100000 in
theorem nl146 : mm_ml 146 = 1 := by decide +kernel
set_option maxRecDepth 100000 in
theorem nn146 : mm_na 146 = 1 := by decide +kernel
set_option maxRecDepth 100000 in
theorem nc146 : mm_ci 146 = 10 := by decide +kernel
-- link ()I
set_option maxRecDepth 100000 in
theorem nb147_0 : mm_blk 147 0 = some [.aload 0, .sipush (0), .sipush (0), .invokevirtual 148, .istore 1, .aload 0, .iload 1, .ifCond .ge 16, .sipush (1), .goto 17] := by decide +kernel
set_option maxRecDepth 100000 in
theorem nb147_16 : mm_blk 147 16 = some [.sipush (0), .goto_w 17] := by decide +kernel
set_option maxRecDepth 100000 in
theorem nb147_17 : mm_blk 147 17 = some [.multianewarray 10 4, .aload 0, .sipush (0), .multianewarray 10 43, .aload 0, .invokeinterface 10 4, .ifCond .ne 44, .aload 0, .invokeinterface 10 44, .sipush (0), .iload 1, .iastore, .aload 0, .sipush (1), .multianewarray 10 43, .goto_w 44] := by decide +kernel
set_option maxRecDepth 100000 in
theorem nb147_44 : mm_blk 147 44 = some [.sipush (0), .istore 2, .goto_w 46] := by decide +kernel
set_option maxRecDepth 100000 in
theorem nb147_46 : mm_blk 147 46 = some [.iload 2, .aload 0, .invokeinterface 10 43, .if_icmp .ge 81, .aload 0, .invokeinterface 10 4, .ifCond .ne 81, .aload 0, .aload 0, .aload 0, .invokeinterface 10 44, .iload 2, .iaload, .invokevirtual 149, .multianewarray 10 4, .iinc 2 (1), .goto 46] := by decide +kernel
set_option maxRecDepth 100000 in
theorem nb147_81 : mm_blk 147 81 = some [.sipush (0), .istore 2, .sipush (0), .istore 3, .goto_w 85] := by decide +kernel
set_option maxRecDepth 100000 in
theorem nb147_85 : mm_blk 147 85 = some [.iload 3, .aload 0, .invokeinterface 10 43, .if_icmp .ge 120, .aload 0, .invokeinterface 10 45, .iload 3, .iload 2, .iastore, .iload 2, .aload 0, .invokeinterface 10 9, .aload 0, .invokeinterface 10 44, .iload 3, .iaload, .iaload, .iadd, .istore 2, .iinc 3 (1), .goto 85] := by decide +kernel
set_option maxRecDepth 100000 in
theorem nb147_120 : mm_blk 147 120 = some [.aload 0, .aload 0, .invokeinterface 10 4, .ifCond .ne 139, .iload 2, .sipush (600), .if_icmp .le 139, .sipush (4), .goto 143] := by decide +kernel
set_option maxRecDepth 100000 in
theorem nb147_139 : mm_blk 147 139 = some [.aload 0, .invokeinterface 10 4, .goto_w 143] := by decide +kernel
set_option maxRecDepth 100000 in
theorem nb147_143 : mm_blk 147 143 = some [.multianewarray 10 4, .aload 0, .aload 0, .invokeinterface 10 4, .ifCond .le 158, .sipush (1), .goto 159] := by decide +kernel
set_option maxRecDepth 100000 in
theorem nb147_158 : mm_blk 147 158 = some [.sipush (0), .goto_w 159] := by decide +kernel
set_option maxRecDepth 100000 in
theorem nb147_159 : mm_blk 147 159 = some [.multianewarray 10 0, .aload 0, .invokeinterface 10 0, .ifCond .le 171, .sipush (0), .ireturn] := by decide +kernel
set_option maxRecDepth 100000 in
theorem nb147_171 : mm_blk 147 171 = some [.sipush (0), .istore 3, .goto_w 173] := by decide +kernel
set_option maxRecDepth 100000 in
theorem nb147_173 : mm_blk 147 173 = some [.iload 3, .aload 0, .invokeinterface 10 43, .if_icmp .ge 203, .aload 0, .aload 0, .invokeinterface 10 44, .iload 3, .iaload, .aload 0, .invokeinterface 10 45, .iload 3, .iaload, .invokevirtual 151, .iinc 3 (1), .goto 173] := by decide +kernel
set_option maxRecDepth 100000 in
theorem nb147_203 : mm_blk 147 203 = some [.aload 0, .iload 2, .multianewarray 10 46, .aload 0, .invokevirtual 154, .iload 2, .ireturn] := by decide +kernel
set_option maxRecDepth 100000 in
theorem nl147 : mm_ml 147 = 4 := by decide +kernel
set_option maxRecDepth 100000 in
theorem nn147 : mm_na 147 = 1 := by decide +kernel
set_option maxRecDepth 100000 in
theorem nc147 : mm_ci 147 = 10 := by decide +kernel
-- latest (II)I
set_option maxRecDepth 100000 in
theorem nb148_0 : mm_blk 148 0 = some [.aload 0, .invokeinterface 10 2, .sipush (1), .isub, .istore 3, .goto_w 7] := by decide +kernel
set_option maxRecDepth 100000 in
theorem nb148_7 : mm_blk 148 7 = some [.iload 3, .ifCond .lt 37, .aload 0, .invokeinterface 10 6, .iload 3, .iaload, .iload 1, .if_icmp .ne 31, .aload 0, .invokeinterface 10 7, .iload 3, .iaload, .iload 2, .if_icmp .eq 37, .goto_w 31] := by decide +kernel
set_option maxRecDepth 100000 in
theorem nb148_31 : mm_blk 148 31 = some [.iinc 3 (-1), .goto 7] := by decide +kernel
set_option maxRecDepth 100000 in
theorem nb148_37 : mm_blk 148 37 = some [.iload 3, .ireturn] := by decide +kernel
set_option maxRecDepth 100000 in
theorem nl148 : mm_ml 148 = 4 := by decide +kernel
set_option maxRecDepth 100000 in
theorem nn148 : mm_na 148 = 3 := by decide +kernel
set_option maxRecDepth 100000 in
theorem nc148 : mm_ci 148 = 10 := by decide +kernel
-- meet (I)I
set_option maxRecDepth 100000 in
theorem nb149_0 : mm_blk 149 0 = some [.sipush (0), .istore 2, .goto_w 2] := by decide +kernel
set_option maxRecDepth 100000 in
theorem nb149_2 : mm_blk 149 2 = some [.iload 2, .aload 0, .invokeinterface 10 11, .iload 1, .iaload, .if_icmp .ge 108, .aload 0, .sipush (1), .aload 0, .invokeinterface 10 13, .sipush (50), .iload 1, .imul, .iload 2, .iadd, .iaload, .invokevirtual 148, .istore 3, .iload 3, .ifCond .ge 35, .sipush (2), .ireturn] := by decide +kernel
set_option maxRecDepth 100000 in
theorem nb149_35 : mm_blk 149 35 = some [.aload 0, .invokeinterface 10 10, .sipush (200), .iload 1, .imul, .aload 0, .invokeinterface 10 12, .sipush (50), .iload 1, .imul, .iload 2, .iadd, .iaload, .iadd, .sipush (2), .iadd, .baload, .sipush (255), .iand, .aload 0, .invokeinterface 10 8, .iload 3, .iaload, .if_icmp .eq 74, .sipush (3), .ireturn] := by decide +kernel
set_option maxRecDepth 100000 in
theorem nb149_74 : mm_blk 149 74 = some [.aload 0, .iload 3, .invokevirtual 150, .ifCond .ge 102, .aload 0, .invokeinterface 10 44, .aload 0, .invokeinterface 10 43, .iload 3, .iastore, .aload 0, .dup, .invokeinterface 10 43, .sipush (1), .iadd, .multianewarray 10 43, .goto_w 102] := by decide +kernel
set_option maxRecDepth 100000 in
theorem nb149_102 : mm_blk 149 102 = some [.iinc 2 (1), .goto 2] := by decide +kernel
set_option maxRecDepth 100000 in
theorem nb149_108 : mm_blk 149 108 = some [.sipush (0), .ireturn] := by decide +kernel
set_option maxRecDepth 100000 in
theorem nl149 : mm_ml 149 = 4 := by decide +kernel
set_option maxRecDepth 100000 in
theorem nn149 : mm_na 149 = 2 := by decide +kernel
set_option maxRecDepth 100000 in
theorem nc149 : mm_ci 149 = 10 := by decide +kernel
-- stands (I)I
set_option maxRecDepth 100000 in
theorem nb150_0 : mm_blk 150 0 = some [.aload 0, .invokeinterface 10 43, .sipush (1), .isub, .istore 2, .goto_w 7] := by decide +kernel
set_option maxRecDepth 100000 in
theorem nb150_7 : mm_blk 150 7 = some [.iload 2, .ifCond .lt 27, .aload 0, .invokeinterface 10 44, .iload 2, .iaload, .iload 1, .if_icmp .eq 27, .iinc 2 (-1), .goto 7] := by decide +kernel
set_option maxRecDepth 100000 in
theorem nb150_27 : mm_blk 150 27 = some [.iload 2, .ireturn] := by decide +kernel
set_option maxRecDepth 100000 in
theorem nl150 : mm_ml 150 = 3 := by decide +kernel
set_option maxRecDepth 100000 in
theorem nn150 : mm_na 150 = 2 := by decide +kernel
set_option maxRecDepth 100000 in
theorem nc150 : mm_ci 150 = 10 := by decide +kernel
-- copy (II)V
set_option maxRecDepth 100000 in
theorem nb151_0 : mm_blk 151 0 = some [.sipush (0), .istore 3, .goto_w 2] := by decide +kernel
set_option maxRecDepth 100000 in
theorem nb151_2 : mm_blk 151 2 = some [.iload 3, .aload 0, .invokeinterface 10 9, .iload 1, .iaload, .if_icmp .ge 38, .aload 0, .invokeinterface 10 47, .iload 2, .iload 3, .iadd, .aload 0, .invokeinterface 10 10, .sipush (200), .iload 1, .imul, .iload 3, .iadd, .baload, .bastore, .iinc 3 (1), .goto 2] := by decide +kernel
set_option maxRecDepth 100000 in
theorem nb151_38 : mm_blk 151 38 = some [.sipush (0), .istore 3, .goto_w 40] := by decide +kernel
set_option maxRecDepth 100000 in
theorem nb151_40 : mm_blk 151 40 = some [.iload 3, .aload 0, .invokeinterface 10 9, .iload 1, .iaload, .if_icmp .ge 150, .aload 0, .invokeinterface 10 10, .sipush (200), .iload 1, .imul, .iload 3, .iadd, .baload, .istore 4, .iload 4, .sipush (7), .if_icmp .eq 78, .iload 4, .sipush (8), .if_icmp .ne 129, .goto_w 78] := by decide +kernel
set_option maxRecDepth 100000 in
theorem nb151_78 : mm_blk 151 78 = some [.aload 0, .iload 2, .iload 3, .iadd, .sipush (1), .iadd, .iload 2, .aload 0, .invokeinterface 10 10, .sipush (200), .iload 1, .imul, .iload 3, .iadd, .sipush (1), .iadd, .baload, .sipush (255), .iand, .sipush (8), .ishl, .aload 0, .invokeinterface 10 10, .sipush (200), .iload 1, .imul, .iload 3, .iadd, .sipush (2), .iadd, .baload, .sipush (255), .iand, .ior, .iadd, .invokevirtual 152, .goto_w 129] := by decide +kernel
set_option maxRecDepth 100000 in
theorem nb151_129 : mm_blk 151 129 = some [.iload 3, .aload 0, .invokeinterface 10 10, .sipush (200), .iload 1, .imul, .iload 3, .iadd, .baload, .invokestatic 153, .iadd, .istore 3, .goto 40] := by decide +kernel
set_option maxRecDepth 100000 in
theorem nb151_150 : mm_blk 151 150 = some [.sipush (0), .istore 3, .goto_w 152] := by decide +kernel
set_option maxRecDepth 100000 in
theorem nb151_152 : mm_blk 151 152 = some [.iload 3, .aload 0, .invokeinterface 10 11, .iload 1, .iaload, .if_icmp .ge 210, .aload 0, .iload 2, .aload 0, .invokeinterface 10 12, .sipush (50), .iload 1, .imul, .iload 3, .iadd, .iaload, .iadd, .aload 0, .invokeinterface 10 45, .aload 0, .aload 0, .sipush (1), .aload 0, .invokeinterface 10 13, .sipush (50), .iload 1, .imul, .iload 3, .iadd, .iaload, .invokevirtual 148, .invokevirtual 150, .iaload, .invokevirtual 152, .iinc 3 (1), .goto 152] := by decide +kernel
set_option maxRecDepth 100000 in
theorem nb151_210 : mm_blk 151 210 = some [.return_] := by decide +kernel
set_option maxRecDepth 100000 in
theorem nl151 : mm_ml 151 = 5 := by decide +kernel
set_option maxRecDepth 100000 in
theorem nn151 : mm_na 151 = 3 := by decide +kernel
set_option maxRecDepth 100000 in
theorem nc151 : mm_ci 151 = 10 := by decide +kernel
-- putPlace (II)V
set_option maxRecDepth 100000 in
theorem nb152_0 : mm_blk 152 0 = some [.aload 0, .invokeinterface 10 47, .iload 1, .iload 2, .sipush (8), .ishr, .i2b, .bastore, .aload 0, .invokeinterface 10 47, .iload 1, .sipush (1), .iadd, .iload 2, .i2b, .bastore, .return_] := by decide +kernel
set_option maxRecDepth 100000 in
theorem nl152 : mm_ml 152 = 3 := by decide +kernel
set_option maxRecDepth 100000 in
theorem nn152 : mm_na 152 = 3 := by decide +kernel
set_option maxRecDepth 100000 in
theorem nc152 : mm_ci 152 = 10 := by decide +kernel
-- wide (I)I
set_option maxRecDepth 100000 in
theorem nb153_0 : mm_blk 153 0 = some [.iload 0, .ifCond .eq 16, .iload 0, .sipush (7), .if_icmp .eq 16, .iload 0, .sipush (8), .if_icmp .ne 20, .goto_w 16] := by decide +kernel
set_option maxRecDepth 100000 in
theorem nb153_16 : mm_blk 153 16 = some [.sipush (3), .goto 52] := by decide +kernel
set_option maxRecDepth 100000 in
theorem nb153_20 : mm_blk 153 20 = some [.iload 0, .sipush (1), .if_icmp .eq 37, .iload 0, .sipush (11), .if_icmp .eq 37, .iload 0, .sipush (13), .if_icmp .ne 41, .goto_w 37] := by decide +kernel
set_option maxRecDepth 100000 in
theorem nb153_37 : mm_blk 153 37 = some [.sipush (2), .goto 52] := by decide +kernel
set_option maxRecDepth 100000 in
theorem nb153_41 : mm_blk 153 41 = some [.iload 0, .sipush (12), .if_icmp .ne 51, .sipush (4), .goto 52] := by decide +kernel
set_option maxRecDepth 100000 in
theorem nb153_51 : mm_blk 153 51 = some [.sipush (1), .goto_w 52] := by decide +kernel
set_option maxRecDepth 100000 in
theorem nb153_52 : mm_blk 153 52 = some [.ireturn] := by decide +kernel
set_option maxRecDepth 100000 in
theorem nl153 : mm_ml 153 = 1 := by decide +kernel
set_option maxRecDepth 100000 in
theorem nn153 : mm_na 153 = 1 := by decide +kernel
set_option maxRecDepth 100000 in
theorem nc153 : mm_ci 153 = 10 := by decide +kernel
-- begin ()V
set_option maxRecDepth 100000 in
theorem nb154_0 : mm_blk 154 0 = some [.aload 0, .sipush (1), .multianewarray 10 48, .aload 0, .sipush (0), .multianewarray 10 49, .aload 0, .sipush (0), .multianewarray 10 50, .aload 0, .sipush (0), .multianewarray 10 51, .aload 0, .sipush (0), .multianewarray 10 52, .aload 0, .sipush (0), .multianewarray 10 53, .return_] := by decide +kernel
set_option maxRecDepth 100000 in
theorem nl154 : mm_ml 154 = 1 := by decide +kernel
set_option maxRecDepth 100000 in
theorem nn154 : mm_na 154 = 1 := by decide +kernel
set_option maxRecDepth 100000 in
theorem nc154 : mm_ci 154 = 10 := by decide +kernel
-- failure ()I
set_option maxRecDepth 100000 in
theorem nb155_0 : mm_blk 155 0 = some [.aload 0, .sipush (0), .multianewarray 10 0, .aload 0, .invokeinterface 10 4, .ireturn] := by decide +kernel
set_option maxRecDepth 100000 in
theorem nl155 : mm_ml 155 = 1 := by decide +kernel
set_option maxRecDepth 100000 in
theorem nn155 : mm_na 155 = 1 := by decide +kernel
set_option maxRecDepth 100000 in
theorem nc155 : mm_ci 155 = 10 := by decide +kernel
-- image (I)I
set_option maxRecDepth 100000 in
theorem nb156_0 : mm_blk 156 0 = some [.aload 0, .sipush (0), .multianewarray 10 0, .iload 1, .sipush (-1), .if_icmp .ne 17, .aload 0, .invokeinterface 10 46, .goto 43] := by decide +kernel
set_option maxRecDepth 100000 in
theorem nb156_17 : mm_blk 156 17 = some [.iload 1, .ifCond .lt 42, .iload 1, .aload 0, .invokeinterface 10 46, .if_icmp .ge 42, .aload 0, .invokeinterface 10 47, .iload 1, .baload, .sipush (255), .iand, .goto 43] := by decide +kernel
set_option maxRecDepth 100000 in
theorem nb156_42 : mm_blk 156 42 = some [.sipush (-1), .goto_w 43] := by decide +kernel
set_option maxRecDepth 100000 in
theorem nb156_43 : mm_blk 156 43 = some [.ireturn] := by decide +kernel
set_option maxRecDepth 100000 in
theorem nl156 : mm_ml 156 = 2 := by decide +kernel
set_option maxRecDepth 100000 in
theorem nn156 : mm_na 156 = 2 := by decide +kernel
set_option maxRecDepth 100000 in
theorem nc156 : mm_ci 156 = 10 := by decide +kernel
-- restart ()Z
set_option maxRecDepth 100000 in
theorem nb157_0 : mm_blk 157 0 = some [.aload 0, .sipush (0), .multianewarray 10 0, .aload 0, .invokeinterface 10 46, .ifCond .ne 14, .sipush (0), .freturn] := by decide +kernel
set_option maxRecDepth 100000 in
theorem nb157_14 : mm_blk 157 14 = some [.aload 0, .invokevirtual 154, .sipush (1), .freturn] := by decide +kernel
set_option maxRecDepth 100000 in
theorem nl157 : mm_ml 157 = 1 := by decide +kernel
set_option maxRecDepth 100000 in
theorem nn157 : mm_na 157 = 1 := by decide +kernel
set_option maxRecDepth 100000 in
theorem nc157 : mm_ci 157 = 10 := by decide +kernel
-- run (I)I
set_option maxRecDepth 100000 in
theorem nb158_0 : mm_blk 158 0 = some [.aload 0, .iload 1, .ifCond .lt 12, .iload 1, .sipush (500), .if_icmp .le 16, .goto_w 12] := by decide +kernel
set_option maxRecDepth 100000 in
theorem nb158_12 : mm_blk 158 12 = some [.sipush (1), .goto 17] := by decide +kernel
set_option maxRecDepth 100000 in
theorem nb158_16 : mm_blk 158 16 = some [.sipush (0), .goto_w 17] := by decide +kernel
set_option maxRecDepth 100000 in
theorem nb158_17 : mm_blk 158 17 = some [.multianewarray 10 0, .sipush (0), .istore 2, .goto_w 22] := by decide +kernel
set_option maxRecDepth 100000 in
theorem nb158_22 : mm_blk 158 22 = some [.aload 0, .invokeinterface 10 0, .ifCond .ne 52, .iload 2, .iload 1, .if_icmp .ge 52, .aload 0, .invokeinterface 10 48, .sipush (1), .if_icmp .ne 52, .aload 0, .invokevirtual 159, .iinc 2 (1), .goto 22] := by decide +kernel
set_option maxRecDepth 100000 in
theorem nb158_52 : mm_blk 158 52 = some [.iload 2, .ireturn] := by decide +kernel
set_option maxRecDepth 100000 in
theorem nl158 : mm_ml 158 = 3 := by decide +kernel
set_option maxRecDepth 100000 in
theorem nn158 : mm_na 158 = 2 := by decide +kernel
set_option maxRecDepth 100000 in
theorem nc158 : mm_ci 158 = 10 := by decide +kernel
-- step ()V
set_option maxRecDepth 100000 in
theorem nb159_0 : mm_blk 159 0 = some [.aload 0, .invokeinterface 10 47, .aload 0, .invokeinterface 10 49, .baload, .istore 1, .iload 1, .sipush (1), .if_icmp .eq 27, .iload 1, .sipush (11), .if_icmp .eq 27, .iload 1, .sipush (13), .if_icmp .ne 45, .goto_w 27] := by decide +kernel
set_option maxRecDepth 100000 in
theorem nb159_27 : mm_blk 159 27 = some [.aload 0, .invokeinterface 10 47, .aload 0, .invokeinterface 10 49, .sipush (1), .iadd, .baload, .sipush (255), .iand, .goto 46] := by decide +kernel
set_option maxRecDepth 100000 in
theorem nb159_45 : mm_blk 159 45 = some [.sipush (0), .goto_w 46] := by decide +kernel
set_option maxRecDepth 100000 in
theorem nb159_46 : mm_blk 159 46 = some [.istore 2, .iload 1, .sipush (2), .if_icmp .ge 61, .aload 0, .invokeinterface 10 51, .sipush (120), .if_icmp .eq 76, .goto_w 61] := by decide +kernel
set_option maxRecDepth 100000 in
theorem nb159_61 : mm_blk 159 61 = some [.iload 1, .sipush (12), .if_icmp .ne 82, .aload 0, .invokeinterface 10 52, .sipush (24), .if_icmp .ne 82, .goto_w 76] := by decide +kernel
set_option maxRecDepth 100000 in
theorem nb159_76 : mm_blk 159 76 = some [.aload 0, .sipush (3), .multianewarray 10 48, .return_] := by decide +kernel
set_option maxRecDepth 100000 in
theorem nb159_82 : mm_blk 159 82 = some [.aload 0, .invokeinterface 10 49, .iload 1, .invokestatic 153, .iadd, .istore 3, .iload 1, .lookupswitch 481 #[(0, 168), (1, 186), (2, 481), (3, 481), (4, 481), (5, 481), (6, 481), (7, 204), (8, 218), (9, 258), (10, 293), (11, 306), (12, 331), (13, 402), (14, 468)]] := by decide +kernel
set_option maxRecDepth 100000 in
theorem nb159_168 : mm_blk 159 168 = some [.aload 0, .aload 0, .aload 0, .invokeinterface 10 49, .sipush (1), .iadd, .invokevirtual 160, .i2s, .invokevirtual 161, .goto 486] := by decide +kernel
set_option maxRecDepth 100000 in
theorem nb159_186 : mm_blk 159 186 = some [.aload 0, .aload 0, .invokeinterface 10 54, .aload 0, .invokeinterface 10 50, .iload 2, .iadd, .iaload, .invokevirtual 161, .goto 486] := by decide +kernel
set_option maxRecDepth 100000 in
theorem nb159_204 : mm_blk 159 204 = some [.aload 0, .aload 0, .invokeinterface 10 49, .sipush (1), .iadd, .invokevirtual 160, .istore 3, .goto 486] := by decide +kernel
set_option maxRecDepth 100000 in
theorem nb159_218 : mm_blk 159 218 = some [.aload 0, .dup, .invokeinterface 10 51, .sipush (1), .isub, .multianewarray 10 51, .aload 0, .invokeinterface 10 54, .aload 0, .invokeinterface 10 51, .iaload, .ifCond .ne 253, .aload 0, .aload 0, .invokeinterface 10 49, .sipush (1), .iadd, .invokevirtual 160, .goto 254] := by decide +kernel
set_option maxRecDepth 100000 in
theorem nb159_253 : mm_blk 159 253 = some [.iload 3, .goto_w 254] := by decide +kernel
set_option maxRecDepth 100000 in
theorem nb159_254 : mm_blk 159 254 = some [.istore 3, .goto 486] := by decide +kernel
set_option maxRecDepth 100000 in
theorem nb159_258 : mm_blk 159 258 = some [.aload 0, .invokeinterface 10 54, .aload 0, .invokeinterface 10 51, .sipush (2), .isub, .aload 0, .invokeinterface 10 54, .aload 0, .invokeinterface 10 51, .sipush (1), .isub, .iaload, .iastore, .aload 0, .dup, .invokeinterface 10 51, .sipush (1), .isub, .multianewarray 10 51, .goto 486] := by decide +kernel
set_option maxRecDepth 100000 in
theorem nb159_293 : mm_blk 159 293 = some [.aload 0, .dup, .invokeinterface 10 51, .sipush (1), .isub, .multianewarray 10 51, .goto 486] := by decide +kernel
set_option maxRecDepth 100000 in
theorem nb159_306 : mm_blk 159 306 = some [.aload 0, .invokeinterface 10 54, .aload 0, .invokeinterface 10 50, .iload 2, .iadd, .aload 0, .invokeinterface 10 54, .aload 0, .invokeinterface 10 51, .sipush (1), .isub, .iaload, .iastore, .goto 486] := by decide +kernel
set_option maxRecDepth 100000 in
theorem nb159_331 : mm_blk 159 331 = some [.aload 0, .invokeinterface 10 55, .aload 0, .invokeinterface 10 52, .aload 0, .invokeinterface 10 50, .iastore, .aload 0, .invokeinterface 10 56, .aload 0, .invokeinterface 10 52, .iload 3, .iastore, .aload 0, .dup, .invokeinterface 10 52, .sipush (1), .iadd, .multianewarray 10 52, .aload 0, .aload 0, .invokeinterface 10 51, .aload 0, .invokeinterface 10 47, .aload 0, .invokeinterface 10 49, .sipush (3), .iadd, .baload, .sipush (255), .iand, .isub, .multianewarray 10 50, .aload 0, .aload 0, .invokeinterface 10 49, .sipush (1), .iadd, .invokevirtual 160, .istore 3, .goto 486] := by decide +kernel
set_option maxRecDepth 100000 in
theorem nb159_402 : mm_blk 159 402 = some [.aload 0, .invokeinterface 10 54, .aload 0, .invokeinterface 10 50, .aload 0, .invokeinterface 10 54, .aload 0, .invokeinterface 10 51, .sipush (1), .isub, .iaload, .iastore, .aload 0, .aload 0, .invokeinterface 10 50, .sipush (1), .iadd, .multianewarray 10 51, .aload 0, .dup, .invokeinterface 10 52, .sipush (1), .isub, .multianewarray 10 52, .aload 0, .aload 0, .invokeinterface 10 55, .aload 0, .invokeinterface 10 52, .iaload, .multianewarray 10 50, .aload 0, .invokeinterface 10 56, .aload 0, .invokeinterface 10 52, .iaload, .istore 3, .goto 486] := by decide +kernel
set_option maxRecDepth 100000 in
theorem nb159_468 : mm_blk 159 468 = some [.aload 0, .sipush (2), .multianewarray 10 48, .aload 0, .invokeinterface 10 49, .istore 3, .goto 486] := by decide +kernel
set_option maxRecDepth 100000 in
theorem nb159_481 : mm_blk 159 481 = some [.aload 0, .iload 1, .invokevirtual 162, .goto_w 486] := by decide +kernel
set_option maxRecDepth 100000 in
theorem nb159_486 : mm_blk 159 486 = some [.aload 0, .iload 3, .multianewarray 10 49, .aload 0, .dup, .invokeinterface 10 53, .sipush (1), .iadd, .multianewarray 10 53, .return_] := by decide +kernel
set_option maxRecDepth 100000 in
theorem nl159 : mm_ml 159 = 4 := by decide +kernel
set_option maxRecDepth 100000 in
theorem nn159 : mm_na 159 = 1 := by decide +kernel
set_option maxRecDepth 100000 in
theorem nc159 : mm_ci 159 = 10 := by decide +kernel
-- placeAt (I)I
set_option maxRecDepth 100000 in
theorem nb160_0 : mm_blk 160 0 = some [.aload 0, .invokeinterface 10 47, .iload 1, .baload, .sipush (255), .iand, .sipush (8), .ishl, .aload 0, .invokeinterface 10 47, .iload 1, .sipush (1), .iadd, .baload, .sipush (255), .iand, .ior, .ireturn] := by decide +kernel
set_option maxRecDepth 100000 in
theorem nl160 : mm_ml 160 = 2 := by decide +kernel
set_option maxRecDepth 100000 in
theorem nn160 : mm_na 160 = 2 := by decide +kernel
set_option maxRecDepth 100000 in
theorem nc160 : mm_ci 160 = 10 := by decide +kernel
-- put (I)V
set_option maxRecDepth 100000 in
theorem nb161_0 : mm_blk 161 0 = some [.aload 0, .invokeinterface 10 54, .aload 0, .invokeinterface 10 51, .iload 1, .iastore, .aload 0, .dup, .invokeinterface 10 51, .sipush (1), .iadd, .multianewarray 10 51, .return_] := by decide +kernel
set_option maxRecDepth 100000 in
theorem nl161 : mm_ml 161 = 2 := by decide +kernel
set_option maxRecDepth 100000 in
theorem nn161 : mm_na 161 = 2 := by decide +kernel
set_option maxRecDepth 100000 in
theorem nc161 : mm_ci 161 = 10 := by decide +kernel
-- work (I)V
set_option maxRecDepth 100000 in
theorem nb162_0 : mm_blk 162 0 = some [.aload 0, .invokeinterface 10 54, .aload 0, .invokeinterface 10 51, .sipush (1), .isub, .iaload, .istore 2, .aload 0, .invokeinterface 10 54, .aload 0, .invokeinterface 10 51, .sipush (2), .isub, .iaload, .istore 3, .aload 0, .dup, .invokeinterface 10 51, .sipush (1), .isub, .multianewarray 10 51, .aload 0, .invokeinterface 10 54, .aload 0, .invokeinterface 10 51, .sipush (1), .isub, .iload 1, .sipush (2), .if_icmp .ne 55, .iload 3, .iload 2, .iadd, .goto 100] := by decide +kernel
set_option maxRecDepth 100000 in
theorem nb162_55 : mm_blk 162 55 = some [.iload 1, .sipush (3), .if_icmp .ne 66, .iload 3, .iload 2, .isub, .goto 100] := by decide +kernel
set_option maxRecDepth 100000 in
theorem nb162_66 : mm_blk 162 66 = some [.iload 1, .sipush (4), .if_icmp .ne 77, .iload 3, .iload 2, .imul, .goto 100] := by decide +kernel
set_option maxRecDepth 100000 in
theorem nb162_77 : mm_blk 162 77 = some [.iload 1, .sipush (5), .if_icmp .ne 90, .iload 3, .iload 2, .if_icmp .ge 99, .goto 95] := by decide +kernel
set_option maxRecDepth 100000 in
theorem nb162_90 : mm_blk 162 90 = some [.iload 3, .iload 2, .if_icmp .ne 99, .goto_w 95] := by decide +kernel
set_option maxRecDepth 100000 in
theorem nb162_95 : mm_blk 162 95 = some [.sipush (1), .goto 100] := by decide +kernel
set_option maxRecDepth 100000 in
theorem nb162_99 : mm_blk 162 99 = some [.sipush (0), .goto_w 100] := by decide +kernel
set_option maxRecDepth 100000 in
theorem nb162_100 : mm_blk 162 100 = some [.iastore, .return_] := by decide +kernel
set_option maxRecDepth 100000 in
theorem nl162 : mm_ml 162 = 4 := by decide +kernel
set_option maxRecDepth 100000 in
theorem nn162 : mm_na 162 = 2 := by decide +kernel
set_option maxRecDepth 100000 in
theorem nc162 : mm_ci 162 = 10 := by decide +kernel
-- about (I)I
set_option maxRecDepth 100000 in
theorem nb163_0 : mm_blk 163 0 = some [.aload 0, .sipush (0), .multianewarray 10 0, .iload 1, .lookupswitch 74 #[(0, 44), (1, 49), (2, 54), (3, 59), (4, 64), (5, 69)]] := by decide +kernel
set_option maxRecDepth 100000 in
theorem nb163_44 : mm_blk 163 44 = some [.aload 0, .invokeinterface 10 48, .ireturn] := by decide +kernel
set_option maxRecDepth 100000 in
theorem nb163_49 : mm_blk 163 49 = some [.aload 0, .invokeinterface 10 49, .ireturn] := by decide +kernel
set_option maxRecDepth 100000 in
theorem nb163_54 : mm_blk 163 54 = some [.aload 0, .invokeinterface 10 50, .ireturn] := by decide +kernel
set_option maxRecDepth 100000 in
theorem nb163_59 : mm_blk 163 59 = some [.aload 0, .invokeinterface 10 51, .ireturn] := by decide +kernel
set_option maxRecDepth 100000 in
theorem nb163_64 : mm_blk 163 64 = some [.aload 0, .invokeinterface 10 52, .ireturn] := by decide +kernel
set_option maxRecDepth 100000 in
theorem nb163_69 : mm_blk 163 69 = some [.aload 0, .invokeinterface 10 53, .ireturn] := by decide +kernel
set_option maxRecDepth 100000 in
theorem nb163_74 : mm_blk 163 74 = some [.sipush (-1), .ireturn] := by decide +kernel
set_option maxRecDepth 100000 in
theorem nl163 : mm_ml 163 = 2 := by decide +kernel
set_option maxRecDepth 100000 in
theorem nn163 : mm_na 163 = 2 := by decide +kernel
set_option maxRecDepth 100000 in
theorem nc163 : mm_ci 163 = 10 := by decide +kernel
-- stack (I)I
set_option maxRecDepth 100000 in
theorem nb164_0 : mm_blk 164 0 = some [.aload 0, .sipush (0), .multianewarray 10 0, .iload 1, .ifCond .lt 26, .iload 1, .aload 0, .invokeinterface 10 51, .if_icmp .ge 26, .aload 0, .invokeinterface 10 54, .iload 1, .iaload, .goto 27] := by decide +kernel
set_option maxRecDepth 100000 in
theorem nb164_26 : mm_blk 164 26 = some [.sipush (0), .goto_w 27] := by decide +kernel
set_option maxRecDepth 100000 in
theorem nb164_27 : mm_blk 164 27 = some [.ireturn] := by decide +kernel
set_option maxRecDepth 100000 in
theorem nl164 : mm_ml 164 = 2 := by decide +kernel
set_option maxRecDepth 100000 in
theorem nn164 : mm_na 164 = 2 := by decide +kernel
set_option maxRecDepth 100000 in
theorem nc164 : mm_ci 164 = 10 := by decide +kernel
-- top ()I
set_option maxRecDepth 100000 in
theorem nb165_0 : mm_blk 165 0 = some [.aload 0, .sipush (0), .multianewarray 10 0, .aload 0, .invokeinterface 10 51, .ifCond .le 26, .aload 0, .invokeinterface 10 54, .aload 0, .invokeinterface 10 51, .sipush (1), .isub, .iaload, .goto 27] := by decide +kernel
set_option maxRecDepth 100000 in
theorem nb165_26 : mm_blk 165 26 = some [.sipush (0), .goto_w 27] := by decide +kernel
set_option maxRecDepth 100000 in
theorem nb165_27 : mm_blk 165 27 = some [.ireturn] := by decide +kernel
set_option maxRecDepth 100000 in
theorem nl165 : mm_ml 165 = 1 := by decide +kernel
set_option maxRecDepth 100000 in
theorem nn165 : mm_na 165 = 1 := by decide +kernel
set_option maxRecDepth 100000 in
theorem nc165 : mm_ci 165 = 10 := by decide +kernel
