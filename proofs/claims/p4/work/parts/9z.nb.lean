-- translate (LLispForge$Form;LLispForge$Replacement;II)V
set_option maxRecDepth 100000 in
theorem nb54_0 : mm_blk 54 0 = some [.iload 4, .sipush (100), .if_icmp .le 17, .checkcast 1] := by decide +kernel
set_option maxRecDepth 100000 in
theorem nb54_17 : mm_blk 54 17 = some [.aload 0, .aload 1, .aload 2, .invokevirtual 55, .aload 0, .invokeinterface 2 10, .astore 5, .aload 0, .invokeinterface 2 11, .astore 6, .aload 5, .invokeinterface 3 0, .ifCond .ne 53, .aload 0, .aload 5, .invokeinterface 3 1, .invokevirtual 63, .return_] := by decide +kernel
set_option maxRecDepth 100000 in
theorem nb54_53 : mm_blk 54 53 = some [.aload 5, .invokeinterface 3 0, .sipush (1), .if_icmp .ne 81, .aload 0, .sipush (1), .invokevirtual 64, .aload 0, .aload 0, .aload 5, .invokeinterface 3 1, .invokevirtual 65, .invokevirtual 64, .return_] := by decide +kernel
set_option maxRecDepth 100000 in
theorem nb54_81 : mm_blk 54 81 = some [.aload 0, .aload 5, .invokeinterface 3 3, .aload 6, .invokevirtual 55, .aload 0, .invokevirtual 66, .istore 7, .iload 7, .lookupswitch 307 #[(42, 208), (43, 208), (45, 208), (60, 208), (61, 208), (25711, 255), (26982, 227), (6579558, 297), (7103860, 241), (7168355, 297), (7501166, 283), (7562612, 269)]] := by decide +kernel
set_option maxRecDepth 100000 in
theorem nb54_208 : mm_blk 54 208 = some [.aload 0, .aload 5, .aload 6, .iload 3, .iload 4, .iload 7, .invokestatic 67, .invokevirtual 68, .goto 320] := by decide +kernel
set_option maxRecDepth 100000 in
theorem nb54_227 : mm_blk 54 227 = some [.aload 0, .aload 5, .aload 6, .iload 3, .iload 4, .invokevirtual 69, .goto 320] := by decide +kernel
set_option maxRecDepth 100000 in
theorem nb54_241 : mm_blk 54 241 = some [.aload 0, .aload 5, .aload 6, .iload 3, .iload 4, .invokevirtual 72, .goto 320] := by decide +kernel
set_option maxRecDepth 100000 in
theorem nb54_255 : mm_blk 54 255 = some [.aload 0, .aload 5, .aload 6, .iload 3, .iload 4, .invokevirtual 73, .goto 320] := by decide +kernel
set_option maxRecDepth 100000 in
theorem nb54_269 : mm_blk 54 269 = some [.aload 0, .aload 5, .aload 6, .iload 3, .iload 4, .invokevirtual 74, .goto 320] := by decide +kernel
set_option maxRecDepth 100000 in
theorem nb54_283 : mm_blk 54 283 = some [.aload 0, .aload 5, .aload 6, .iload 3, .iload 4, .invokevirtual 75, .goto 320] := by decide +kernel
set_option maxRecDepth 100000 in
theorem nb54_297 : mm_blk 54 297 = some [.checkcast 1] := by decide +kernel
set_option maxRecDepth 100000 in
theorem nb54_307 : mm_blk 54 307 = some [.aload 0, .iload 7, .aload 5, .aload 6, .iload 3, .iload 4, .invokevirtual 76, .goto_w 320] := by decide +kernel
set_option maxRecDepth 100000 in
theorem nb54_320 : mm_blk 54 320 = some [.return_] := by decide +kernel
set_option maxRecDepth 100000 in
theorem nl54 : mm_ml 54 = 8 := by decide +kernel
set_option maxRecDepth 100000 in
theorem nn54 : mm_na 54 = 5 := by decide +kernel
set_option maxRecDepth 100000 in
theorem nc54 : mm_ci 54 = 2 := by decide +kernel
-- settle (LLispForge$Form;LLispForge$Replacement;)V
set_option maxRecDepth 100000 in
theorem nb55_0 : mm_blk 55 0 = some [.aload 1, .astore 3, .aload 2, .astore 4, .sipush (0), .istore 5, .goto_w 8] := by decide +kernel
set_option maxRecDepth 100000 in
theorem nb55_8 : mm_blk 55 8 = some [.iload 5, .sipush (12), .if_icmp .gt 104, .aload 0, .aload 3, .aload 4, .invokevirtual 56, .aload 0, .invokeinterface 2 10, .astore 3, .aload 0, .invokeinterface 2 11, .astore 4, .aload 3, .ifnonnull 48, .checkcast 1] := by decide +kernel
set_option maxRecDepth 100000 in
theorem nb55_48 : mm_blk 55 48 = some [.aload 0, .aload 3, .invokeinterface 3 3, .aload 4, .invokevirtual 56, .aload 0, .invokevirtual 58, .astore 6, .aload 6, .ifnonnull 81, .aload 0, .aload 3, .multianewarray 2 10, .aload 0, .aload 4, .multianewarray 2 11, .return_] := by decide +kernel
set_option maxRecDepth 100000 in
theorem nb55_81 : mm_blk 55 81 = some [.aload 0, .aload 6, .aload 3, .aload 4, .invokevirtual 60, .astore 4, .aload 6, .invokeinterface 9 3, .astore 3, .iinc 5 (1), .goto 8] := by decide +kernel
set_option maxRecDepth 100000 in
theorem nb55_104 : mm_blk 55 104 = some [.checkcast 1] := by decide +kernel
set_option maxRecDepth 100000 in
theorem nl55 : mm_ml 55 = 7 := by decide +kernel
set_option maxRecDepth 100000 in
theorem nn55 : mm_na 55 = 3 := by decide +kernel
set_option maxRecDepth 100000 in
theorem nc55 : mm_ci 55 = 2 := by decide +kernel
-- follow (LLispForge$Form;LLispForge$Replacement;)V
set_option maxRecDepth 100000 in
theorem nb56_0 : mm_blk 56 0 = some [.aload 0, .aload 1, .multianewarray 2 10, .aload 0, .aload 2, .multianewarray 2 11, .aload 2, .astore 3, .goto_w 12] := by decide +kernel
set_option maxRecDepth 100000 in
theorem nb56_12 : mm_blk 56 12 = some [.aload 3, .ifnull 79, .aload 0, .invokeinterface 2 10, .ifnull 34, .aload 0, .invokeinterface 2 10, .invokeinterface 3 0, .sipush (1), .if_icmp .eq 38, .goto_w 34] := by decide +kernel
set_option maxRecDepth 100000 in
theorem nb56_34 : mm_blk 56 34 = some [.aconst_null, .goto 49] := by decide +kernel
set_option maxRecDepth 100000 in
theorem nb56_38 : mm_blk 56 38 = some [.aload 3, .aload 0, .invokeinterface 2 10, .invokeinterface 3 1, .invokevirtual 57, .goto_w 49] := by decide +kernel
set_option maxRecDepth 100000 in
theorem nb56_49 : mm_blk 56 49 = some [.astore 4, .aload 4, .ifnonnull 57, .return_] := by decide +kernel
set_option maxRecDepth 100000 in
theorem nb56_57 : mm_blk 56 57 = some [.aload 0, .aload 4, .multianewarray 2 10, .aload 0, .aload 3, .invokeinterface 7 2, .multianewarray 2 11, .aload 3, .invokeinterface 7 2, .astore 3, .goto 12] := by decide +kernel
set_option maxRecDepth 100000 in
theorem nb56_79 : mm_blk 56 79 = some [.return_] := by decide +kernel
set_option maxRecDepth 100000 in
theorem nl56 : mm_ml 56 = 5 := by decide +kernel
set_option maxRecDepth 100000 in
theorem nn56 : mm_na 56 = 3 := by decide +kernel
set_option maxRecDepth 100000 in
theorem nc56 : mm_ci 56 = 2 := by decide +kernel
-- argumentFor (I)LLispForge$Form;
set_option maxRecDepth 100000 in
theorem nb57_0 : mm_blk 57 0 = some [.aload 0, .invokeinterface 7 1, .astore 2, .sipush (0), .istore 3, .goto_w 7] := by decide +kernel
set_option maxRecDepth 100000 in
theorem nb57_7 : mm_blk 57 7 = some [.iload 3, .aload 0, .invokeinterface 7 0, .invokeinterface 9 2, .arraylength, .if_icmp .ge 49, .aload 2, .ifnull 49, .aload 0, .invokeinterface 7 0, .invokeinterface 9 2, .iload 3, .iaload, .iload 1, .if_icmp .ne 38, .aload 2, .areturn] := by decide +kernel
set_option maxRecDepth 100000 in
theorem nb57_38 : mm_blk 57 38 = some [.aload 2, .invokeinterface 3 5, .astore 2, .iinc 3 (1), .goto 7] := by decide +kernel
set_option maxRecDepth 100000 in
theorem nb57_49 : mm_blk 57 49 = some [.aconst_null, .areturn] := by decide +kernel
set_option maxRecDepth 100000 in
theorem nl57 : mm_ml 57 = 4 := by decide +kernel
set_option maxRecDepth 100000 in
theorem nn57 : mm_na 57 = 2 := by decide +kernel
set_option maxRecDepth 100000 in
theorem nc57 : mm_ci 57 = 7 := by decide +kernel
-- macroSeen ()LLispForge$Unit;
set_option maxRecDepth 100000 in
theorem nb58_0 : mm_blk 58 0 = some [.aload 0, .invokeinterface 2 10, .ifnull 36, .aload 0, .invokeinterface 2 10, .invokeinterface 3 0, .sipush (1), .if_icmp .ne 36, .aload 0, .invokeinterface 2 0, .sipush (2), .aload 0, .invokeinterface 2 10, .invokeinterface 3 1, .invokevirtual 59, .goto 37] := by decide +kernel
set_option maxRecDepth 100000 in
theorem nb58_36 : mm_blk 58 36 = some [.aconst_null, .goto_w 37] := by decide +kernel
set_option maxRecDepth 100000 in
theorem nb58_37 : mm_blk 58 37 = some [.areturn] := by decide +kernel
set_option maxRecDepth 100000 in
theorem nl58 : mm_ml 58 = 1 := by decide +kernel
set_option maxRecDepth 100000 in
theorem nn58 : mm_na 58 = 1 := by decide +kernel
set_option maxRecDepth 100000 in
theorem nc58 : mm_ci 58 = 2 := by decide +kernel
-- latest (II)LLispForge$Unit;
set_option maxRecDepth 100000 in
theorem nb59_0 : mm_blk 59 0 = some [.aload 0, .invokeinterface 8 1, .sipush (1), .isub, .istore 3, .goto_w 7] := by decide +kernel
set_option maxRecDepth 100000 in
theorem nb59_7 : mm_blk 59 7 = some [.iload 3, .ifCond .lt 51, .aload 0, .invokeinterface 8 0, .iload 3, .aaload, .astore 4, .aload 4, .ifnull 45, .aload 4, .invokeinterface 9 0, .iload 1, .if_icmp .ne 45, .aload 4, .invokeinterface 9 1, .iload 2, .if_icmp .ne 45, .aload 4, .areturn] := by decide +kernel
set_option maxRecDepth 100000 in
theorem nb59_45 : mm_blk 59 45 = some [.iinc 3 (-1), .goto 7] := by decide +kernel
set_option maxRecDepth 100000 in
theorem nb59_51 : mm_blk 59 51 = some [.aconst_null, .areturn] := by decide +kernel
set_option maxRecDepth 100000 in
theorem nl59 : mm_ml 59 = 5 := by decide +kernel
set_option maxRecDepth 100000 in
theorem nn59 : mm_na 59 = 3 := by decide +kernel
set_option maxRecDepth 100000 in
theorem nc59 : mm_ci 59 = 8 := by decide +kernel
-- replacementBy (LLispForge$Unit;LLispForge$Form;LLispForge$Replacement;)LLispForge$Replacement;
set_option maxRecDepth 100000 in
theorem nb60_0 : mm_blk 60 0 = some [.aload 2, .aload 1, .invokeinterface 9 2, .arraylength, .sipush (1), .iadd, .invokestatic 61, .aload 0, .invokeinterface 2 9, .sipush (12), .if_icmp .ne 31, .checkcast 1] := by decide +kernel
set_option maxRecDepth 100000 in
theorem nb60_31 : mm_blk 60 31 = some [.aload 0, .dup, .invokeinterface 2 9, .sipush (1), .iadd, .multianewarray 2 9, .new 7, .dup, .aload 1, .aload 2, .sipush (1), .invokevirtual 45, .aload 3, .invokevirtual 62, .areturn] := by decide +kernel
set_option maxRecDepth 100000 in
theorem nl60 : mm_ml 60 = 4 := by decide +kernel
set_option maxRecDepth 100000 in
theorem nn60 : mm_na 60 = 4 := by decide +kernel
set_option maxRecDepth 100000 in
theorem nc60 : mm_ci 60 = 2 := by decide +kernel
-- requireSize (LLispForge$Form;I)V
set_option maxRecDepth 100000 in
theorem nb61_0 : mm_blk 61 0 = some [.aload 0, .invokeinterface 3 2, .iload 1, .if_icmp .eq 19, .checkcast 1] := by decide +kernel
set_option maxRecDepth 100000 in
theorem nb61_19 : mm_blk 61 19 = some [.return_] := by decide +kernel
set_option maxRecDepth 100000 in
theorem nl61 : mm_ml 61 = 2 := by decide +kernel
set_option maxRecDepth 100000 in
theorem nn61 : mm_na 61 = 2 := by decide +kernel
set_option maxRecDepth 100000 in
theorem nc61 : mm_ci 61 = 2 := by decide +kernel
-- <init> (LLispForge$Unit;LLispForge$Form;LLispForge$Replacement;)V
set_option maxRecDepth 100000 in
theorem nb62_0 : mm_blk 62 0 = some [.aload 0, .invokespecial 0, .aload 0, .aload 1, .multianewarray 7 0, .aload 0, .aload 2, .multianewarray 7 1, .aload 0, .aload 3, .multianewarray 7 2, .return_] := by decide +kernel
set_option maxRecDepth 100000 in
theorem nl62 : mm_ml 62 = 4 := by decide +kernel
set_option maxRecDepth 100000 in
theorem nn62 : mm_na 62 = 4 := by decide +kernel
set_option maxRecDepth 100000 in
theorem nc62 : mm_ci 62 = 7 := by decide +kernel
-- putNumber (I)V
set_option maxRecDepth 100000 in
theorem nb63_0 : mm_blk 63 0 = some [.aload 0, .sipush (0), .invokevirtual 64, .aload 0, .iload 1, .sipush (8), .ishr, .invokevirtual 64, .aload 0, .iload 1, .invokevirtual 64, .return_] := by decide +kernel
set_option maxRecDepth 100000 in
theorem nl63 : mm_ml 63 = 2 := by decide +kernel
set_option maxRecDepth 100000 in
theorem nn63 : mm_na 63 = 2 := by decide +kernel
set_option maxRecDepth 100000 in
theorem nc63 : mm_ci 63 = 2 := by decide +kernel
-- emit (I)V
set_option maxRecDepth 100000 in
theorem nb64_0 : mm_blk 64 0 = some [.aload 0, .invokeinterface 2 1, .invokevirtual 10, .ifCond .ne 20, .checkcast 1] := by decide +kernel
set_option maxRecDepth 100000 in
theorem nb64_20 : mm_blk 64 20 = some [.aload 0, .invokeinterface 2 1, .iload 1, .invokevirtual 11, .return_] := by decide +kernel
set_option maxRecDepth 100000 in
theorem nl64 : mm_ml 64 = 2 := by decide +kernel
set_option maxRecDepth 100000 in
theorem nn64 : mm_na 64 = 2 := by decide +kernel
set_option maxRecDepth 100000 in
theorem nc64 : mm_ci 64 = 2 := by decide +kernel
-- slotOf (I)I
set_option maxRecDepth 100000 in
theorem nb65_0 : mm_blk 65 0 = some [.aload 0, .invokeinterface 2 8, .sipush (1), .isub, .istore 2, .goto_w 7] := by decide +kernel
set_option maxRecDepth 100000 in
theorem nb65_7 : mm_blk 65 7 = some [.iload 2, .ifCond .lt 34, .aload 0, .invokeinterface 2 6, .iload 2, .iaload, .iload 1, .if_icmp .ne 28, .aload 0, .invokeinterface 2 7, .iload 2, .iaload, .ireturn] := by decide +kernel
set_option maxRecDepth 100000 in
theorem nb65_28 : mm_blk 65 28 = some [.iinc 2 (-1), .goto 7] := by decide +kernel
set_option maxRecDepth 100000 in
theorem nb65_34 : mm_blk 65 34 = some [.checkcast 1] := by decide +kernel
set_option maxRecDepth 100000 in
theorem nl65 : mm_ml 65 = 3 := by decide +kernel
set_option maxRecDepth 100000 in
theorem nn65 : mm_na 65 = 2 := by decide +kernel
set_option maxRecDepth 100000 in
theorem nc65 : mm_ci 65 = 2 := by decide +kernel
-- symbolSeen ()I
set_option maxRecDepth 100000 in
theorem nb66_0 : mm_blk 66 0 = some [.aload 0, .invokeinterface 2 10, .ifnull 18, .aload 0, .invokeinterface 2 10, .invokeinterface 3 0, .sipush (1), .if_icmp .eq 29, .goto_w 18] := by decide +kernel
set_option maxRecDepth 100000 in
theorem nb66_18 : mm_blk 66 18 = some [.checkcast 1] := by decide +kernel
set_option maxRecDepth 100000 in
theorem nb66_29 : mm_blk 66 29 = some [.aload 0, .invokeinterface 2 10, .invokeinterface 3 1, .ireturn] := by decide +kernel
set_option maxRecDepth 100000 in
theorem nl66 : mm_ml 66 = 1 := by decide +kernel
set_option maxRecDepth 100000 in
theorem nn66 : mm_na 66 = 1 := by decide +kernel
set_option maxRecDepth 100000 in
theorem nc66 : mm_ci 66 = 2 := by decide +kernel
-- operationOf (I)I
set_option maxRecDepth 100000 in
theorem nb67_0 : mm_blk 67 0 = some [.iload 0, .lookupswitch 52 #[(42, 48), (43, 44), (45, 46), (60, 50)]] := by decide +kernel
set_option maxRecDepth 100000 in
theorem nb67_44 : mm_blk 67 44 = some [.sipush (2), .ireturn] := by decide +kernel
set_option maxRecDepth 100000 in
theorem nb67_46 : mm_blk 67 46 = some [.sipush (3), .ireturn] := by decide +kernel
set_option maxRecDepth 100000 in
theorem nb67_48 : mm_blk 67 48 = some [.sipush (4), .ireturn] := by decide +kernel
set_option maxRecDepth 100000 in
theorem nb67_50 : mm_blk 67 50 = some [.sipush (5), .ireturn] := by decide +kernel
set_option maxRecDepth 100000 in
theorem nb67_52 : mm_blk 67 52 = some [.sipush (6), .ireturn] := by decide +kernel
set_option maxRecDepth 100000 in
theorem nl67 : mm_ml 67 = 1 := by decide +kernel
set_option maxRecDepth 100000 in
theorem nn67 : mm_na 67 = 1 := by decide +kernel
set_option maxRecDepth 100000 in
theorem nc67 : mm_ci 67 = 2 := by decide +kernel
-- putPair (LLispForge$Form;LLispForge$Replacement;III)V
set_option maxRecDepth 100000 in
theorem nb68_0 : mm_blk 68 0 = some [.aload 1, .sipush (3), .invokestatic 61, .aload 0, .aload 1, .sipush (1), .invokevirtual 45, .aload 2, .iload 3, .iload 4, .sipush (1), .iadd, .invokevirtual 54, .aload 0, .aload 1, .sipush (2), .invokevirtual 45, .aload 2, .iload 3, .sipush (1), .iadd, .iload 4, .sipush (1), .iadd, .invokevirtual 54, .aload 0, .iload 5, .invokevirtual 64, .return_] := by decide +kernel
set_option maxRecDepth 100000 in
theorem nl68 : mm_ml 68 = 6 := by decide +kernel
set_option maxRecDepth 100000 in
theorem nn68 : mm_na 68 = 6 := by decide +kernel
set_option maxRecDepth 100000 in
theorem nc68 : mm_ci 68 = 2 := by decide +kernel
-- putIf (LLispForge$Form;LLispForge$Replacement;II)V
set_option maxRecDepth 100000 in
theorem nb69_0 : mm_blk 69 0 = some [.aload 1, .sipush (4), .invokestatic 61, .aload 0, .aload 1, .sipush (1), .invokevirtual 45, .aload 2, .iload 3, .iload 4, .sipush (1), .iadd, .invokevirtual 54, .aload 0, .sipush (8), .invokevirtual 70, .istore 5, .aload 0, .aload 1, .sipush (2), .invokevirtual 45, .aload 2, .iload 3, .iload 4, .sipush (1), .iadd, .invokevirtual 54, .aload 0, .sipush (7), .invokevirtual 70, .istore 6, .aload 0, .invokeinterface 2 1, .iload 5, .aload 0, .invokeinterface 2 1, .invokeinterface 1 1, .invokevirtual 71, .aload 0, .aload 1, .sipush (3), .invokevirtual 45, .aload 2, .iload 3, .iload 4, .sipush (1), .iadd, .invokevirtual 54, .aload 0, .invokeinterface 2 1, .iload 6, .aload 0, .invokeinterface 2 1, .invokeinterface 1 1, .invokevirtual 71, .return_] := by decide +kernel
set_option maxRecDepth 100000 in
theorem nl69 : mm_ml 69 = 7 := by decide +kernel
set_option maxRecDepth 100000 in
theorem nn69 : mm_na 69 = 5 := by decide +kernel
set_option maxRecDepth 100000 in
theorem nc69 : mm_ci 69 = 2 := by decide +kernel
-- putJump (I)I
set_option maxRecDepth 100000 in
theorem nb70_0 : mm_blk 70 0 = some [.aload 0, .iload 1, .invokevirtual 64, .aload 0, .sipush (0), .invokevirtual 64, .aload 0, .sipush (0), .invokevirtual 64, .aload 0, .invokeinterface 2 1, .invokeinterface 1 1, .sipush (2), .isub, .ireturn] := by decide +kernel
set_option maxRecDepth 100000 in
theorem nl70 : mm_ml 70 = 2 := by decide +kernel
set_option maxRecDepth 100000 in
theorem nn70 : mm_na 70 = 2 := by decide +kernel
set_option maxRecDepth 100000 in
theorem nc70 : mm_ci 70 = 2 := by decide +kernel
-- setTwo (II)V
set_option maxRecDepth 100000 in
theorem nb71_0 : mm_blk 71 0 = some [.iload 1, .ifCond .lt 41, .iload 1, .aload 0, .invokeinterface 1 1, .sipush (1), .isub, .if_icmp .ge 41, .aload 0, .invokeinterface 1 0, .iload 1, .iload 2, .sipush (8), .ishr, .sipush (255), .iand, .iastore, .aload 0, .invokeinterface 1 0, .iload 1, .sipush (1), .iadd, .iload 2, .sipush (255), .iand, .iastore, .goto_w 41] := by decide +kernel
set_option maxRecDepth 100000 in
theorem nb71_41 : mm_blk 71 41 = some [.return_] := by decide +kernel
set_option maxRecDepth 100000 in
theorem nl71 : mm_ml 71 = 3 := by decide +kernel
set_option maxRecDepth 100000 in
theorem nn71 : mm_na 71 = 3 := by decide +kernel
set_option maxRecDepth 100000 in
theorem nc71 : mm_ci 71 = 1 := by decide +kernel
-- putLet (LLispForge$Form;LLispForge$Replacement;II)V
set_option maxRecDepth 100000 in
theorem nb72_0 : mm_blk 72 0 = some [.aload 1, .sipush (4), .invokestatic 61, .aload 0, .aload 1, .sipush (1), .invokevirtual 45, .aload 2, .invokevirtual 55, .aload 0, .invokevirtual 66, .istore 5, .iload 5, .invokestatic 35, .ifCond .ne 39, .checkcast 1] := by decide +kernel
set_option maxRecDepth 100000 in
theorem nb72_39 : mm_blk 72 39 = some [.aload 0, .aload 1, .sipush (2), .invokevirtual 45, .aload 2, .iload 3, .iload 4, .sipush (1), .iadd, .invokevirtual 54, .aload 0, .iload 5, .iload 3, .invokevirtual 53, .aload 0, .aload 1, .sipush (3), .invokevirtual 45, .aload 2, .iload 3, .sipush (1), .iadd, .iload 4, .sipush (1), .iadd, .invokevirtual 54, .aload 0, .dup, .invokeinterface 2 8, .sipush (1), .isub, .multianewarray 2 8, .aload 0, .sipush (9), .invokevirtual 64, .return_] := by decide +kernel
set_option maxRecDepth 100000 in
theorem nl72 : mm_ml 72 = 6 := by decide +kernel
set_option maxRecDepth 100000 in
theorem nn72 : mm_na 72 = 5 := by decide +kernel
set_option maxRecDepth 100000 in
theorem nc72 : mm_ci 72 = 2 := by decide +kernel
-- putDo (LLispForge$Form;LLispForge$Replacement;II)V
set_option maxRecDepth 100000 in
theorem nb73_0 : mm_blk 73 0 = some [.aload 1, .invokeinterface 3 2, .sipush (2), .if_icmp .ge 18, .checkcast 1] := by decide +kernel
set_option maxRecDepth 100000 in
theorem nb73_18 : mm_blk 73 18 = some [.aload 1, .sipush (1), .invokevirtual 45, .astore 5, .goto_w 25] := by decide +kernel
set_option maxRecDepth 100000 in
theorem nb73_25 : mm_blk 73 25 = some [.aload 5, .ifnull 66, .aload 0, .aload 5, .aload 2, .iload 3, .iload 4, .sipush (1), .iadd, .invokevirtual 54, .aload 5, .invokeinterface 3 5, .ifnull 56, .aload 0, .sipush (10), .invokevirtual 64, .goto_w 56] := by decide +kernel
set_option maxRecDepth 100000 in
theorem nb73_56 : mm_blk 73 56 = some [.aload 5, .invokeinterface 3 5, .astore 5, .goto 25] := by decide +kernel
set_option maxRecDepth 100000 in
theorem nb73_66 : mm_blk 73 66 = some [.return_] := by decide +kernel
set_option maxRecDepth 100000 in
theorem nl73 : mm_ml 73 = 6 := by decide +kernel
set_option maxRecDepth 100000 in
theorem nn73 : mm_na 73 = 5 := by decide +kernel
set_option maxRecDepth 100000 in
theorem nc73 : mm_ci 73 = 2 := by decide +kernel
-- putSet (LLispForge$Form;LLispForge$Replacement;II)V
set_option maxRecDepth 100000 in
theorem nb74_0 : mm_blk 74 0 = some [.aload 1, .sipush (3), .invokestatic 61, .aload 0, .aload 1, .sipush (1), .invokevirtual 45, .aload 2, .invokevirtual 55, .aload 0, .aload 0, .invokevirtual 66, .invokevirtual 65, .istore 5, .aload 0, .aload 1, .sipush (2), .invokevirtual 45, .aload 2, .iload 3, .iload 4, .sipush (1), .iadd, .invokevirtual 54, .aload 0, .sipush (11), .invokevirtual 64, .aload 0, .iload 5, .invokevirtual 64, .return_] := by decide +kernel
set_option maxRecDepth 100000 in
theorem nl74 : mm_ml 74 = 6 := by decide +kernel
set_option maxRecDepth 100000 in
theorem nn74 : mm_na 74 = 5 := by decide +kernel
set_option maxRecDepth 100000 in
theorem nc74 : mm_ci 74 = 2 := by decide +kernel
-- putRun (LLispForge$Form;LLispForge$Replacement;II)V
set_option maxRecDepth 100000 in
theorem nb75_0 : mm_blk 75 0 = some [.aload 1, .sipush (3), .invokestatic 61, .aload 0, .invokeinterface 2 1, .invokeinterface 1 1, .istore 5, .aload 0, .aload 1, .sipush (1), .invokevirtual 45, .aload 2, .iload 3, .iload 4, .sipush (1), .iadd, .invokevirtual 54, .aload 0, .sipush (8), .invokevirtual 70, .istore 6, .aload 0, .aload 1, .sipush (2), .invokevirtual 45, .aload 2, .iload 3, .iload 4, .sipush (1), .iadd, .invokevirtual 54, .aload 0, .sipush (10), .invokevirtual 64, .aload 0, .sipush (7), .invokevirtual 70, .istore 7, .aload 0, .invokeinterface 2 1, .iload 7, .iload 5, .invokevirtual 71, .aload 0, .invokeinterface 2 1, .iload 6, .aload 0, .invokeinterface 2 1, .invokeinterface 1 1, .invokevirtual 71, .aload 0, .sipush (0), .invokevirtual 63, .return_] := by decide +kernel
set_option maxRecDepth 100000 in
theorem nl75 : mm_ml 75 = 8 := by decide +kernel
set_option maxRecDepth 100000 in
theorem nn75 : mm_na 75 = 5 := by decide +kernel
set_option maxRecDepth 100000 in
theorem nc75 : mm_ci 75 = 2 := by decide +kernel
-- putCall (ILLispForge$Form;LLispForge$Replacement;II)V
set_option maxRecDepth 100000 in
theorem nb76_0 : mm_blk 76 0 = some [.sipush (0), .istore 6, .aload 2, .sipush (1), .invokevirtual 45, .astore 7, .goto_w 10] := by decide +kernel
set_option maxRecDepth 100000 in
theorem nb76_10 : mm_blk 76 10 = some [.aload 7, .ifnull 44, .aload 0, .aload 7, .aload 3, .iload 4, .iload 6, .iadd, .iload 5, .sipush (1), .iadd, .invokevirtual 54, .iinc 6 (1), .aload 7, .invokeinterface 3 5, .astore 7, .goto 10] := by decide +kernel
set_option maxRecDepth 100000 in
theorem nb76_44 : mm_blk 76 44 = some [.aload 0, .sipush (12), .invokevirtual 64, .aload 0, .aload 0, .invokeinterface 2 1, .invokeinterface 1 1, .iload 1, .invokevirtual 77, .aload 0, .sipush (0), .invokevirtual 64, .aload 0, .sipush (0), .invokevirtual 64, .aload 0, .iload 6, .invokevirtual 64, .return_] := by decide +kernel
set_option maxRecDepth 100000 in
theorem nl76 : mm_ml 76 = 8 := by decide +kernel
set_option maxRecDepth 100000 in
theorem nn76 : mm_na 76 = 6 := by decide +kernel
set_option maxRecDepth 100000 in
theorem nc76 : mm_ci 76 = 2 := by decide +kernel
-- addFix (II)V
set_option maxRecDepth 100000 in
theorem nb77_0 : mm_blk 77 0 = some [.aload 0, .invokeinterface 2 5, .sipush (50), .if_icmp .lt 20, .checkcast 1] := by decide +kernel
set_option maxRecDepth 100000 in
theorem nb77_20 : mm_blk 77 20 = some [.aload 0, .invokeinterface 2 3, .aload 0, .invokeinterface 2 5, .iload 1, .iastore, .aload 0, .invokeinterface 2 4, .aload 0, .invokeinterface 2 5, .iload 2, .iastore, .aload 0, .dup, .invokeinterface 2 5, .sipush (1), .iadd, .multianewarray 2 5, .return_] := by decide +kernel
set_option maxRecDepth 100000 in
theorem nl77 : mm_ml 77 = 3 := by decide +kernel
set_option maxRecDepth 100000 in
theorem nn77 : mm_na 77 = 3 := by decide +kernel
set_option maxRecDepth 100000 in
theorem nc77 : mm_ci 77 = 2 := by decide +kernel
-- copy ()LLispForge$Bytes;
set_option maxRecDepth 100000 in
theorem nb78_0 : mm_blk 78 0 = some [.new 1, .dup, .aload 0, .invokeinterface 1 1, .invokevirtual 1, .astore 1, .aload 1, .aload 0, .invokevirtual 79, .aload 1, .areturn] := by decide +kernel
set_option maxRecDepth 100000 in
theorem nl78 : mm_ml 78 = 2 := by decide +kernel
set_option maxRecDepth 100000 in
theorem nn78 : mm_na 78 = 1 := by decide +kernel
set_option maxRecDepth 100000 in
theorem nc78 : mm_ci 78 = 1 := by decide +kernel
-- putAll (LLispForge$Bytes;)V
set_option maxRecDepth 100000 in
theorem nb79_0 : mm_blk 79 0 = some [.sipush (0), .istore 2, .goto_w 2] := by decide +kernel
set_option maxRecDepth 100000 in
theorem nb79_2 : mm_blk 79 2 = some [.iload 2, .aload 1, .invokeinterface 1 1, .if_icmp .ge 25, .aload 0, .aload 1, .iload 2, .invokevirtual 16, .invokevirtual 11, .iinc 2 (1), .goto 2] := by decide +kernel
set_option maxRecDepth 100000 in
theorem nb79_25 : mm_blk 79 25 = some [.return_] := by decide +kernel
set_option maxRecDepth 100000 in
theorem nl79 : mm_ml 79 = 3 := by decide +kernel
set_option maxRecDepth 100000 in
theorem nn79 : mm_na 79 = 2 := by decide +kernel
set_option maxRecDepth 100000 in
theorem nc79 : mm_ci 79 = 1 := by decide +kernel
-- copyOf ([II)[I
set_option maxRecDepth 100000 in
theorem nb80_0 : mm_blk 80 0 = some [.iload 1, .aload 0, .arraylength, .if_icmp .ne 14, .goto_w 6] := by decide +kernel
set_option maxRecDepth 100000 in
theorem nb80_14 : mm_blk 80 14 = some [.iload 1, .newarray .int, .astore 2, .aload 0, .sipush (0), .aload 2, .sipush (0), .aload 0, .arraylength, .iload 1, .fsub, .goto_w 28] := by decide +kernel
set_option maxRecDepth 100000 in
theorem nb80_31 : mm_blk 80 31 = some [.aload 2, .areturn] := by decide +kernel
set_option maxRecDepth 100000 in
theorem nl80 : mm_ml 80 = 3 := by decide +kernel
set_option maxRecDepth 100000 in
theorem nn80 : mm_na 80 = 2 := by decide +kernel
-- fileOf (LLispForge$Unit;)LLispForge$Bytes;
set_option maxRecDepth 100000 in
theorem nb82_0 : mm_blk 82 0 = some [.aload 0, .invokeinterface 2 2, .invokevirtual 43, .aload 0, .invokeinterface 2 2, .aload 1, .invokeinterface 9 0, .invokevirtual 11, .aload 0, .invokeinterface 2 2, .aload 1, .invokeinterface 9 1, .invokevirtual 83, .aload 0, .invokeinterface 2 2, .aload 1, .invokeinterface 9 2, .arraylength, .invokevirtual 11, .aload 0, .invokeinterface 2 2, .aload 0, .invokeinterface 2 1, .invokeinterface 1 1, .invokevirtual 84, .aload 0, .invokeinterface 2 2, .aload 0, .invokeinterface 2 1, .invokevirtual 79, .aload 0, .invokeinterface 2 2, .aload 0, .invokeinterface 2 5, .invokevirtual 11, .sipush (0), .istore 2, .goto_w 79] := by decide +kernel
set_option maxRecDepth 100000 in
theorem nb82_79 : mm_blk 82 79 = some [.iload 2, .aload 0, .invokeinterface 2 5, .if_icmp .ge 119, .aload 0, .invokeinterface 2 2, .aload 0, .invokeinterface 2 3, .iload 2, .iaload, .invokevirtual 84, .aload 0, .invokeinterface 2 2, .aload 0, .invokeinterface 2 4, .iload 2, .iaload, .invokevirtual 83, .iinc 2 (1), .goto 79] := by decide +kernel
set_option maxRecDepth 100000 in
theorem nb82_119 : mm_blk 82 119 = some [.aload 0, .invokeinterface 2 2, .invokevirtual 78, .areturn] := by decide +kernel
set_option maxRecDepth 100000 in
theorem nl82 : mm_ml 82 = 3 := by decide +kernel
set_option maxRecDepth 100000 in
theorem nn82 : mm_na 82 = 2 := by decide +kernel
set_option maxRecDepth 100000 in
theorem nc82 : mm_ci 82 = 2 := by decide +kernel
-- putName (I)V
set_option maxRecDepth 100000 in
theorem nb83_0 : mm_blk 83 0 = some [.sipush (0), .istore 2, .sipush (24), .istore 3, .goto_w 5] := by decide +kernel
set_option maxRecDepth 100000 in
theorem nb83_5 : mm_blk 83 5 = some [.iload 3, .ifCond .lt 33, .iload 2, .iload 1, .iload 3, .ishr, .sipush (255), .iand, .ifCond .ne 24, .sipush (0), .goto 25] := by decide +kernel
set_option maxRecDepth 100000 in
theorem nb83_24 : mm_blk 83 24 = some [.sipush (1), .goto_w 25] := by decide +kernel
set_option maxRecDepth 100000 in
theorem nb83_25 : mm_blk 83 25 = some [.iadd, .istore 2, .iinc 3 (-8), .goto 5] := by decide +kernel
set_option maxRecDepth 100000 in
theorem nb83_33 : mm_blk 83 33 = some [.aload 0, .iload 2, .invokevirtual 11, .sipush (8), .iload 2, .sipush (1), .isub, .imul, .istore 3, .goto_w 45] := by decide +kernel
set_option maxRecDepth 100000 in
theorem nb83_45 : mm_blk 83 45 = some [.iload 3, .ifCond .lt 62, .aload 0, .iload 1, .iload 3, .ishr, .invokevirtual 11, .iinc 3 (-8), .goto 45] := by decide +kernel
set_option maxRecDepth 100000 in
theorem nb83_62 : mm_blk 83 62 = some [.return_] := by decide +kernel
set_option maxRecDepth 100000 in
theorem nl83 : mm_ml 83 = 4 := by decide +kernel
set_option maxRecDepth 100000 in
theorem nn83 : mm_na 83 = 2 := by decide +kernel
set_option maxRecDepth 100000 in
theorem nc83 : mm_ci 83 = 1 := by decide +kernel
-- putTwo (I)V
set_option maxRecDepth 100000 in
theorem nb84_0 : mm_blk 84 0 = some [.aload 0, .iload 1, .sipush (8), .ishr, .invokevirtual 11, .aload 0, .iload 1, .invokevirtual 11, .return_] := by decide +kernel
set_option maxRecDepth 100000 in
theorem nl84 : mm_ml 84 = 2 := by decide +kernel
set_option maxRecDepth 100000 in
theorem nn84 : mm_na 84 = 2 := by decide +kernel
set_option maxRecDepth 100000 in
theorem nc84 : mm_ci 84 = 1 := by decide +kernel
-- isFull ()Z
set_option maxRecDepth 100000 in
theorem nb85_0 : mm_blk 85 0 = some [.aload 0, .invokeinterface 8 1, .sipush (16), .if_icmp .lt 13, .sipush (1), .goto 14] := by decide +kernel
set_option maxRecDepth 100000 in
theorem nb85_13 : mm_blk 85 13 = some [.sipush (0), .goto_w 14] := by decide +kernel
set_option maxRecDepth 100000 in
theorem nb85_14 : mm_blk 85 14 = some [.freturn] := by decide +kernel
set_option maxRecDepth 100000 in
theorem nl85 : mm_ml 85 = 1 := by decide +kernel
set_option maxRecDepth 100000 in
theorem nn85 : mm_na 85 = 1 := by decide +kernel
set_option maxRecDepth 100000 in
theorem nc85 : mm_ci 85 = 8 := by decide +kernel
-- put (LLispForge$Unit;)I
set_option maxRecDepth 100000 in
theorem nb86_0 : mm_blk 86 0 = some [.aload 0, .invokevirtual 85, .ifCond .eq 9, .sipush (-1), .ireturn] := by decide +kernel
set_option maxRecDepth 100000 in
theorem nb86_9 : mm_blk 86 9 = some [.aload 0, .invokeinterface 8 0, .aload 0, .invokeinterface 8 1, .aload 1, .aastore, .aload 0, .dup, .invokeinterface 8 1, .sipush (1), .iadd, .multianewarray 8 1, .aload 0, .invokeinterface 8 1, .sipush (1), .isub, .ireturn] := by decide +kernel
set_option maxRecDepth 100000 in
theorem nl86 : mm_ml 86 = 2 := by decide +kernel
set_option maxRecDepth 100000 in
theorem nn86 : mm_na 86 = 2 := by decide +kernel
set_option maxRecDepth 100000 in
theorem nc86 : mm_ci 86 = 8 := by decide +kernel
-- link ()I
set_option maxRecDepth 100000 in
theorem nb87_0 : mm_blk 87 0 = some [.aload 0, .aload 0, .invokeinterface 0 4, .invokevirtual 88, .multianewarray 0 7, .aload 0, .invokeinterface 0 7, .ifCond .eq 28, .checkcast 2] := by decide +kernel
set_option maxRecDepth 100000 in
theorem nb87_28 : mm_blk 87 28 = some [.aload 0, .invokeinterface 0 4, .aload 0, .invokeinterface 0 5, .invokeinterface 5 0, .invokevirtual 92, .aload 0, .invokeinterface 0 5, .invokevirtual 22, .aload 0, .invokeinterface 0 5, .invokeinterface 5 0, .invokeinterface 1 1, .ireturn] := by decide +kernel
set_option maxRecDepth 100000 in
theorem nl87 : mm_ml 87 = 1 := by decide +kernel
set_option maxRecDepth 100000 in
theorem nn87 : mm_na 87 = 1 := by decide +kernel
set_option maxRecDepth 100000 in
theorem nc87 : mm_ci 87 = 0 := by decide +kernel
-- gather ()I
set_option maxRecDepth 100000 in
theorem nb88_0 : mm_blk 88 0 = some [.aload 0, .sipush (0), .multianewarray 4 3, .aload 0, .sipush (0), .multianewarray 4 4, .aload 0, .invokeinterface 4 0, .sipush (0), .sipush (0), .invokevirtual 59, .astore 1, .aload 1, .ifnonnull 26, .sipush (1), .ireturn] := by decide +kernel
set_option maxRecDepth 100000 in
theorem nb88_26 : mm_blk 88 26 = some [.aload 0, .aload 1, .invokevirtual 89, .sipush (0), .istore 2, .goto_w 33] := by decide +kernel
set_option maxRecDepth 100000 in
theorem nb88_33 : mm_blk 88 33 = some [.iload 2, .sipush (16), .if_icmp .ge 70, .iload 2, .aload 0, .invokeinterface 4 3, .if_icmp .ge 70, .aload 0, .aload 0, .invokeinterface 4 1, .iload 2, .aaload, .invokevirtual 90, .istore 3, .iload 3, .ifCond .eq 64, .iload 3, .ireturn] := by decide +kernel
set_option maxRecDepth 100000 in
theorem nb88_64 : mm_blk 88 64 = some [.iinc 2 (1), .goto 33] := by decide +kernel
set_option maxRecDepth 100000 in
theorem nb88_70 : mm_blk 88 70 = some [.aload 0, .invokeinterface 4 4, .sipush (600), .if_icmp .le 84, .sipush (4), .goto 85] := by decide +kernel
set_option maxRecDepth 100000 in
theorem nb88_84 : mm_blk 88 84 = some [.sipush (0), .goto_w 85] := by decide +kernel
set_option maxRecDepth 100000 in
theorem nb88_85 : mm_blk 88 85 = some [.ireturn] := by decide +kernel
set_option maxRecDepth 100000 in
theorem nl88 : mm_ml 88 = 4 := by decide +kernel
set_option maxRecDepth 100000 in
theorem nn88 : mm_na 88 = 1 := by decide +kernel
set_option maxRecDepth 100000 in
theorem nc88 : mm_ci 88 = 4 := by decide +kernel
-- add (LLispForge$Unit;)V
set_option maxRecDepth 100000 in
theorem nb89_0 : mm_blk 89 0 = some [.aload 0, .invokeinterface 4 3, .sipush (16), .if_icmp .ge 58, .aload 0, .invokeinterface 4 1, .aload 0, .invokeinterface 4 3, .aload 1, .aastore, .aload 0, .invokeinterface 4 2, .aload 0, .invokeinterface 4 3, .aload 0, .invokeinterface 4 4, .iastore, .aload 0, .dup, .invokeinterface 4 3, .sipush (1), .iadd, .multianewarray 4 3, .aload 0, .dup, .invokeinterface 4 4, .aload 1, .invokeinterface 9 4, .invokeinterface 1 1, .iadd, .multianewarray 4 4, .goto_w 58] := by decide +kernel
set_option maxRecDepth 100000 in
theorem nb89_58 : mm_blk 89 58 = some [.return_] := by decide +kernel
set_option maxRecDepth 100000 in
theorem nl89 : mm_ml 89 = 2 := by decide +kernel
set_option maxRecDepth 100000 in
theorem nn89 : mm_na 89 = 2 := by decide +kernel
set_option maxRecDepth 100000 in
theorem nc89 : mm_ci 89 = 4 := by decide +kernel
-- gatherCalledBy (LLispForge$Unit;)I
set_option maxRecDepth 100000 in
theorem nb90_0 : mm_blk 90 0 = some [.sipush (0), .istore 2, .goto_w 2] := by decide +kernel
set_option maxRecDepth 100000 in
theorem nb90_2 : mm_blk 90 2 = some [.iload 2, .aload 1, .invokeinterface 9 7, .arraylength, .if_icmp .ge 86, .iload 2, .aload 1, .invokeinterface 9 6, .arraylength, .if_icmp .ge 86, .aload 0, .invokeinterface 4 0, .sipush (1), .aload 1, .invokeinterface 9 7, .iload 2, .iaload, .invokevirtual 59, .astore 3, .aload 3, .ifnonnull 41, .sipush (2), .ireturn] := by decide +kernel
set_option maxRecDepth 100000 in
theorem nb90_41 : mm_blk 90 41 = some [.aload 3, .invokeinterface 9 2, .arraylength, .aload 1, .invokeinterface 9 4, .aload 1, .invokeinterface 9 6, .iload 2, .iaload, .sipush (2), .iadd, .invokevirtual 16, .if_icmp .eq 66, .sipush (3), .ireturn] := by decide +kernel
set_option maxRecDepth 100000 in
theorem nb90_66 : mm_blk 90 66 = some [.aload 0, .aload 3, .invokevirtual 91, .sipush (-1), .if_icmp .ne 80, .aload 0, .aload 3, .invokevirtual 89, .goto_w 80] := by decide +kernel
set_option maxRecDepth 100000 in
theorem nb90_80 : mm_blk 90 80 = some [.iinc 2 (1), .goto 2] := by decide +kernel
set_option maxRecDepth 100000 in
theorem nb90_86 : mm_blk 90 86 = some [.sipush (0), .ireturn] := by decide +kernel
set_option maxRecDepth 100000 in
theorem nl90 : mm_ml 90 = 4 := by decide +kernel
set_option maxRecDepth 100000 in
theorem nn90 : mm_na 90 = 2 := by decide +kernel
set_option maxRecDepth 100000 in
theorem nc90 : mm_ci 90 = 4 := by decide +kernel
-- beginningOf (LLispForge$Unit;)I
set_option maxRecDepth 100000 in
theorem nb91_0 : mm_blk 91 0 = some [.sipush (0), .istore 2, .goto_w 2] := by decide +kernel
set_option maxRecDepth 100000 in
theorem nb91_2 : mm_blk 91 2 = some [.iload 2, .aload 0, .invokeinterface 4 3, .if_icmp .ge 33, .aload 0, .invokeinterface 4 1, .iload 2, .aaload, .aload 1, .if_acmp .ne 27, .aload 0, .invokeinterface 4 2, .iload 2, .iaload, .ireturn] := by decide +kernel
set_option maxRecDepth 100000 in
theorem nb91_27 : mm_blk 91 27 = some [.iinc 2 (1), .goto 2] := by decide +kernel
set_option maxRecDepth 100000 in
theorem nb91_33 : mm_blk 91 33 = some [.sipush (-1), .ireturn] := by decide +kernel
set_option maxRecDepth 100000 in
theorem nl91 : mm_ml 91 = 3 := by decide +kernel
set_option maxRecDepth 100000 in
theorem nn91 : mm_na 91 = 2 := by decide +kernel
set_option maxRecDepth 100000 in
theorem nc91 : mm_ci 91 = 4 := by decide +kernel
-- fill (LLispForge$Bytes;)V
set_option maxRecDepth 100000 in
theorem nb92_0 : mm_blk 92 0 = some [.aload 1, .invokevirtual 43, .sipush (0), .istore 2, .goto_w 6] := by decide +kernel
set_option maxRecDepth 100000 in
theorem nb92_6 : mm_blk 92 6 = some [.iload 2, .aload 0, .invokeinterface 4 3, .if_icmp .ge 70, .aload 1, .aload 0, .invokeinterface 4 1, .iload 2, .aaload, .invokeinterface 9 4, .invokevirtual 79, .aload 0, .aload 0, .invokeinterface 4 1, .iload 2, .aaload, .invokeinterface 9 4, .aload 1, .aload 0, .invokeinterface 4 2, .iload 2, .iaload, .invokevirtual 93, .aload 0, .aload 0, .invokeinterface 4 1, .iload 2, .aaload, .aload 1, .aload 0, .invokeinterface 4 2, .iload 2, .iaload, .invokevirtual 96, .iinc 2 (1), .goto 6] := by decide +kernel
set_option maxRecDepth 100000 in
theorem nb92_70 : mm_blk 92 70 = some [.return_] := by decide +kernel
set_option maxRecDepth 100000 in
theorem nl92 : mm_ml 92 = 3 := by decide +kernel
set_option maxRecDepth 100000 in
theorem nn92 : mm_na 92 = 2 := by decide +kernel
set_option maxRecDepth 100000 in
theorem nc92 : mm_ci 92 = 4 := by decide +kernel
-- moveJumps (LLispForge$Bytes;LLispForge$Bytes;I)V
set_option maxRecDepth 100000 in
theorem nb93_0 : mm_blk 93 0 = some [.sipush (0), .istore 4, .goto_w 3] := by decide +kernel
set_option maxRecDepth 100000 in
theorem nb93_3 : mm_blk 93 3 = some [.iload 4, .aload 1, .invokeinterface 1 1, .if_icmp .ge 71, .aload 1, .iload 4, .invokevirtual 16, .istore 5, .iload 5, .sipush (7), .if_icmp .eq 34, .iload 5, .sipush (8), .if_icmp .ne 54, .goto_w 34] := by decide +kernel
set_option maxRecDepth 100000 in
theorem nb93_34 : mm_blk 93 34 = some [.aload 2, .iload 3, .iload 4, .iadd, .sipush (1), .iadd, .iload 3, .aload 1, .iload 4, .sipush (1), .iadd, .invokevirtual 94, .iadd, .invokevirtual 71, .goto_w 54] := by decide +kernel
set_option maxRecDepth 100000 in
theorem nb93_54 : mm_blk 93 54 = some [.iload 4, .aload 1, .iload 4, .invokevirtual 16, .invokestatic 95, .iadd, .istore 4, .goto 3] := by decide +kernel
set_option maxRecDepth 100000 in
theorem nb93_71 : mm_blk 93 71 = some [.return_] := by decide +kernel
set_option maxRecDepth 100000 in
theorem nl93 : mm_ml 93 = 6 := by decide +kernel
set_option maxRecDepth 100000 in
theorem nn93 : mm_na 93 = 4 := by decide +kernel
set_option maxRecDepth 100000 in
theorem nc93 : mm_ci 93 = 4 := by decide +kernel
-- twoAt (I)I
set_option maxRecDepth 100000 in
theorem nb94_0 : mm_blk 94 0 = some [.iload 1, .ifCond .lt 35, .iload 1, .aload 0, .invokeinterface 1 1, .sipush (1), .isub, .if_icmp .ge 35, .aload 0, .invokeinterface 1 0, .iload 1, .iaload, .sipush (8), .ishl, .aload 0, .invokeinterface 1 0, .iload 1, .sipush (1), .iadd, .iaload, .ior, .goto 36] := by decide +kernel
set_option maxRecDepth 100000 in
theorem nb94_35 : mm_blk 94 35 = some [.sipush (-1), .goto_w 36] := by decide +kernel
set_option maxRecDepth 100000 in
theorem nb94_36 : mm_blk 94 36 = some [.ireturn] := by decide +kernel
set_option maxRecDepth 100000 in
theorem nl94 : mm_ml 94 = 2 := by decide +kernel
set_option maxRecDepth 100000 in
theorem nn94 : mm_na 94 = 2 := by decide +kernel
set_option maxRecDepth 100000 in
theorem nc94 : mm_ci 94 = 1 := by decide +kernel
-- lengthOf (I)I
set_option maxRecDepth 100000 in
theorem nb95_0 : mm_blk 95 0 = some [.iload 0, .ifCond .lt 20, .iload 0, .getstatic 0, .arraylength, .if_icmp .ge 20, .getstatic 0, .iload 0, .iaload, .goto 21] := by decide +kernel
set_option maxRecDepth 100000 in
theorem nb95_20 : mm_blk 95 20 = some [.sipush (1), .goto_w 21] := by decide +kernel
set_option maxRecDepth 100000 in
theorem nb95_21 : mm_blk 95 21 = some [.ireturn] := by decide +kernel
set_option maxRecDepth 100000 in
theorem nl95 : mm_ml 95 = 1 := by decide +kernel
set_option maxRecDepth 100000 in
theorem nn95 : mm_na 95 = 1 := by decide +kernel
set_option maxRecDepth 100000 in
theorem nc95 : mm_ci 95 = 4 := by decide +kernel
-- setCalls (LLispForge$Unit;LLispForge$Bytes;I)V
set_option maxRecDepth 100000 in
theorem nb96_0 : mm_blk 96 0 = some [.sipush (0), .istore 4, .goto_w 3] := by decide +kernel
set_option maxRecDepth 100000 in
theorem nb96_3 : mm_blk 96 3 = some [.iload 4, .aload 1, .invokeinterface 9 7, .arraylength, .if_icmp .ge 65, .iload 4, .aload 1, .invokeinterface 9 6, .arraylength, .if_icmp .ge 65, .aload 0, .invokeinterface 4 0, .sipush (1), .aload 1, .invokeinterface 9 7, .iload 4, .iaload, .invokevirtual 59, .astore 5, .aload 2, .iload 3, .aload 1, .invokeinterface 9 6, .iload 4, .iaload, .iadd, .aload 0, .aload 5, .invokevirtual 91, .invokevirtual 71, .iinc 4 (1), .goto 3] := by decide +kernel
set_option maxRecDepth 100000 in
theorem nb96_65 : mm_blk 96 65 = some [.return_] := by decide +kernel
set_option maxRecDepth 100000 in
theorem nl96 : mm_ml 96 = 6 := by decide +kernel
set_option maxRecDepth 100000 in
theorem nn96 : mm_na 96 = 4 := by decide +kernel
set_option maxRecDepth 100000 in
theorem nc96 : mm_ci 96 = 4 := by decide +kernel
-- run (I)I
set_option maxRecDepth 100000 in
theorem nb97_0 : mm_blk 97 0 = some [.iload 1, .ifCond .lt 11, .iload 1, .sipush (500), .if_icmp .le 21, .goto_w 11] := by decide +kernel
set_option maxRecDepth 100000 in
theorem nb97_11 : mm_blk 97 11 = some [.checkcast 0] := by decide +kernel
set_option maxRecDepth 100000 in
theorem nb97_21 : mm_blk 97 21 = some [.aload 0, .invokeinterface 0 5, .iload 1, .invokevirtual 98, .ireturn] := by decide +kernel
set_option maxRecDepth 100000 in
theorem nl97 : mm_ml 97 = 2 := by decide +kernel
set_option maxRecDepth 100000 in
theorem nn97 : mm_na 97 = 2 := by decide +kernel
set_option maxRecDepth 100000 in
theorem nc97 : mm_ci 97 = 0 := by decide +kernel
-- makeSteps (I)I
set_option maxRecDepth 100000 in
theorem nb98_0 : mm_blk 98 0 = some [.sipush (0), .istore 2, .goto_w 2] := by decide +kernel
set_option maxRecDepth 100000 in
theorem nb98_2 : mm_blk 98 2 = some [.iload 2, .iload 1, .if_icmp .ge 25, .aload 0, .invokeinterface 5 6, .sipush (1), .if_icmp .ne 25, .aload 0, .invokevirtual 99, .iinc 2 (1), .goto 2] := by decide +kernel
set_option maxRecDepth 100000 in
theorem nb98_25 : mm_blk 98 25 = some [.iload 2, .ireturn] := by decide +kernel
set_option maxRecDepth 100000 in
theorem nl98 : mm_ml 98 = 3 := by decide +kernel
set_option maxRecDepth 100000 in
theorem nn98 : mm_na 98 = 2 := by decide +kernel
set_option maxRecDepth 100000 in
theorem nc98 : mm_ci 98 = 5 := by decide +kernel
-- makeStep ()V
set_option maxRecDepth 100000 in
theorem nb99_0 : mm_blk 99 0 = some [.aload 0, .invokeinterface 5 0, .aload 0, .invokeinterface 5 7, .invokevirtual 16, .istore 1, .aload 0, .iload 1, .invokevirtual 100, .ifCond .eq 26, .aload 0, .sipush (3), .multianewarray 5 6, .return_] := by decide +kernel
set_option maxRecDepth 100000 in
theorem nb99_26 : mm_blk 99 26 = some [.aload 0, .dup, .invokeinterface 5 9, .sipush (1), .iadd, .multianewarray 5 9, .iload 1, .lookupswitch 336 #[(0, 108), (1, 139), (2, 178), (3, 178), (4, 178), (5, 178), (6, 178), (7, 196), (8, 216), (9, 252), (10, 269), (11, 287), (12, 322), (13, 329)]] := by decide +kernel
set_option maxRecDepth 100000 in
theorem nb99_108 : mm_blk 99 108 = some [.aload 0, .aload 0, .invokeinterface 5 0, .aload 0, .invokeinterface 5 7, .sipush (1), .iadd, .invokevirtual 94, .i2s, .invokevirtual 101, .aload 0, .dup, .invokeinterface 5 7, .sipush (3), .iadd, .multianewarray 5 7, .goto 341] := by decide +kernel
set_option maxRecDepth 100000 in
theorem nb99_139 : mm_blk 99 139 = some [.aload 0, .aload 0, .aload 0, .invokeinterface 5 8, .aload 0, .invokeinterface 5 0, .aload 0, .invokeinterface 5 7, .sipush (1), .iadd, .invokevirtual 16, .iadd, .invokevirtual 25, .invokevirtual 101, .aload 0, .dup, .invokeinterface 5 7, .sipush (2), .iadd, .multianewarray 5 7, .goto 341] := by decide +kernel
set_option maxRecDepth 100000 in
theorem nb99_178 : mm_blk 99 178 = some [.aload 0, .iload 1, .invokevirtual 102, .aload 0, .dup, .invokeinterface 5 7, .sipush (1), .iadd, .multianewarray 5 7, .goto 341] := by decide +kernel
set_option maxRecDepth 100000 in
theorem nb99_196 : mm_blk 99 196 = some [.aload 0, .aload 0, .invokeinterface 5 0, .aload 0, .invokeinterface 5 7, .sipush (1), .iadd, .invokevirtual 94, .multianewarray 5 7, .goto 341] := by decide +kernel
set_option maxRecDepth 100000 in
theorem nb99_216 : mm_blk 99 216 = some [.aload 0, .aload 0, .invokevirtual 103, .ifCond .ne 240, .aload 0, .invokeinterface 5 0, .aload 0, .invokeinterface 5 7, .sipush (1), .iadd, .invokevirtual 94, .goto 246] := by decide +kernel
set_option maxRecDepth 100000 in
theorem nb99_240 : mm_blk 99 240 = some [.aload 0, .invokeinterface 5 7, .sipush (3), .iadd, .goto_w 246] := by decide +kernel
set_option maxRecDepth 100000 in
theorem nb99_246 : mm_blk 99 246 = some [.multianewarray 5 7, .goto 341] := by decide +kernel
set_option maxRecDepth 100000 in
theorem nb99_252 : mm_blk 99 252 = some [.aload 0, .invokevirtual 104, .aload 0, .dup, .invokeinterface 5 7, .sipush (1), .iadd, .multianewarray 5 7, .goto 341] := by decide +kernel
set_option maxRecDepth 100000 in
theorem nb99_269 : mm_blk 99 269 = some [.aload 0, .invokevirtual 103, .pop, .aload 0, .dup, .invokeinterface 5 7, .sipush (1), .iadd, .multianewarray 5 7, .goto 341] := by decide +kernel
set_option maxRecDepth 100000 in
theorem nb99_287 : mm_blk 99 287 = some [.aload 0, .aload 0, .invokeinterface 5 8, .aload 0, .invokeinterface 5 0, .aload 0, .invokeinterface 5 7, .sipush (1), .iadd, .invokevirtual 16, .iadd, .invokevirtual 105, .aload 0, .dup, .invokeinterface 5 7, .sipush (2), .iadd, .multianewarray 5 7, .goto 341] := by decide +kernel
set_option maxRecDepth 100000 in
theorem nb99_322 : mm_blk 99 322 = some [.aload 0, .invokevirtual 106, .goto 341] := by decide +kernel
set_option maxRecDepth 100000 in
theorem nb99_329 : mm_blk 99 329 = some [.aload 0, .invokevirtual 107, .goto 341] := by decide +kernel
set_option maxRecDepth 100000 in
theorem nb99_336 : mm_blk 99 336 = some [.aload 0, .sipush (2), .multianewarray 5 6, .goto_w 341] := by decide +kernel
set_option maxRecDepth 100000 in
theorem nb99_341 : mm_blk 99 341 = some [.return_] := by decide +kernel
set_option maxRecDepth 100000 in
theorem nl99 : mm_ml 99 = 2 := by decide +kernel
set_option maxRecDepth 100000 in
theorem nn99 : mm_na 99 = 1 := by decide +kernel
set_option maxRecDepth 100000 in
theorem nc99 : mm_ci 99 = 5 := by decide +kernel
-- hasNoRoomFor (I)Z
set_option maxRecDepth 100000 in
theorem nb100_0 : mm_blk 100 0 = some [.iload 1, .lookupswitch 66 #[(0, 36), (1, 36), (12, 51)]] := by decide +kernel
set_option maxRecDepth 100000 in
theorem nb100_36 : mm_blk 100 36 = some [.aload 0, .invokeinterface 5 2, .sipush (120), .if_icmp .lt 49, .sipush (1), .goto 50] := by decide +kernel
set_option maxRecDepth 100000 in
theorem nb100_49 : mm_blk 100 49 = some [.sipush (0), .goto_w 50] := by decide +kernel
set_option maxRecDepth 100000 in
theorem nb100_50 : mm_blk 100 50 = some [.freturn] := by decide +kernel
set_option maxRecDepth 100000 in
theorem nb100_51 : mm_blk 100 51 = some [.aload 0, .invokeinterface 5 5, .sipush (24), .if_icmp .lt 64, .sipush (1), .goto 65] := by decide +kernel
set_option maxRecDepth 100000 in
theorem nb100_64 : mm_blk 100 64 = some [.sipush (0), .goto_w 65] := by decide +kernel
set_option maxRecDepth 100000 in
theorem nb100_65 : mm_blk 100 65 = some [.freturn] := by decide +kernel
set_option maxRecDepth 100000 in
theorem nb100_66 : mm_blk 100 66 = some [.sipush (0), .freturn] := by decide +kernel
set_option maxRecDepth 100000 in
theorem nl100 : mm_ml 100 = 2 := by decide +kernel
set_option maxRecDepth 100000 in
theorem nn100 : mm_na 100 = 2 := by decide +kernel
set_option maxRecDepth 100000 in
theorem nc100 : mm_ci 100 = 5 := by decide +kernel
-- put (I)V
set_option maxRecDepth 100000 in
theorem nb101_0 : mm_blk 101 0 = some [.aload 0, .invokeinterface 5 2, .ifCond .lt 36, .aload 0, .invokeinterface 5 2, .sipush (120), .if_icmp .ge 36, .aload 0, .invokeinterface 5 1, .aload 0, .invokeinterface 5 2, .iload 1, .iastore, .aload 0, .dup, .invokeinterface 5 2, .sipush (1), .iadd, .multianewarray 5 2, .goto_w 36] := by decide +kernel
set_option maxRecDepth 100000 in
theorem nb101_36 : mm_blk 101 36 = some [.return_] := by decide +kernel
set_option maxRecDepth 100000 in
theorem nl101 : mm_ml 101 = 2 := by decide +kernel
set_option maxRecDepth 100000 in
theorem nn101 : mm_na 101 = 2 := by decide +kernel
set_option maxRecDepth 100000 in
theorem nc101 : mm_ci 101 = 5 := by decide +kernel
-- joinTwo (I)V
set_option maxRecDepth 100000 in
theorem nb102_0 : mm_blk 102 0 = some [.aload 0, .invokevirtual 103, .istore 2, .aload 0, .invokevirtual 103, .istore 3, .iload 1, .lookupswitch 87 #[(2, 40), (3, 50), (4, 60), (5, 70)]] := by decide +kernel
set_option maxRecDepth 100000 in
theorem nb102_40 : mm_blk 102 40 = some [.aload 0, .iload 3, .iload 2, .iadd, .invokevirtual 101, .goto 101] := by decide +kernel
set_option maxRecDepth 100000 in
theorem nb102_50 : mm_blk 102 50 = some [.aload 0, .iload 3, .iload 2, .isub, .invokevirtual 101, .goto 101] := by decide +kernel
set_option maxRecDepth 100000 in
theorem nb102_60 : mm_blk 102 60 = some [.aload 0, .iload 3, .iload 2, .imul, .invokevirtual 101, .goto 101] := by decide +kernel
set_option maxRecDepth 100000 in
theorem nb102_70 : mm_blk 102 70 = some [.aload 0, .iload 3, .iload 2, .if_icmp .ge 80, .sipush (1), .goto 81] := by decide +kernel
set_option maxRecDepth 100000 in
theorem nb102_80 : mm_blk 102 80 = some [.sipush (0), .goto_w 81] := by decide +kernel
set_option maxRecDepth 100000 in
theorem nb102_81 : mm_blk 102 81 = some [.invokevirtual 101, .goto 101] := by decide +kernel
set_option maxRecDepth 100000 in
theorem nb102_87 : mm_blk 102 87 = some [.aload 0, .iload 3, .iload 2, .if_icmp .ne 97, .sipush (1), .goto 98] := by decide +kernel
set_option maxRecDepth 100000 in
theorem nb102_97 : mm_blk 102 97 = some [.sipush (0), .goto_w 98] := by decide +kernel
set_option maxRecDepth 100000 in
theorem nb102_98 : mm_blk 102 98 = some [.invokevirtual 101, .goto_w 101] := by decide +kernel
set_option maxRecDepth 100000 in
theorem nb102_101 : mm_blk 102 101 = some [.return_] := by decide +kernel
set_option maxRecDepth 100000 in
theorem nl102 : mm_ml 102 = 4 := by decide +kernel
set_option maxRecDepth 100000 in
theorem nn102 : mm_na 102 = 2 := by decide +kernel
set_option maxRecDepth 100000 in
theorem nc102 : mm_ci 102 = 5 := by decide +kernel
-- takeOff ()I
set_option maxRecDepth 100000 in
theorem nb103_0 : mm_blk 103 0 = some [.aload 0, .aload 0, .invokeinterface 5 2, .sipush (1), .isub, .invokevirtual 25, .istore 1, .aload 0, .aload 0, .invokeinterface 5 2, .sipush (1), .isub, .sipush (0), .fadd, .multianewarray 5 2, .iload 1, .ireturn] := by decide +kernel
set_option maxRecDepth 100000 in
theorem nl103 : mm_ml 103 = 2 := by decide +kernel
set_option maxRecDepth 100000 in
theorem nn103 : mm_na 103 = 1 := by decide +kernel
set_option maxRecDepth 100000 in
theorem nc103 : mm_ci 103 = 5 := by decide +kernel
-- takeOutBelow ()V
set_option maxRecDepth 100000 in
theorem nb104_0 : mm_blk 104 0 = some [.aload 0, .invokevirtual 103, .istore 1, .aload 0, .invokevirtual 103, .pop, .aload 0, .iload 1, .invokevirtual 101, .return_] := by decide +kernel
set_option maxRecDepth 100000 in
theorem nl104 : mm_ml 104 = 2 := by decide +kernel
set_option maxRecDepth 100000 in
theorem nn104 : mm_na 104 = 1 := by decide +kernel
set_option maxRecDepth 100000 in
theorem nc104 : mm_ci 104 = 5 := by decide +kernel
-- store (I)V
set_option maxRecDepth 100000 in
theorem nb105_0 : mm_blk 105 0 = some [.iload 1, .ifCond .lt 34, .iload 1, .aload 0, .invokeinterface 5 2, .if_icmp .ge 34, .iload 1, .sipush (120), .if_icmp .ge 34, .aload 0, .invokeinterface 5 1, .iload 1, .aload 0, .aload 0, .invokeinterface 5 2, .sipush (1), .isub, .invokevirtual 25, .iastore, .goto_w 34] := by decide +kernel
set_option maxRecDepth 100000 in
theorem nb105_34 : mm_blk 105 34 = some [.return_] := by decide +kernel
set_option maxRecDepth 100000 in
theorem nl105 : mm_ml 105 = 2 := by decide +kernel
set_option maxRecDepth 100000 in
theorem nn105 : mm_na 105 = 2 := by decide +kernel
set_option maxRecDepth 100000 in
theorem nc105 : mm_ci 105 = 5 := by decide +kernel
-- enter ()V
set_option maxRecDepth 100000 in
theorem nb106_0 : mm_blk 106 0 = some [.aload 0, .invokeinterface 5 5, .ifCond .lt 97, .aload 0, .invokeinterface 5 5, .sipush (24), .if_icmp .ge 97, .aload 0, .invokeinterface 5 3, .aload 0, .invokeinterface 5 5, .aload 0, .invokeinterface 5 8, .iastore, .aload 0, .invokeinterface 5 4, .aload 0, .invokeinterface 5 5, .aload 0, .invokeinterface 5 7, .sipush (4), .iadd, .iastore, .aload 0, .dup, .invokeinterface 5 5, .sipush (1), .iadd, .multianewarray 5 5, .aload 0, .aload 0, .invokeinterface 5 2, .aload 0, .invokeinterface 5 0, .aload 0, .invokeinterface 5 7, .sipush (3), .iadd, .invokevirtual 16, .isub, .sipush (0), .fadd, .multianewarray 5 8, .aload 0, .aload 0, .invokeinterface 5 0, .aload 0, .invokeinterface 5 7, .sipush (1), .iadd, .invokevirtual 94, .multianewarray 5 7, .goto_w 97] := by decide +kernel
set_option maxRecDepth 100000 in
theorem nb106_97 : mm_blk 106 97 = some [.return_] := by decide +kernel
set_option maxRecDepth 100000 in
theorem nl106 : mm_ml 106 = 1 := by decide +kernel
set_option maxRecDepth 100000 in
theorem nn106 : mm_na 106 = 1 := by decide +kernel
set_option maxRecDepth 100000 in
theorem nc106 : mm_ci 106 = 5 := by decide +kernel
-- leave ()V
set_option maxRecDepth 100000 in
theorem nb107_0 : mm_blk 107 0 = some [.aload 0, .invokeinterface 5 5, .ifCond .le 70, .aload 0, .invokeinterface 5 5, .sipush (24), .if_icmp .gt 70, .aload 0, .invokevirtual 103, .istore 1, .aload 0, .aload 0, .invokeinterface 5 8, .multianewarray 5 2, .aload 0, .iload 1, .invokevirtual 101, .aload 0, .dup, .invokeinterface 5 5, .sipush (1), .isub, .multianewarray 5 5, .aload 0, .aload 0, .invokeinterface 5 3, .aload 0, .invokeinterface 5 5, .iaload, .multianewarray 5 8, .aload 0, .aload 0, .invokeinterface 5 4, .aload 0, .invokeinterface 5 5, .iaload, .multianewarray 5 7, .goto_w 70] := by decide +kernel
set_option maxRecDepth 100000 in
theorem nb107_70 : mm_blk 107 70 = some [.return_] := by decide +kernel
set_option maxRecDepth 100000 in
theorem nl107 : mm_ml 107 = 2 := by decide +kernel
set_option maxRecDepth 100000 in
theorem nn107 : mm_na 107 = 1 := by decide +kernel
set_option maxRecDepth 100000 in
theorem nc107 : mm_ci 107 = 5 := by decide +kernel
