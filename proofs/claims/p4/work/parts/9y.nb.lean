-- <init> ()V
set_option maxRecDepth 100000 in
theorem nb0_0 : mm_blk 0 0 = some [.aload 0, .invokespecial 0, .aload 0, .new 1, .dup, .sipush (120), .invokevirtual 1, .multianewarray 0 0, .aload 0, .new 6, .dup, .invokevirtual 3, .multianewarray 0 1, .aload 0, .new 8, .dup, .invokevirtual 4, .multianewarray 0 2, .aload 0, .new 2, .dup, .aload 0, .invokeinterface 0 2, .invokevirtual 5, .multianewarray 0 3, .aload 0, .new 4, .dup, .aload 0, .invokeinterface 0 2, .invokevirtual 6, .multianewarray 0 4, .aload 0, .new 5, .dup, .invokevirtual 7, .multianewarray 0 5, .aload 0, .sipush (-1), .multianewarray 0 6, .aload 0, .sipush (0), .multianewarray 0 7, .return_] := by decide +kernel
set_option maxRecDepth 100000 in
theorem nl0 : mm_ml 0 = 1 := by decide +kernel
set_option maxRecDepth 100000 in
theorem nn0 : mm_na 0 = 1 := by decide +kernel
set_option maxRecDepth 100000 in
theorem nc0 : mm_ci 0 = 0 := by decide +kernel
-- <init> (I)V
set_option maxRecDepth 100000 in
theorem nb1_0 : mm_blk 1 0 = some [.aload 0, .invokespecial 0, .aload 0, .iload 1, .sipush (0), .fadd, .newarray .int, .multianewarray 1 0, .return_] := by decide +kernel
set_option maxRecDepth 100000 in
theorem nl1 : mm_ml 1 = 2 := by decide +kernel
set_option maxRecDepth 100000 in
theorem nn1 : mm_na 1 = 2 := by decide +kernel
set_option maxRecDepth 100000 in
theorem nc1 : mm_ci 1 = 1 := by decide +kernel
-- <init> ()V
set_option maxRecDepth 100000 in
theorem nb3_0 : mm_blk 3 0 = some [.aload 0, .invokespecial 0, .aload 0, .sipush (8), .anewarray 0, .multianewarray 6 0, .return_] := by decide +kernel
set_option maxRecDepth 100000 in
theorem nl3 : mm_ml 3 = 1 := by decide +kernel
set_option maxRecDepth 100000 in
theorem nn3 : mm_na 3 = 1 := by decide +kernel
set_option maxRecDepth 100000 in
theorem nc3 : mm_ci 3 = 6 := by decide +kernel
-- <init> ()V
set_option maxRecDepth 100000 in
theorem nb4_0 : mm_blk 4 0 = some [.aload 0, .invokespecial 0, .aload 0, .sipush (16), .anewarray 1, .multianewarray 8 0, .return_] := by decide +kernel
set_option maxRecDepth 100000 in
theorem nl4 : mm_ml 4 = 1 := by decide +kernel
set_option maxRecDepth 100000 in
theorem nn4 : mm_na 4 = 1 := by decide +kernel
set_option maxRecDepth 100000 in
theorem nc4 : mm_ci 4 = 8 := by decide +kernel
-- <init> (LLispForge$Shelf;)V
set_option maxRecDepth 100000 in
theorem nb5_0 : mm_blk 5 0 = some [.aload 0, .invokespecial 0, .aload 0, .new 1, .dup, .sipush (200), .invokevirtual 1, .multianewarray 2 1, .aload 0, .new 1, .dup, .sipush (560), .invokevirtual 1, .multianewarray 2 2, .aload 0, .sipush (50), .newarray .int, .multianewarray 2 3, .aload 0, .sipush (50), .newarray .int, .multianewarray 2 4, .aload 0, .sipush (104), .newarray .int, .multianewarray 2 6, .aload 0, .sipush (104), .newarray .int, .multianewarray 2 7, .aload 0, .aload 1, .multianewarray 2 0, .return_] := by decide +kernel
set_option maxRecDepth 100000 in
theorem nl5 : mm_ml 5 = 2 := by decide +kernel
set_option maxRecDepth 100000 in
theorem nn5 : mm_na 5 = 2 := by decide +kernel
set_option maxRecDepth 100000 in
theorem nc5 : mm_ci 5 = 2 := by decide +kernel
-- <init> (LLispForge$Shelf;)V
set_option maxRecDepth 100000 in
theorem nb6_0 : mm_blk 6 0 = some [.aload 0, .invokespecial 0, .aload 0, .sipush (16), .anewarray 1, .multianewarray 4 1, .aload 0, .sipush (16), .newarray .int, .multianewarray 4 2, .aload 0, .aload 1, .multianewarray 4 0, .return_] := by decide +kernel
set_option maxRecDepth 100000 in
theorem nl6 : mm_ml 6 = 2 := by decide +kernel
set_option maxRecDepth 100000 in
theorem nn6 : mm_na 6 = 2 := by decide +kernel
set_option maxRecDepth 100000 in
theorem nc6 : mm_ci 6 = 4 := by decide +kernel
-- <init> ()V
set_option maxRecDepth 100000 in
theorem nb7_0 : mm_blk 7 0 = some [.aload 0, .invokespecial 0, .aload 0, .new 1, .dup, .sipush (600), .invokevirtual 1, .multianewarray 5 0, .aload 0, .sipush (120), .newarray .int, .multianewarray 5 1, .aload 0, .sipush (24), .newarray .int, .multianewarray 5 3, .aload 0, .sipush (24), .newarray .int, .multianewarray 5 4, .aload 0, .sipush (0), .multianewarray 5 6, .return_] := by decide +kernel
set_option maxRecDepth 100000 in
theorem nl7 : mm_ml 7 = 1 := by decide +kernel
set_option maxRecDepth 100000 in
theorem nn7 : mm_na 7 = 1 := by decide +kernel
set_option maxRecDepth 100000 in
theorem nc7 : mm_ci 7 = 5 := by decide +kernel
-- write (J)Z
set_option maxRecDepth 100000 in
theorem nb8_0 : mm_blk 8 0 = some [.sipush (0), .istore 3, .sipush (56), .istore 4, .goto_w 6] := by decide +kernel
set_option maxRecDepth 100000 in
theorem nb8_6 : mm_blk 8 6 = some [.iload 4, .ifCond .lt 49, .lload 1, .iload 4, .invokestatic 9, .istore 5, .iload 5, .ifCond .eq 43, .iload 5, .sipush (32), .if_icmp .lt 38, .iload 5, .sipush (126), .if_icmp .le 40, .goto_w 38] := by decide +kernel
set_option maxRecDepth 100000 in
theorem nb8_38 : mm_blk 8 38 = some [.sipush (0), .freturn] := by decide +kernel
set_option maxRecDepth 100000 in
theorem nb8_40 : mm_blk 8 40 = some [.iinc 3 (1), .goto_w 43] := by decide +kernel
set_option maxRecDepth 100000 in
theorem nb8_43 : mm_blk 8 43 = some [.iinc 4 (-8), .goto 6] := by decide +kernel
set_option maxRecDepth 100000 in
theorem nb8_49 : mm_blk 8 49 = some [.iload 3, .aload 0, .invokeinterface 0 0, .invokevirtual 10, .if_icmp .le 62, .sipush (0), .freturn] := by decide +kernel
set_option maxRecDepth 100000 in
theorem nb8_62 : mm_blk 8 62 = some [.sipush (56), .istore 4, .goto_w 66] := by decide +kernel
set_option maxRecDepth 100000 in
theorem nb8_66 : mm_blk 8 66 = some [.iload 4, .ifCond .lt 99, .lload 1, .iload 4, .invokestatic 9, .istore 5, .iload 5, .ifCond .eq 93, .aload 0, .invokeinterface 0 0, .iload 5, .invokevirtual 11, .goto_w 93] := by decide +kernel
set_option maxRecDepth 100000 in
theorem nb8_93 : mm_blk 8 93 = some [.iinc 4 (-8), .goto 66] := by decide +kernel
set_option maxRecDepth 100000 in
theorem nb8_99 : mm_blk 8 99 = some [.sipush (1), .freturn] := by decide +kernel
set_option maxRecDepth 100000 in
theorem nl8 : mm_ml 8 = 6 := by decide +kernel
set_option maxRecDepth 100000 in
theorem nn8 : mm_na 8 = 2 := by decide +kernel
set_option maxRecDepth 100000 in
theorem nc8 : mm_ci 8 = 0 := by decide +kernel
-- characterAt (JI)I
set_option maxRecDepth 100000 in
theorem nb9_0 : mm_blk 9 0 = some [.lload 0, .iload 2, .lushr, .l2i, .sipush (255), .iand, .ireturn] := by decide +kernel
set_option maxRecDepth 100000 in
theorem nl9 : mm_ml 9 = 3 := by decide +kernel
set_option maxRecDepth 100000 in
theorem nn9 : mm_na 9 = 2 := by decide +kernel
set_option maxRecDepth 100000 in
theorem nc9 : mm_ci 9 = 0 := by decide +kernel
-- room ()I
set_option maxRecDepth 100000 in
theorem nb10_0 : mm_blk 10 0 = some [.aload 0, .invokeinterface 1 0, .arraylength, .aload 0, .invokeinterface 1 1, .isub, .ireturn] := by decide +kernel
set_option maxRecDepth 100000 in
theorem nl10 : mm_ml 10 = 1 := by decide +kernel
set_option maxRecDepth 100000 in
theorem nn10 : mm_na 10 = 1 := by decide +kernel
set_option maxRecDepth 100000 in
theorem nc10 : mm_ci 10 = 1 := by decide +kernel
-- put (I)V
set_option maxRecDepth 100000 in
theorem nb11_0 : mm_blk 11 0 = some [.aload 0, .invokeinterface 1 1, .aload 0, .invokeinterface 1 0, .arraylength, .if_icmp .ge 36, .aload 0, .invokeinterface 1 0, .aload 0, .invokeinterface 1 1, .iload 1, .sipush (255), .iand, .iastore, .aload 0, .dup, .invokeinterface 1 1, .sipush (1), .iadd, .multianewarray 1 1, .goto_w 36] := by decide +kernel
set_option maxRecDepth 100000 in
theorem nb11_36 : mm_blk 11 36 = some [.return_] := by decide +kernel
set_option maxRecDepth 100000 in
theorem nl11 : mm_ml 11 = 2 := by decide +kernel
set_option maxRecDepth 100000 in
theorem nn11 : mm_na 11 = 2 := by decide +kernel
set_option maxRecDepth 100000 in
theorem nc11 : mm_ci 11 = 1 := by decide +kernel
-- position ()I
set_option maxRecDepth 100000 in
theorem nb12_0 : mm_blk 12 0 = some [.aload 0, .invokeinterface 0 6, .ireturn] := by decide +kernel
set_option maxRecDepth 100000 in
theorem nl12 : mm_ml 12 = 1 := by decide +kernel
set_option maxRecDepth 100000 in
theorem nn12 : mm_na 12 = 1 := by decide +kernel
set_option maxRecDepth 100000 in
theorem nc12 : mm_ci 12 = 0 := by decide +kernel
-- object (II)I
set_option maxRecDepth 100000 in
theorem nb13_0 : mm_blk 13 0 = some [.aload 0, .invokeinterface 0 2, .iload 1, .invokevirtual 14, .astore 3, .aload 3, .ifnull 21, .aload 3, .invokeinterface 9 0, .sipush (2), .if_icmp .ne 25, .goto_w 21] := by decide +kernel
set_option maxRecDepth 100000 in
theorem nb13_21 : mm_blk 13 21 = some [.sipush (-1), .goto 33] := by decide +kernel
set_option maxRecDepth 100000 in
theorem nb13_25 : mm_blk 13 25 = some [.aload 3, .invokeinterface 9 5, .iload 2, .invokevirtual 15, .goto_w 33] := by decide +kernel
set_option maxRecDepth 100000 in
theorem nb13_33 : mm_blk 13 33 = some [.ireturn] := by decide +kernel
set_option maxRecDepth 100000 in
theorem nl13 : mm_ml 13 = 4 := by decide +kernel
set_option maxRecDepth 100000 in
theorem nn13 : mm_na 13 = 3 := by decide +kernel
set_option maxRecDepth 100000 in
theorem nc13 : mm_ci 13 = 0 := by decide +kernel
-- unit (I)LLispForge$Unit;
set_option maxRecDepth 100000 in
theorem nb14_0 : mm_blk 14 0 = some [.iload 1, .ifCond .lt 21, .iload 1, .aload 0, .invokeinterface 8 1, .if_icmp .ge 21, .aload 0, .invokeinterface 8 0, .iload 1, .aaload, .goto 22] := by decide +kernel
set_option maxRecDepth 100000 in
theorem nb14_21 : mm_blk 14 21 = some [.aconst_null, .goto_w 22] := by decide +kernel
set_option maxRecDepth 100000 in
theorem nb14_22 : mm_blk 14 22 = some [.areturn] := by decide +kernel
set_option maxRecDepth 100000 in
theorem nl14 : mm_ml 14 = 2 := by decide +kernel
set_option maxRecDepth 100000 in
theorem nn14 : mm_na 14 = 2 := by decide +kernel
set_option maxRecDepth 100000 in
theorem nc14 : mm_ci 14 = 8 := by decide +kernel
-- lengthOrByte (I)I
set_option maxRecDepth 100000 in
theorem nb15_0 : mm_blk 15 0 = some [.iload 1, .sipush (-1), .if_icmp .ne 12, .aload 0, .invokeinterface 1 1, .goto 17] := by decide +kernel
set_option maxRecDepth 100000 in
theorem nb15_12 : mm_blk 15 12 = some [.aload 0, .iload 1, .invokevirtual 16, .goto_w 17] := by decide +kernel
set_option maxRecDepth 100000 in
theorem nb15_17 : mm_blk 15 17 = some [.ireturn] := by decide +kernel
set_option maxRecDepth 100000 in
theorem nl15 : mm_ml 15 = 2 := by decide +kernel
set_option maxRecDepth 100000 in
theorem nn15 : mm_na 15 = 2 := by decide +kernel
set_option maxRecDepth 100000 in
theorem nc15 : mm_ci 15 = 1 := by decide +kernel
-- at (I)I
set_option maxRecDepth 100000 in
theorem nb16_0 : mm_blk 16 0 = some [.iload 1, .ifCond .lt 21, .iload 1, .aload 0, .invokeinterface 1 1, .if_icmp .ge 21, .aload 0, .invokeinterface 1 0, .iload 1, .iaload, .goto 22] := by decide +kernel
set_option maxRecDepth 100000 in
theorem nb16_21 : mm_blk 16 21 = some [.sipush (-1), .goto_w 22] := by decide +kernel
set_option maxRecDepth 100000 in
theorem nb16_22 : mm_blk 16 22 = some [.ireturn] := by decide +kernel
set_option maxRecDepth 100000 in
theorem nl16 : mm_ml 16 = 2 := by decide +kernel
set_option maxRecDepth 100000 in
theorem nn16 : mm_na 16 = 2 := by decide +kernel
set_option maxRecDepth 100000 in
theorem nc16 : mm_ci 16 = 1 := by decide +kernel
-- clear ()V
set_option maxRecDepth 100000 in
theorem nb17_0 : mm_blk 17 0 = some [.aload 0, .invokeinterface 0 2, .invokevirtual 18, .return_] := by decide +kernel
set_option maxRecDepth 100000 in
theorem nl17 : mm_ml 17 = 1 := by decide +kernel
set_option maxRecDepth 100000 in
theorem nn17 : mm_na 17 = 1 := by decide +kernel
set_option maxRecDepth 100000 in
theorem nc17 : mm_ci 17 = 0 := by decide +kernel
-- empty ()V
set_option maxRecDepth 100000 in
theorem nb18_0 : mm_blk 18 0 = some [.aload 0, .sipush (0), .multianewarray 8 1, .return_] := by decide +kernel
set_option maxRecDepth 100000 in
theorem nl18 : mm_ml 18 = 1 := by decide +kernel
set_option maxRecDepth 100000 in
theorem nn18 : mm_na 18 = 1 := by decide +kernel
set_option maxRecDepth 100000 in
theorem nc18 : mm_ci 18 = 8 := by decide +kernel
-- failure ()I
set_option maxRecDepth 100000 in
theorem nb19_0 : mm_blk 19 0 = some [.aload 0, .invokeinterface 0 7, .ireturn] := by decide +kernel
set_option maxRecDepth 100000 in
theorem nl19 : mm_ml 19 = 1 := by decide +kernel
set_option maxRecDepth 100000 in
theorem nn19 : mm_na 19 = 1 := by decide +kernel
set_option maxRecDepth 100000 in
theorem nc19 : mm_ci 19 = 0 := by decide +kernel
-- image (I)I
set_option maxRecDepth 100000 in
theorem nb20_0 : mm_blk 20 0 = some [.aload 0, .invokeinterface 0 5, .invokeinterface 5 0, .iload 1, .invokevirtual 15, .ireturn] := by decide +kernel
set_option maxRecDepth 100000 in
theorem nl20 : mm_ml 20 = 2 := by decide +kernel
set_option maxRecDepth 100000 in
theorem nn20 : mm_na 20 = 2 := by decide +kernel
set_option maxRecDepth 100000 in
theorem nc20 : mm_ci 20 = 0 := by decide +kernel
-- restart ()Z
set_option maxRecDepth 100000 in
theorem nb21_0 : mm_blk 21 0 = some [.aload 0, .invokeinterface 0 5, .invokeinterface 5 6, .ifCond .ne 12, .sipush (0), .freturn] := by decide +kernel
set_option maxRecDepth 100000 in
theorem nb21_12 : mm_blk 21 12 = some [.aload 0, .invokeinterface 0 5, .invokevirtual 22, .sipush (1), .freturn] := by decide +kernel
set_option maxRecDepth 100000 in
theorem nl21 : mm_ml 21 = 1 := by decide +kernel
set_option maxRecDepth 100000 in
theorem nn21 : mm_na 21 = 1 := by decide +kernel
set_option maxRecDepth 100000 in
theorem nc21 : mm_ci 21 = 0 := by decide +kernel
-- begin ()V
set_option maxRecDepth 100000 in
theorem nb22_0 : mm_blk 22 0 = some [.aload 0, .sipush (1), .multianewarray 5 6, .aload 0, .sipush (0), .multianewarray 5 2, .aload 0, .sipush (0), .multianewarray 5 5, .aload 0, .sipush (0), .multianewarray 5 7, .aload 0, .sipush (0), .multianewarray 5 8, .aload 0, .sipush (0), .multianewarray 5 9, .return_] := by decide +kernel
set_option maxRecDepth 100000 in
theorem nl22 : mm_ml 22 = 1 := by decide +kernel
set_option maxRecDepth 100000 in
theorem nn22 : mm_na 22 = 1 := by decide +kernel
set_option maxRecDepth 100000 in
theorem nc22 : mm_ci 22 = 5 := by decide +kernel
-- about (I)I
set_option maxRecDepth 100000 in
theorem nb23_0 : mm_blk 23 0 = some [.iload 1, .lookupswitch 88 #[(0, 40), (1, 48), (2, 56), (3, 64), (4, 72), (5, 80)]] := by decide +kernel
set_option maxRecDepth 100000 in
theorem nb23_40 : mm_blk 23 40 = some [.aload 0, .invokeinterface 0 5, .invokeinterface 5 6, .ireturn] := by decide +kernel
set_option maxRecDepth 100000 in
theorem nb23_48 : mm_blk 23 48 = some [.aload 0, .invokeinterface 0 5, .invokeinterface 5 7, .ireturn] := by decide +kernel
set_option maxRecDepth 100000 in
theorem nb23_56 : mm_blk 23 56 = some [.aload 0, .invokeinterface 0 5, .invokeinterface 5 8, .ireturn] := by decide +kernel
set_option maxRecDepth 100000 in
theorem nb23_64 : mm_blk 23 64 = some [.aload 0, .invokeinterface 0 5, .invokeinterface 5 2, .ireturn] := by decide +kernel
set_option maxRecDepth 100000 in
theorem nb23_72 : mm_blk 23 72 = some [.aload 0, .invokeinterface 0 5, .invokeinterface 5 5, .ireturn] := by decide +kernel
set_option maxRecDepth 100000 in
theorem nb23_80 : mm_blk 23 80 = some [.aload 0, .invokeinterface 0 5, .invokeinterface 5 9, .ireturn] := by decide +kernel
set_option maxRecDepth 100000 in
theorem nb23_88 : mm_blk 23 88 = some [.sipush (-1), .ireturn] := by decide +kernel
set_option maxRecDepth 100000 in
theorem nl23 : mm_ml 23 = 2 := by decide +kernel
set_option maxRecDepth 100000 in
theorem nn23 : mm_na 23 = 2 := by decide +kernel
set_option maxRecDepth 100000 in
theorem nc23 : mm_ci 23 = 0 := by decide +kernel
-- stack (I)I
set_option maxRecDepth 100000 in
theorem nb24_0 : mm_blk 24 0 = some [.aload 0, .invokeinterface 0 5, .iload 1, .invokevirtual 25, .ireturn] := by decide +kernel
set_option maxRecDepth 100000 in
theorem nl24 : mm_ml 24 = 2 := by decide +kernel
set_option maxRecDepth 100000 in
theorem nn24 : mm_na 24 = 2 := by decide +kernel
set_option maxRecDepth 100000 in
theorem nc24 : mm_ci 24 = 0 := by decide +kernel
-- numberAt (I)I
set_option maxRecDepth 100000 in
theorem nb25_0 : mm_blk 25 0 = some [.iload 1, .ifCond .lt 27, .iload 1, .aload 0, .invokeinterface 5 2, .if_icmp .ge 27, .iload 1, .sipush (120), .if_icmp .ge 27, .aload 0, .invokeinterface 5 1, .iload 1, .iaload, .goto 28] := by decide +kernel
set_option maxRecDepth 100000 in
theorem nb25_27 : mm_blk 25 27 = some [.sipush (0), .goto_w 28] := by decide +kernel
set_option maxRecDepth 100000 in
theorem nb25_28 : mm_blk 25 28 = some [.ireturn] := by decide +kernel
set_option maxRecDepth 100000 in
theorem nl25 : mm_ml 25 = 2 := by decide +kernel
set_option maxRecDepth 100000 in
theorem nn25 : mm_na 25 = 2 := by decide +kernel
set_option maxRecDepth 100000 in
theorem nc25 : mm_ci 25 = 5 := by decide +kernel
-- top ()I
set_option maxRecDepth 100000 in
theorem nb26_0 : mm_blk 26 0 = some [.aload 0, .invokeinterface 0 5, .aload 0, .invokeinterface 0 5, .invokeinterface 5 2, .sipush (1), .isub, .invokevirtual 25, .ireturn] := by decide +kernel
set_option maxRecDepth 100000 in
theorem nl26 : mm_ml 26 = 1 := by decide +kernel
set_option maxRecDepth 100000 in
theorem nn26 : mm_na 26 = 1 := by decide +kernel
set_option maxRecDepth 100000 in
theorem nc26 : mm_ci 26 = 0 := by decide +kernel
-- compile ()I
set_option maxRecDepth 100000 in
theorem nb27_0 : mm_blk 27 0 = some [.aload 0, .invokeinterface 0 1, .aload 0, .invokeinterface 0 0, .invokevirtual 28, .astore 1, .aload 0, .invokeinterface 0 0, .invokevirtual 43, .aload 0, .aload 1, .ifnonnull 34, .aload 0, .invokeinterface 0 1, .invokeinterface 6 6, .goto 35] := by decide +kernel
set_option maxRecDepth 100000 in
theorem nb27_34 : mm_blk 27 34 = some [.sipush (-1), .goto_w 35] := by decide +kernel
set_option maxRecDepth 100000 in
theorem nb27_35 : mm_blk 27 35 = some [.multianewarray 0 6, .aload 1, .ifnonnull 52, .checkcast 0] := by decide +kernel
set_option maxRecDepth 100000 in
theorem nb27_52 : mm_blk 27 52 = some [.aload 0, .invokeinterface 0 3, .aload 1, .invokevirtual 44, .astore 2, .aload 2, .invokeinterface 9 0, .sipush (2), .if_icmp .eq 77, .aload 0, .invokeinterface 0 3, .aload 2, .invokevirtual 52, .goto_w 77] := by decide +kernel
set_option maxRecDepth 100000 in
theorem nb27_77 : mm_blk 27 77 = some [.aload 0, .invokeinterface 0 2, .invokevirtual 85, .ifCond .eq 97, .checkcast 2] := by decide +kernel
set_option maxRecDepth 100000 in
theorem nb27_97 : mm_blk 27 97 = some [.aload 0, .invokeinterface 0 2, .aload 2, .invokevirtual 86, .ireturn] := by decide +kernel
set_option maxRecDepth 100000 in
theorem nl27 : mm_ml 27 = 3 := by decide +kernel
set_option maxRecDepth 100000 in
theorem nn27 : mm_na 27 = 1 := by decide +kernel
set_option maxRecDepth 100000 in
theorem nc27 : mm_ci 27 = 0 := by decide +kernel
-- read (LLispForge$Bytes;)LLispForge$Form;
set_option maxRecDepth 100000 in
theorem nb28_0 : mm_blk 28 0 = some [.aload 0, .sipush (0), .multianewarray 6 1, .aload 0, .aconst_null, .multianewarray 6 2, .aload 0, .aconst_null, .multianewarray 6 3, .sipush (0), .istore 2, .goto_w 17] := by decide +kernel
set_option maxRecDepth 100000 in
theorem nb28_17 : mm_blk 28 17 = some [.iload 2, .aload 1, .invokeinterface 1 1, .if_icmp .ge 50, .aload 0, .aload 1, .iload 2, .invokevirtual 16, .invokevirtual 29, .ifCond .ne 44, .aload 0, .iload 2, .multianewarray 6 6, .aconst_null, .areturn] := by decide +kernel
set_option maxRecDepth 100000 in
theorem nb28_44 : mm_blk 28 44 = some [.iinc 2 (1), .goto 17] := by decide +kernel
set_option maxRecDepth 100000 in
theorem nb28_50 : mm_blk 28 50 = some [.aload 0, .aload 1, .invokeinterface 1 1, .multianewarray 6 6, .aload 0, .invokeinterface 6 1, .ifCond .ne 72, .aload 0, .invokeinterface 6 2, .goto 73] := by decide +kernel
set_option maxRecDepth 100000 in
theorem nb28_72 : mm_blk 28 72 = some [.aconst_null, .goto_w 73] := by decide +kernel
set_option maxRecDepth 100000 in
theorem nb28_73 : mm_blk 28 73 = some [.areturn] := by decide +kernel
set_option maxRecDepth 100000 in
theorem nl28 : mm_ml 28 = 3 := by decide +kernel
set_option maxRecDepth 100000 in
theorem nn28 : mm_na 28 = 2 := by decide +kernel
set_option maxRecDepth 100000 in
theorem nc28 : mm_ci 28 = 6 := by decide +kernel
-- takes (I)Z
set_option maxRecDepth 100000 in
theorem nb29_0 : mm_blk 29 0 = some [.aload 0, .iload 1, .invokevirtual 30, .ifCond .eq 10, .sipush (1), .freturn] := by decide +kernel
set_option maxRecDepth 100000 in
theorem nb29_10 : mm_blk 29 10 = some [.aload 0, .invokeinterface 6 3, .ifnull 21, .sipush (1), .goto 22] := by decide +kernel
set_option maxRecDepth 100000 in
theorem nb29_21 : mm_blk 29 21 = some [.sipush (0), .goto_w 22] := by decide +kernel
set_option maxRecDepth 100000 in
theorem nb29_22 : mm_blk 29 22 = some [.istore 2, .aload 0, .aconst_null, .multianewarray 6 3, .iload 1, .lookupswitch 76 #[(32, 64), (40, 66), (41, 71)]] := by decide +kernel
set_option maxRecDepth 100000 in
theorem nb29_64 : mm_blk 29 64 = some [.sipush (1), .freturn] := by decide +kernel
set_option maxRecDepth 100000 in
theorem nb29_66 : mm_blk 29 66 = some [.aload 0, .invokevirtual 36, .freturn] := by decide +kernel
set_option maxRecDepth 100000 in
theorem nb29_71 : mm_blk 29 71 = some [.aload 0, .invokevirtual 40, .freturn] := by decide +kernel
set_option maxRecDepth 100000 in
theorem nb29_76 : mm_blk 29 76 = some [.iload 2, .ifCond .ne 92, .aload 0, .iload 1, .invokevirtual 41, .ifCond .eq 92, .sipush (1), .goto 93] := by decide +kernel
set_option maxRecDepth 100000 in
theorem nb29_92 : mm_blk 29 92 = some [.sipush (0), .goto_w 93] := by decide +kernel
set_option maxRecDepth 100000 in
theorem nb29_93 : mm_blk 29 93 = some [.freturn] := by decide +kernel
set_option maxRecDepth 100000 in
theorem nl29 : mm_ml 29 = 3 := by decide +kernel
set_option maxRecDepth 100000 in
theorem nn29 : mm_na 29 = 2 := by decide +kernel
set_option maxRecDepth 100000 in
theorem nc29 : mm_ci 29 = 6 := by decide +kernel
-- lengthensAtom (I)Z
set_option maxRecDepth 100000 in
theorem nb30_0 : mm_blk 30 0 = some [.aload 0, .invokeinterface 6 3, .ifnonnull 9, .sipush (0), .freturn] := by decide +kernel
set_option maxRecDepth 100000 in
theorem nb30_9 : mm_blk 30 9 = some [.iload 1, .invokestatic 31, .ifCond .eq 25, .aload 0, .iload 1, .sipush (48), .isub, .invokevirtual 32, .freturn] := by decide +kernel
set_option maxRecDepth 100000 in
theorem nb30_25 : mm_blk 30 25 = some [.iload 1, .invokestatic 33, .ifCond .eq 50, .aload 0, .invokeinterface 6 3, .invokevirtual 34, .ifCond .eq 50, .aload 0, .invokeinterface 6 4, .sipush (4), .if_icmp .ne 52, .goto_w 50] := by decide +kernel
set_option maxRecDepth 100000 in
theorem nb30_50 : mm_blk 30 50 = some [.sipush (0), .freturn] := by decide +kernel
set_option maxRecDepth 100000 in
theorem nb30_52 : mm_blk 30 52 = some [.aload 0, .invokeinterface 6 3, .aload 0, .invokeinterface 6 3, .invokeinterface 3 1, .sipush (8), .ishl, .iload 1, .ior, .multianewarray 3 1, .aload 0, .dup, .invokeinterface 6 4, .sipush (1), .iadd, .multianewarray 6 4, .sipush (1), .freturn] := by decide +kernel
set_option maxRecDepth 100000 in
theorem nl30 : mm_ml 30 = 2 := by decide +kernel
set_option maxRecDepth 100000 in
theorem nn30 : mm_na 30 = 2 := by decide +kernel
set_option maxRecDepth 100000 in
theorem nc30 : mm_ci 30 = 6 := by decide +kernel
-- isDigit (I)Z
set_option maxRecDepth 100000 in
theorem nb31_0 : mm_blk 31 0 = some [.iload 0, .sipush (48), .if_icmp .lt 16, .iload 0, .sipush (57), .if_icmp .gt 16, .sipush (1), .goto 17] := by decide +kernel
set_option maxRecDepth 100000 in
theorem nb31_16 : mm_blk 31 16 = some [.sipush (0), .goto_w 17] := by decide +kernel
set_option maxRecDepth 100000 in
theorem nb31_17 : mm_blk 31 17 = some [.freturn] := by decide +kernel
set_option maxRecDepth 100000 in
theorem nl31 : mm_ml 31 = 1 := by decide +kernel
set_option maxRecDepth 100000 in
theorem nn31 : mm_na 31 = 1 := by decide +kernel
set_option maxRecDepth 100000 in
theorem nc31 : mm_ci 31 = 6 := by decide +kernel
-- addsDigit (I)Z
set_option maxRecDepth 100000 in
theorem nb32_0 : mm_blk 32 0 = some [.aload 0, .invokeinterface 6 3, .invokeinterface 3 0, .sipush (1), .if_icmp .ne 49, .aload 0, .invokeinterface 6 3, .invokeinterface 3 1, .sipush (45), .if_icmp .ne 49, .aload 0, .invokeinterface 6 3, .sipush (0), .multianewarray 3 0, .aload 0, .invokeinterface 6 3, .sipush (0), .multianewarray 3 1, .aload 0, .sipush (0), .multianewarray 6 4, .aload 0, .sipush (1), .multianewarray 6 5, .goto_w 49] := by decide +kernel
set_option maxRecDepth 100000 in
theorem nb32_49 : mm_blk 32 49 = some [.aload 0, .invokeinterface 6 3, .invokeinterface 3 0, .ifCond .ne 67, .aload 0, .invokeinterface 6 4, .sipush (4), .if_icmp .ne 69, .goto_w 67] := by decide +kernel
set_option maxRecDepth 100000 in
theorem nb32_67 : mm_blk 32 67 = some [.sipush (0), .freturn] := by decide +kernel
set_option maxRecDepth 100000 in
theorem nb32_69 : mm_blk 32 69 = some [.aload 0, .invokeinterface 6 3, .aload 0, .invokeinterface 6 3, .invokeinterface 3 1, .sipush (10), .imul, .aload 0, .invokeinterface 6 5, .ifCond .eq 95, .iload 1, .ineg, .goto 96] := by decide +kernel
set_option maxRecDepth 100000 in
theorem nb32_95 : mm_blk 32 95 = some [.iload 1, .goto_w 96] := by decide +kernel
set_option maxRecDepth 100000 in
theorem nb32_96 : mm_blk 32 96 = some [.iadd, .multianewarray 3 1, .aload 0, .dup, .invokeinterface 6 4, .sipush (1), .iadd, .multianewarray 6 4, .sipush (1), .freturn] := by decide +kernel
set_option maxRecDepth 100000 in
theorem nl32 : mm_ml 32 = 2 := by decide +kernel
set_option maxRecDepth 100000 in
theorem nn32 : mm_na 32 = 2 := by decide +kernel
set_option maxRecDepth 100000 in
theorem nc32 : mm_ci 32 = 6 := by decide +kernel
-- isLetter (I)Z
set_option maxRecDepth 100000 in
theorem nb33_0 : mm_blk 33 0 = some [.iload 0, .sipush (97), .if_icmp .lt 16, .iload 0, .sipush (122), .if_icmp .gt 16, .sipush (1), .goto 17] := by decide +kernel
set_option maxRecDepth 100000 in
theorem nb33_16 : mm_blk 33 16 = some [.sipush (0), .goto_w 17] := by decide +kernel
set_option maxRecDepth 100000 in
theorem nb33_17 : mm_blk 33 17 = some [.freturn] := by decide +kernel
set_option maxRecDepth 100000 in
theorem nl33 : mm_ml 33 = 1 := by decide +kernel
set_option maxRecDepth 100000 in
theorem nn33 : mm_na 33 = 1 := by decide +kernel
set_option maxRecDepth 100000 in
theorem nc33 : mm_ci 33 = 6 := by decide +kernel
-- isSymbolOfLetters ()Z
set_option maxRecDepth 100000 in
theorem nb34_0 : mm_blk 34 0 = some [.aload 0, .invokeinterface 3 0, .sipush (1), .if_icmp .ne 22, .aload 0, .invokeinterface 3 1, .invokestatic 35, .ifCond .eq 22, .sipush (1), .goto 23] := by decide +kernel
set_option maxRecDepth 100000 in
theorem nb34_22 : mm_blk 34 22 = some [.sipush (0), .goto_w 23] := by decide +kernel
set_option maxRecDepth 100000 in
theorem nb34_23 : mm_blk 34 23 = some [.freturn] := by decide +kernel
set_option maxRecDepth 100000 in
theorem nl34 : mm_ml 34 = 1 := by decide +kernel
set_option maxRecDepth 100000 in
theorem nn34 : mm_na 34 = 1 := by decide +kernel
set_option maxRecDepth 100000 in
theorem nc34 : mm_ci 34 = 3 := by decide +kernel
-- isOfLetters (I)Z
set_option maxRecDepth 100000 in
theorem nb35_0 : mm_blk 35 0 = some [.iload 0, .sipush (255), .iand, .sipush (97), .if_icmp .lt 14, .sipush (1), .goto 15] := by decide +kernel
set_option maxRecDepth 100000 in
theorem nb35_14 : mm_blk 35 14 = some [.sipush (0), .goto_w 15] := by decide +kernel
set_option maxRecDepth 100000 in
theorem nb35_15 : mm_blk 35 15 = some [.freturn] := by decide +kernel
set_option maxRecDepth 100000 in
theorem nl35 : mm_ml 35 = 1 := by decide +kernel
set_option maxRecDepth 100000 in
theorem nn35 : mm_na 35 = 1 := by decide +kernel
set_option maxRecDepth 100000 in
theorem nc35 : mm_ci 35 = 0 := by decide +kernel
-- opensList ()Z
set_option maxRecDepth 100000 in
theorem nb36_0 : mm_blk 36 0 = some [.aload 0, .invokeinterface 6 1, .sipush (8), .if_icmp .lt 11, .sipush (0), .freturn] := by decide +kernel
set_option maxRecDepth 100000 in
theorem nb36_11 : mm_blk 36 11 = some [.new 3, .dup, .sipush (2), .sipush (0), .invokevirtual 37, .astore 1, .aload 0, .aload 1, .invokevirtual 38, .ifCond .ne 31, .sipush (0), .freturn] := by decide +kernel
set_option maxRecDepth 100000 in
theorem nb36_31 : mm_blk 36 31 = some [.aload 0, .invokeinterface 6 0, .aload 0, .invokeinterface 6 1, .aload 1, .aastore, .aload 0, .dup, .invokeinterface 6 1, .sipush (1), .iadd, .multianewarray 6 1, .sipush (1), .freturn] := by decide +kernel
set_option maxRecDepth 100000 in
theorem nl36 : mm_ml 36 = 2 := by decide +kernel
set_option maxRecDepth 100000 in
theorem nn36 : mm_na 36 = 1 := by decide +kernel
set_option maxRecDepth 100000 in
theorem nc36 : mm_ci 36 = 6 := by decide +kernel
-- <init> (II)V
set_option maxRecDepth 100000 in
theorem nb37_0 : mm_blk 37 0 = some [.aload 0, .invokespecial 0, .aload 0, .iload 1, .multianewarray 3 0, .aload 0, .iload 2, .multianewarray 3 1, .return_] := by decide +kernel
set_option maxRecDepth 100000 in
theorem nl37 : mm_ml 37 = 3 := by decide +kernel
set_option maxRecDepth 100000 in
theorem nn37 : mm_na 37 = 3 := by decide +kernel
set_option maxRecDepth 100000 in
theorem nc37 : mm_ci 37 = 3 := by decide +kernel
-- adds (LLispForge$Form;)Z
set_option maxRecDepth 100000 in
theorem nb38_0 : mm_blk 38 0 = some [.aload 0, .invokeinterface 6 1, .ifCond .le 30, .aload 0, .invokeinterface 6 1, .sipush (8), .if_icmp .gt 30, .aload 0, .invokeinterface 6 0, .aload 0, .invokeinterface 6 1, .sipush (1), .isub, .aaload, .goto 31] := by decide +kernel
set_option maxRecDepth 100000 in
theorem nb38_30 : mm_blk 38 30 = some [.aconst_null, .goto_w 31] := by decide +kernel
set_option maxRecDepth 100000 in
theorem nb38_31 : mm_blk 38 31 = some [.astore 2, .aload 2, .ifnull 43, .aload 2, .aload 1, .invokevirtual 39, .sipush (1), .freturn] := by decide +kernel
set_option maxRecDepth 100000 in
theorem nb38_43 : mm_blk 38 43 = some [.aload 0, .invokeinterface 6 2, .ifnull 52, .sipush (0), .freturn] := by decide +kernel
set_option maxRecDepth 100000 in
theorem nb38_52 : mm_blk 38 52 = some [.aload 0, .aload 1, .multianewarray 6 2, .sipush (1), .freturn] := by decide +kernel
set_option maxRecDepth 100000 in
theorem nl38 : mm_ml 38 = 3 := by decide +kernel
set_option maxRecDepth 100000 in
theorem nn38 : mm_na 38 = 2 := by decide +kernel
set_option maxRecDepth 100000 in
theorem nc38 : mm_ci 38 = 6 := by decide +kernel
-- append (LLispForge$Form;)V
set_option maxRecDepth 100000 in
theorem nb39_0 : mm_blk 39 0 = some [.aload 0, .invokeinterface 3 4, .ifnonnull 15, .aload 0, .aload 1, .multianewarray 3 3, .goto 23] := by decide +kernel
set_option maxRecDepth 100000 in
theorem nb39_15 : mm_blk 39 15 = some [.aload 0, .invokeinterface 3 4, .aload 1, .multianewarray 3 5, .goto_w 23] := by decide +kernel
set_option maxRecDepth 100000 in
theorem nb39_23 : mm_blk 39 23 = some [.aload 0, .aload 1, .multianewarray 3 4, .aload 0, .dup, .invokeinterface 3 2, .sipush (1), .iadd, .multianewarray 3 2, .return_] := by decide +kernel
set_option maxRecDepth 100000 in
theorem nl39 : mm_ml 39 = 2 := by decide +kernel
set_option maxRecDepth 100000 in
theorem nn39 : mm_na 39 = 2 := by decide +kernel
set_option maxRecDepth 100000 in
theorem nc39 : mm_ci 39 = 3 := by decide +kernel
-- closesList ()Z
set_option maxRecDepth 100000 in
theorem nb40_0 : mm_blk 40 0 = some [.aload 0, .invokeinterface 6 1, .ifCond .ne 9, .sipush (0), .freturn] := by decide +kernel
set_option maxRecDepth 100000 in
theorem nb40_9 : mm_blk 40 9 = some [.aload 0, .dup, .invokeinterface 6 1, .sipush (1), .isub, .multianewarray 6 1, .sipush (1), .freturn] := by decide +kernel
set_option maxRecDepth 100000 in
theorem nl40 : mm_ml 40 = 1 := by decide +kernel
set_option maxRecDepth 100000 in
theorem nn40 : mm_na 40 = 1 := by decide +kernel
set_option maxRecDepth 100000 in
theorem nc40 : mm_ci 40 = 6 := by decide +kernel
-- beginsAtom (I)Z
set_option maxRecDepth 100000 in
theorem nb41_0 : mm_blk 41 0 = some [.iload 1, .invokestatic 31, .istore 2, .iload 2, .ifCond .ne 25, .iload 1, .invokestatic 33, .ifCond .ne 25, .iload 1, .invokestatic 42, .ifCond .ne 25, .sipush (0), .freturn] := by decide +kernel
set_option maxRecDepth 100000 in
theorem nb41_25 : mm_blk 41 25 = some [.aload 0, .new 3, .dup, .iload 2, .ifCond .eq 38, .sipush (0), .goto 39] := by decide +kernel
set_option maxRecDepth 100000 in
theorem nb41_38 : mm_blk 41 38 = some [.sipush (1), .goto_w 39] := by decide +kernel
set_option maxRecDepth 100000 in
theorem nb41_39 : mm_blk 41 39 = some [.iload 2, .ifCond .eq 50, .iload 1, .sipush (48), .isub, .goto 51] := by decide +kernel
set_option maxRecDepth 100000 in
theorem nb41_50 : mm_blk 41 50 = some [.iload 1, .goto_w 51] := by decide +kernel
set_option maxRecDepth 100000 in
theorem nb41_51 : mm_blk 41 51 = some [.invokevirtual 37, .multianewarray 6 3, .aload 0, .sipush (1), .multianewarray 6 4, .aload 0, .sipush (0), .multianewarray 6 5, .aload 0, .aload 0, .invokeinterface 6 3, .invokevirtual 38, .freturn] := by decide +kernel
set_option maxRecDepth 100000 in
theorem nl41 : mm_ml 41 = 3 := by decide +kernel
set_option maxRecDepth 100000 in
theorem nn41 : mm_na 41 = 2 := by decide +kernel
set_option maxRecDepth 100000 in
theorem nc41 : mm_ci 41 = 6 := by decide +kernel
-- isSign (I)Z
set_option maxRecDepth 100000 in
theorem nb42_0 : mm_blk 42 0 = some [.iload 0, .sipush (43), .if_icmp .eq 30, .iload 0, .sipush (45), .if_icmp .eq 30, .iload 0, .sipush (42), .if_icmp .eq 30, .iload 0, .sipush (60), .if_icmp .eq 30, .iload 0, .sipush (61), .if_icmp .ne 34, .goto_w 30] := by decide +kernel
set_option maxRecDepth 100000 in
theorem nb42_30 : mm_blk 42 30 = some [.sipush (1), .goto 35] := by decide +kernel
set_option maxRecDepth 100000 in
theorem nb42_34 : mm_blk 42 34 = some [.sipush (0), .goto_w 35] := by decide +kernel
set_option maxRecDepth 100000 in
theorem nb42_35 : mm_blk 42 35 = some [.freturn] := by decide +kernel
set_option maxRecDepth 100000 in
theorem nl42 : mm_ml 42 = 1 := by decide +kernel
set_option maxRecDepth 100000 in
theorem nn42 : mm_na 42 = 1 := by decide +kernel
set_option maxRecDepth 100000 in
theorem nc42 : mm_ci 42 = 6 := by decide +kernel
-- empty ()V
set_option maxRecDepth 100000 in
theorem nb43_0 : mm_blk 43 0 = some [.aload 0, .sipush (0), .multianewarray 1 1, .return_] := by decide +kernel
set_option maxRecDepth 100000 in
theorem nl43 : mm_ml 43 = 1 := by decide +kernel
set_option maxRecDepth 100000 in
theorem nn43 : mm_na 43 = 1 := by decide +kernel
set_option maxRecDepth 100000 in
theorem nc43 : mm_ci 43 = 1 := by decide +kernel
-- unitOf (LLispForge$Form;)LLispForge$Unit;
set_option maxRecDepth 100000 in
theorem nb44_0 : mm_blk 44 0 = some [.aload 1, .sipush (0), .invokevirtual 45, .astore 2, .aload 2, .ifnull 50, .aload 2, .invokeinterface 3 0, .sipush (1), .if_icmp .ne 50, .aload 2, .invokeinterface 3 1, .sipush (6579558), .if_icmp .ne 34, .aload 0, .aload 1, .sipush (1), .invokevirtual 46, .areturn] := by decide +kernel
set_option maxRecDepth 100000 in
theorem nb44_34 : mm_blk 44 34 = some [.aload 2, .invokeinterface 3 1, .sipush (7168355), .if_icmp .ne 50, .aload 0, .aload 1, .sipush (2), .invokevirtual 46, .areturn] := by decide +kernel
set_option maxRecDepth 100000 in
theorem nb44_50 : mm_blk 44 50 = some [.new 9, .dup, .sipush (0), .sipush (0), .sipush (0), .newarray .int, .aload 1, .invokevirtual 51, .areturn] := by decide +kernel
set_option maxRecDepth 100000 in
theorem nl44 : mm_ml 44 = 3 := by decide +kernel
set_option maxRecDepth 100000 in
theorem nn44 : mm_na 44 = 2 := by decide +kernel
set_option maxRecDepth 100000 in
theorem nc44 : mm_ci 44 = 2 := by decide +kernel
-- part (I)LLispForge$Form;
set_option maxRecDepth 100000 in
theorem nb45_0 : mm_blk 45 0 = some [.aload 0, .invokeinterface 3 3, .astore 2, .sipush (0), .istore 3, .goto_w 7] := by decide +kernel
set_option maxRecDepth 100000 in
theorem nb45_7 : mm_blk 45 7 = some [.iload 3, .iload 1, .if_icmp .ge 27, .aload 2, .ifnull 27, .aload 2, .invokeinterface 3 5, .astore 2, .iinc 3 (1), .goto 7] := by decide +kernel
set_option maxRecDepth 100000 in
theorem nb45_27 : mm_blk 45 27 = some [.aload 2, .areturn] := by decide +kernel
set_option maxRecDepth 100000 in
theorem nl45 : mm_ml 45 = 4 := by decide +kernel
set_option maxRecDepth 100000 in
theorem nn45 : mm_na 45 = 2 := by decide +kernel
set_option maxRecDepth 100000 in
theorem nc45 : mm_ci 45 = 3 := by decide +kernel
-- definitionOf (LLispForge$Form;I)LLispForge$Unit;
set_option maxRecDepth 100000 in
theorem nb46_0 : mm_blk 46 0 = some [.aload 1, .sipush (1), .invokevirtual 45, .astore 3, .aload 1, .sipush (2), .invokevirtual 45, .astore 4, .aload 1, .sipush (3), .invokevirtual 45, .astore 5, .aload 1, .invokeinterface 3 2, .sipush (4), .if_icmp .ne 42, .aload 3, .ifnull 42, .aload 4, .ifnull 42, .aload 5, .ifnonnull 52, .goto_w 42] := by decide +kernel
set_option maxRecDepth 100000 in
theorem nb46_42 : mm_blk 46 42 = some [.checkcast 1] := by decide +kernel
set_option maxRecDepth 100000 in
theorem nb46_52 : mm_blk 46 52 = some [.aload 3, .invokevirtual 34, .ifCond .eq 69, .aload 3, .invokeinterface 3 1, .invokestatic 47, .ifCond .eq 79, .goto_w 69] := by decide +kernel
set_option maxRecDepth 100000 in
theorem nb46_69 : mm_blk 46 69 = some [.checkcast 1] := by decide +kernel
set_option maxRecDepth 100000 in
theorem nb46_79 : mm_blk 46 79 = some [.aload 4, .invokestatic 48, .ifCond .ne 97, .checkcast 1] := by decide +kernel
set_option maxRecDepth 100000 in
theorem nb46_97 : mm_blk 46 97 = some [.new 9, .dup, .iload 2, .aload 3, .invokeinterface 3 1, .aload 4, .invokestatic 50, .aload 5, .invokevirtual 51, .areturn] := by decide +kernel
set_option maxRecDepth 100000 in
theorem nl46 : mm_ml 46 = 6 := by decide +kernel
set_option maxRecDepth 100000 in
theorem nn46 : mm_na 46 = 3 := by decide +kernel
set_option maxRecDepth 100000 in
theorem nc46 : mm_ci 46 = 2 := by decide +kernel
-- isWord (I)Z
set_option maxRecDepth 100000 in
theorem nb47_0 : mm_blk 47 0 = some [.iload 0, .sipush (6579558), .if_icmp .eq 44, .iload 0, .sipush (7168355), .if_icmp .eq 44, .iload 0, .sipush (26982), .if_icmp .eq 44, .iload 0, .sipush (7103860), .if_icmp .eq 44, .iload 0, .sipush (25711), .if_icmp .eq 44, .iload 0, .sipush (7562612), .if_icmp .eq 44, .iload 0, .sipush (7501166), .if_icmp .ne 48, .goto_w 44] := by decide +kernel
set_option maxRecDepth 100000 in
theorem nb47_44 : mm_blk 47 44 = some [.sipush (1), .goto 49] := by decide +kernel
set_option maxRecDepth 100000 in
theorem nb47_48 : mm_blk 47 48 = some [.sipush (0), .goto_w 49] := by decide +kernel
set_option maxRecDepth 100000 in
theorem nb47_49 : mm_blk 47 49 = some [.freturn] := by decide +kernel
set_option maxRecDepth 100000 in
theorem nl47 : mm_ml 47 = 1 := by decide +kernel
set_option maxRecDepth 100000 in
theorem nn47 : mm_na 47 = 1 := by decide +kernel
set_option maxRecDepth 100000 in
theorem nc47 : mm_ci 47 = 2 := by decide +kernel
-- areParameters (LLispForge$Form;)Z
set_option maxRecDepth 100000 in
theorem nb48_0 : mm_blk 48 0 = some [.aload 0, .invokeinterface 3 0, .sipush (2), .if_icmp .ne 16, .aload 0, .invokeinterface 3 2, .sipush (4), .if_icmp .le 18, .goto_w 16] := by decide +kernel
set_option maxRecDepth 100000 in
theorem nb48_16 : mm_blk 48 16 = some [.sipush (0), .freturn] := by decide +kernel
set_option maxRecDepth 100000 in
theorem nb48_18 : mm_blk 48 18 = some [.aload 0, .invokeinterface 3 3, .astore 1, .goto_w 23] := by decide +kernel
set_option maxRecDepth 100000 in
theorem nb48_23 : mm_blk 48 23 = some [.aload 1, .ifnull 51, .aload 1, .invokevirtual 34, .ifCond .eq 41, .aload 1, .invokestatic 49, .ifCond .eq 43, .goto_w 41] := by decide +kernel
set_option maxRecDepth 100000 in
theorem nb48_41 : mm_blk 48 41 = some [.sipush (0), .freturn] := by decide +kernel
set_option maxRecDepth 100000 in
theorem nb48_43 : mm_blk 48 43 = some [.aload 1, .invokeinterface 3 5, .astore 1, .goto 23] := by decide +kernel
set_option maxRecDepth 100000 in
theorem nb48_51 : mm_blk 48 51 = some [.sipush (1), .freturn] := by decide +kernel
set_option maxRecDepth 100000 in
theorem nl48 : mm_ml 48 = 2 := by decide +kernel
set_option maxRecDepth 100000 in
theorem nn48 : mm_na 48 = 1 := by decide +kernel
set_option maxRecDepth 100000 in
theorem nc48 : mm_ci 48 = 2 := by decide +kernel
-- isRepeatedBehind (LLispForge$Form;)Z
set_option maxRecDepth 100000 in
theorem nb49_0 : mm_blk 49 0 = some [.aload 0, .invokeinterface 3 5, .astore 1, .goto_w 5] := by decide +kernel
set_option maxRecDepth 100000 in
theorem nb49_5 : mm_blk 49 5 = some [.aload 1, .ifnull 38, .aload 1, .invokeinterface 3 0, .sipush (1), .if_icmp .ne 30, .aload 1, .invokeinterface 3 1, .aload 0, .invokeinterface 3 1, .if_icmp .ne 30, .sipush (1), .freturn] := by decide +kernel
set_option maxRecDepth 100000 in
theorem nb49_30 : mm_blk 49 30 = some [.aload 1, .invokeinterface 3 5, .astore 1, .goto 5] := by decide +kernel
set_option maxRecDepth 100000 in
theorem nb49_38 : mm_blk 49 38 = some [.sipush (0), .freturn] := by decide +kernel
set_option maxRecDepth 100000 in
theorem nl49 : mm_ml 49 = 2 := by decide +kernel
set_option maxRecDepth 100000 in
theorem nn49 : mm_na 49 = 1 := by decide +kernel
set_option maxRecDepth 100000 in
theorem nc49 : mm_ci 49 = 2 := by decide +kernel
-- symbolsOf (LLispForge$Form;)[I
set_option maxRecDepth 100000 in
theorem nb50_0 : mm_blk 50 0 = some [.aload 0, .invokeinterface 3 2, .sipush (0), .fadd, .newarray .int, .astore 1, .aload 0, .invokeinterface 3 3, .astore 2, .sipush (0), .istore 3, .goto_w 18] := by decide +kernel
set_option maxRecDepth 100000 in
theorem nb50_18 : mm_blk 50 18 = some [.iload 3, .aload 1, .arraylength, .if_icmp .ge 46, .aload 2, .ifnull 46, .aload 1, .iload 3, .aload 2, .invokeinterface 3 1, .iastore, .aload 2, .invokeinterface 3 5, .astore 2, .iinc 3 (1), .goto 18] := by decide +kernel
set_option maxRecDepth 100000 in
theorem nb50_46 : mm_blk 50 46 = some [.aload 1, .areturn] := by decide +kernel
set_option maxRecDepth 100000 in
theorem nl50 : mm_ml 50 = 4 := by decide +kernel
set_option maxRecDepth 100000 in
theorem nn50 : mm_na 50 = 1 := by decide +kernel
set_option maxRecDepth 100000 in
theorem nc50 : mm_ci 50 = 2 := by decide +kernel
-- <init> (II[ILLispForge$Form;)V
set_option maxRecDepth 100000 in
theorem nb51_0 : mm_blk 51 0 = some [.aload 0, .invokespecial 0, .aload 0, .new 1, .dup, .sipush (0), .invokevirtual 1, .multianewarray 9 4, .aload 0, .new 1, .dup, .sipush (0), .invokevirtual 1, .multianewarray 9 5, .aload 0, .sipush (0), .newarray .int, .multianewarray 9 6, .aload 0, .sipush (0), .newarray .int, .multianewarray 9 7, .aload 0, .iload 1, .multianewarray 9 0, .aload 0, .iload 2, .multianewarray 9 1, .aload 0, .aload 3, .multianewarray 9 2, .aload 0, .aload 4, .multianewarray 9 3, .return_] := by decide +kernel
set_option maxRecDepth 100000 in
theorem nl51 : mm_ml 51 = 5 := by decide +kernel
set_option maxRecDepth 100000 in
theorem nn51 : mm_na 51 = 5 := by decide +kernel
set_option maxRecDepth 100000 in
theorem nc51 : mm_ci 51 = 9 := by decide +kernel
-- complete (LLispForge$Unit;)V
set_option maxRecDepth 100000 in
theorem nb52_0 : mm_blk 52 0 = some [.aload 1, .invokeinterface 9 2, .arraylength, .istore 2, .aload 0, .invokeinterface 2 1, .invokevirtual 43, .aload 0, .sipush (0), .multianewarray 2 5, .aload 0, .sipush (0), .multianewarray 2 8, .aload 0, .sipush (0), .multianewarray 2 9, .sipush (0), .istore 3, .goto_w 30] := by decide +kernel
set_option maxRecDepth 100000 in
theorem nb52_30 : mm_blk 52 30 = some [.iload 3, .iload 2, .if_icmp .ge 52, .aload 0, .aload 1, .invokeinterface 9 2, .iload 3, .iaload, .iload 3, .invokevirtual 53, .iinc 3 (1), .goto 30] := by decide +kernel
set_option maxRecDepth 100000 in
theorem nb52_52 : mm_blk 52 52 = some [.aload 0, .aload 1, .invokeinterface 9 3, .aconst_null, .iload 2, .sipush (1), .invokevirtual 54, .aload 1, .invokeinterface 9 0, .ifCond .ne 79, .aload 0, .sipush (14), .invokevirtual 64, .goto 90] := by decide +kernel
set_option maxRecDepth 100000 in
theorem nb52_79 : mm_blk 52 79 = some [.aload 0, .sipush (13), .invokevirtual 64, .aload 0, .iload 2, .invokevirtual 64, .goto_w 90] := by decide +kernel
set_option maxRecDepth 100000 in
theorem nb52_90 : mm_blk 52 90 = some [.aload 1, .aload 0, .invokeinterface 2 1, .invokevirtual 78, .multianewarray 9 4, .aload 1, .aload 0, .invokeinterface 2 3, .aload 0, .invokeinterface 2 5, .invokestatic 80, .multianewarray 9 6, .aload 1, .aload 0, .invokeinterface 2 4, .aload 0, .invokeinterface 2 5, .invokestatic 80, .multianewarray 9 7, .aload 1, .aload 0, .aload 1, .invokevirtual 82, .multianewarray 9 5, .return_] := by decide +kernel
set_option maxRecDepth 100000 in
theorem nl52 : mm_ml 52 = 4 := by decide +kernel
set_option maxRecDepth 100000 in
theorem nn52 : mm_na 52 = 2 := by decide +kernel
set_option maxRecDepth 100000 in
theorem nc52 : mm_ci 52 = 2 := by decide +kernel
-- bind (II)V
set_option maxRecDepth 100000 in
theorem nb53_0 : mm_blk 53 0 = some [.aload 0, .invokeinterface 2 8, .sipush (104), .if_icmp .lt 20, .checkcast 1] := by decide +kernel
set_option maxRecDepth 100000 in
theorem nb53_20 : mm_blk 53 20 = some [.aload 0, .invokeinterface 2 6, .aload 0, .invokeinterface 2 8, .iload 1, .iastore, .aload 0, .invokeinterface 2 7, .aload 0, .invokeinterface 2 8, .iload 2, .iastore, .aload 0, .dup, .invokeinterface 2 8, .sipush (1), .iadd, .multianewarray 2 8, .return_] := by decide +kernel
set_option maxRecDepth 100000 in
theorem nl53 : mm_ml 53 = 3 := by decide +kernel
set_option maxRecDepth 100000 in
theorem nn53 : mm_na 53 = 3 := by decide +kernel
set_option maxRecDepth 100000 in
theorem nc53 : mm_ci 53 = 2 := by decide +kernel
