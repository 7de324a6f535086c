/-! The law's own code -/
abbrev c_L_law : ByteArray := code
def t_L_law_23 : List Instr := [.iload 4, .aload_n 0, .nop]
def t_L_law_27 : List Instr := [.bipush 9, .isub, .if_icmp .gt 1189, .aload_n 0, .iload 4, .nop]
def t_L_law_37 : List Instr := [.bipush 31, .iand, .tableswitch 1173 0 17 #[88, 314, 370, 426, 470, 483, 550, 575, 631, 715, 799, 852, 879, 892, 917, 1001, 1073, 1129]]
def t_L_law_128 : List Instr := [.aload_n 1, .aload_n 0, .iload 4, .iconst 1, .iadd, .nop]
def t_L_law_135 : List Instr := [.i2l, .bipush 32, .lshl, .aload_n 0, .iload 4, .iconst 2, .iadd, .nop]
def t_L_law_145 : List Instr := [.i2l, .ldc2_w 63, .land, .lor, .aload_n 0, .iload 4, .iconst 3, .iadd, .nop]
def t_L_law_157 : List Instr := [.i2l, .bipush 32, .lshl, .aload_n 0, .iload 4, .iconst 4, .iadd, .nop]
def t_L_law_167 : List Instr := [.i2l, .ldc2_w 63, .land, .lor, .aload_n 0, .iload 4, .iconst 5, .iadd, .nop]
def t_L_law_179 : List Instr := [.i2l, .bipush 32, .lshl, .aload_n 0, .iload 4, .bipush 6, .iadd, .nop]
def t_L_law_190 : List Instr := [.i2l, .ldc2_w 63, .land, .lor, .aload_n 0, .iload 4, .bipush 7, .iadd, .nop]
def t_L_law_203 : List Instr := [.i2l, .bipush 32, .lshl, .aload_n 0, .iload 4, .bipush 8, .iadd, .nop]
def t_L_law_214 : List Instr := [.i2l, .ldc2_w 63, .land, .lor, .aload_n 3, .nop]
def t_L_law_224 : List Instr := [.istore 5, .aload_n 2, .aload_n 0, .iload 4, .iconst 1, .iadd, .nop]
def t_L_law_233 : List Instr := [.i2l, .bipush 32, .lshl, .aload_n 0, .iload 4, .iconst 2, .iadd, .nop]
def t_L_law_243 : List Instr := [.i2l, .ldc2_w 63, .land, .lor, .aload_n 0, .iload 4, .iconst 3, .iadd, .nop]
def t_L_law_255 : List Instr := [.i2l, .bipush 32, .lshl, .aload_n 0, .iload 4, .iconst 4, .iadd, .nop]
def t_L_law_265 : List Instr := [.i2l, .ldc2_w 63, .land, .lor, .aload_n 0, .iload 4, .iconst 5, .iadd, .nop]
def t_L_law_277 : List Instr := [.i2l, .bipush 32, .lshl, .aload_n 0, .iload 4, .bipush 6, .iadd, .nop]
def t_L_law_288 : List Instr := [.i2l, .ldc2_w 63, .land, .lor, .aload_n 0, .iload 4, .bipush 7, .iadd, .nop]
def t_L_law_301 : List Instr := [.i2l, .bipush 32, .lshl, .aload_n 0, .iload 4, .bipush 8, .iadd, .nop]
def t_L_law_312 : List Instr := [.i2l, .ldc2_w 63, .land, .lor, .invokevirtual 70, .istore 6, .aload_n 2, .invokevirtual 71, .iload 5, .if_icmp .eq 5, .iconst 0, .ireturn]
def t_L_law_334 : List Instr := [.iload 5, .ifCond .ne 15, .aload_n 3, .iconst 0, .laload, .iload 6, .i2l, .lcmp, .ifCond .eq 5, .iconst 0, .ireturn]
def t_L_law_351 : List Instr := [.goto 862]
def t_L_law_354 : List Instr := [.aload_n 1, .aload_n 0, .iload 4, .iconst 1, .iadd, .nop]
def t_L_law_361 : List Instr := [.aload_n 3, .nop]
def t_L_law_365 : List Instr := [.istore 5, .aload_n 2, .aload_n 0, .iload 4, .iconst 1, .iadd, .nop]
def t_L_law_374 : List Instr := [.invokevirtual 77, .istore 6, .aload_n 2, .invokevirtual 71, .iload 5, .if_icmp .eq 5, .iconst 0, .ireturn]
def t_L_law_390 : List Instr := [.iload 5, .ifCond .ne 15, .aload_n 3, .iconst 0, .laload, .iload 6, .i2l, .lcmp, .ifCond .eq 5, .iconst 0, .ireturn]
def t_L_law_407 : List Instr := [.goto 806]
def t_L_law_410 : List Instr := [.aload_n 1, .aload_n 0, .iload 4, .iconst 1, .iadd, .nop]
def t_L_law_417 : List Instr := [.aload_n 3, .nop]
def t_L_law_421 : List Instr := [.istore 5, .aload_n 2, .aload_n 0, .iload 4, .iconst 1, .iadd, .nop]
def t_L_law_430 : List Instr := [.invokevirtual 80, .istore 6, .aload_n 2, .invokevirtual 71, .iload 5, .if_icmp .eq 5, .iconst 0, .ireturn]
def t_L_law_446 : List Instr := [.iload 5, .ifCond .ne 15, .aload_n 3, .iconst 0, .laload, .iload 6, .i2l, .lcmp, .ifCond .eq 5, .iconst 0, .ireturn]
def t_L_law_463 : List Instr := [.goto 750]
def t_L_law_466 : List Instr := [.aload_n 1, .aload_n 3, .nop]
def t_L_law_471 : List Instr := [.istore 5, .aload_n 2, .invokevirtual 84, .istore 6, .aload_n 2, .invokevirtual 71, .iload 5, .if_icmp .eq 5, .iconst 0, .ireturn]
def t_L_law_490 : List Instr := [.iload 5, .ifCond .ne 15, .aload_n 3, .iconst 0, .laload, .iload 6, .i2l, .lcmp, .ifCond .eq 5, .iconst 0, .ireturn]
def t_L_law_507 : List Instr := [.goto 706]
def t_L_law_510 : List Instr := [.aload_n 1, .invokevirtual 85, .aload_n 2, .invokevirtual 88, .if_icmp .eq 695, .iconst 0, .ireturn]
def t_L_law_523 : List Instr := [.aload_n 1, .aload_n 0, .iload 4, .iconst 1, .iadd, .nop]
def t_L_law_530 : List Instr := [.aload_n 0, .iload 4, .iconst 2, .iadd, .nop]
def t_L_law_536 : List Instr := [.aload_n 3, .nop]
def t_L_law_540 : List Instr := [.istore 5, .aload_n 2, .aload_n 0, .iload 4, .iconst 1, .iadd, .nop]
def t_L_law_549 : List Instr := [.aload_n 0, .iload 4, .iconst 2, .iadd, .nop]
def t_L_law_555 : List Instr := [.invokevirtual 92, .lstore 6, .aload_n 2, .invokevirtual 71, .iload 5, .if_icmp .eq 5, .iconst 0, .ireturn]
def t_L_law_571 : List Instr := [.iload 5, .ifCond .ne 14, .aload_n 3, .iconst 0, .laload, .lload 6, .lcmp, .ifCond .eq 5, .iconst 0, .ireturn]
def t_L_law_587 : List Instr := [.goto 626]
def t_L_law_590 : List Instr := [.aload_n 1, .aload_n 0, .iload 4, .iconst 1, .iadd, .nop]
def t_L_law_597 : List Instr := [.invokevirtual 93, .aload_n 2, .aload_n 0, .iload 4, .iconst 1, .iadd, .nop]
def t_L_law_607 : List Instr := [.invokevirtual 96, .if_icmp .eq 603, .iconst 0, .ireturn]
def t_L_law_615 : List Instr := [.aload_n 1, .aload_n 0, .iload 4, .iconst 1, .iadd, .nop]
def t_L_law_622 : List Instr := [.aload_n 3, .nop]
def t_L_law_626 : List Instr := [.istore 5, .aload_n 2, .aload_n 0, .iload 4, .iconst 1, .iadd, .nop]
def t_L_law_635 : List Instr := [.invokevirtual 99, .istore 6, .aload_n 2, .invokevirtual 71, .iload 5, .if_icmp .eq 5, .iconst 0, .ireturn]
def t_L_law_651 : List Instr := [.iload 5, .ifCond .ne 15, .aload_n 3, .iconst 0, .laload, .iload 6, .i2l, .lcmp, .ifCond .eq 5, .iconst 0, .ireturn]
def t_L_law_668 : List Instr := [.goto 545]
def t_L_law_671 : List Instr := [.aload_n 1, .aload_n 0, .iload 4, .iconst 1, .iadd, .nop]
def t_L_law_678 : List Instr := [.aload_n 0, .iload 4, .iconst 2, .iadd, .nop]
def t_L_law_684 : List Instr := [.ifCond .eq 7, .iconst 1, .goto 4]
def t_L_law_691 : List Instr := [.iconst 0, .nop]
def t_L_law_692 : List Instr := [.aload_n 3, .nop]
def t_L_law_696 : List Instr := [.istore 5, .aload_n 2, .aload_n 0, .iload 4, .iconst 1, .iadd, .nop]
def t_L_law_705 : List Instr := [.aload_n 0, .iload 4, .iconst 2, .iadd, .nop]
def t_L_law_711 : List Instr := [.ifCond .eq 7, .iconst 1, .goto 4]
def t_L_law_718 : List Instr := [.iconst 0, .nop]
def t_L_law_719 : List Instr := [.invokevirtual 103, .istore 6, .aload_n 2, .invokevirtual 71, .iload 5, .if_icmp .eq 5, .iconst 0, .ireturn]
def t_L_law_735 : List Instr := [.iload 5, .ifCond .ne 15, .aload_n 3, .iconst 0, .laload, .iload 6, .i2l, .lcmp, .ifCond .eq 5, .iconst 0, .ireturn]
def t_L_law_752 : List Instr := [.goto 461]
def t_L_law_755 : List Instr := [.aload_n 1, .aload_n 0, .iload 4, .iconst 1, .iadd, .nop]
def t_L_law_762 : List Instr := [.aload_n 0, .iload 4, .iconst 2, .iadd, .nop]
def t_L_law_768 : List Instr := [.ifCond .eq 7, .iconst 1, .goto 4]
def t_L_law_775 : List Instr := [.iconst 0, .nop]
def t_L_law_776 : List Instr := [.aload_n 3, .nop]
def t_L_law_780 : List Instr := [.istore 5, .aload_n 2, .aload_n 0, .iload 4, .iconst 1, .iadd, .nop]
def t_L_law_789 : List Instr := [.aload_n 0, .iload 4, .iconst 2, .iadd, .nop]
def t_L_law_795 : List Instr := [.ifCond .eq 7, .iconst 1, .goto 4]
def t_L_law_802 : List Instr := [.iconst 0, .nop]
def t_L_law_803 : List Instr := [.invokevirtual 106, .istore 6, .aload_n 2, .invokevirtual 71, .iload 5, .if_icmp .eq 5, .iconst 0, .ireturn]
def t_L_law_819 : List Instr := [.iload 5, .ifCond .ne 15, .aload_n 3, .iconst 0, .laload, .iload 6, .i2l, .lcmp, .ifCond .eq 5, .iconst 0, .ireturn]
def t_L_law_836 : List Instr := [.goto 377]
def t_L_law_839 : List Instr := [.aload_n 1, .aload_n 0, .iload 4, .iconst 1, .iadd, .nop]
def t_L_law_846 : List Instr := [.aload_n 0, .iload 4, .iconst 2, .iadd, .nop]
def t_L_law_852 : List Instr := [.ifCond .eq 7, .iconst 1, .goto 4]
def t_L_law_859 : List Instr := [.iconst 0, .nop]
def t_L_law_860 : List Instr := [.invokevirtual 107, .aload_n 2, .aload_n 0, .iload 4, .iconst 1, .iadd, .nop]
def t_L_law_870 : List Instr := [.aload_n 0, .iload 4, .iconst 2, .iadd, .nop]
def t_L_law_876 : List Instr := [.ifCond .eq 7, .iconst 1, .goto 4]
def t_L_law_883 : List Instr := [.iconst 0, .nop]
def t_L_law_884 : List Instr := [.invokevirtual 111, .if_icmp .eq 326, .iconst 0, .ireturn]
def t_L_law_892 : List Instr := [.aload_n 1, .aload_n 0, .iload 4, .iconst 1, .iadd, .nop]
def t_L_law_899 : List Instr := [.i2c, .invokevirtual 112, .aload_n 2, .aload_n 0, .iload 4, .iconst 1, .iadd, .nop]
def t_L_law_910 : List Instr := [.i2c, .invokevirtual 116, .if_icmp .eq 299, .iconst 0, .ireturn]
def t_L_law_919 : List Instr := [.aload_n 1, .invokevirtual 117, .aload_n 2, .invokevirtual 120, .if_icmp .eq 286, .iconst 0, .ireturn]
def t_L_law_932 : List Instr := [.aload_n 1, .aload_n 0, .iload 4, .iconst 1, .iadd, .nop]
def t_L_law_939 : List Instr := [.invokevirtual 121, .aload_n 2, .aload_n 0, .iload 4, .iconst 1, .iadd, .nop]
def t_L_law_949 : List Instr := [.invokevirtual 124, .if_icmp .eq 261, .iconst 0, .ireturn]
def t_L_law_957 : List Instr := [.aload_n 1, .aload_n 0, .iload 4, .iconst 1, .iadd, .nop]
def t_L_law_964 : List Instr := [.aload_n 0, .iload 4, .iconst 2, .iadd, .nop]
def t_L_law_970 : List Instr := [.ifCond .eq 7, .iconst 1, .goto 4]
def t_L_law_977 : List Instr := [.iconst 0, .nop]
def t_L_law_978 : List Instr := [.aload_n 3, .nop]
def t_L_law_982 : List Instr := [.istore 5, .aload_n 2, .aload_n 0, .iload 4, .iconst 1, .iadd, .nop]
def t_L_law_991 : List Instr := [.aload_n 0, .iload 4, .iconst 2, .iadd, .nop]
def t_L_law_997 : List Instr := [.ifCond .eq 7, .iconst 1, .goto 4]
def t_L_law_1004 : List Instr := [.iconst 0, .nop]
def t_L_law_1005 : List Instr := [.invokevirtual 127, .istore 6, .aload_n 2, .invokevirtual 71, .iload 5, .if_icmp .eq 5, .iconst 0, .ireturn]
def t_L_law_1021 : List Instr := [.iload 5, .ifCond .ne 15, .aload_n 3, .iconst 0, .laload, .iload 6, .i2l, .lcmp, .ifCond .eq 5, .iconst 0, .ireturn]
def t_L_law_1038 : List Instr := [.goto 175]
def t_L_law_1041 : List Instr := [.aload_n 1, .aload_n 0, .iload 4, .iconst 1, .iadd, .nop]
def t_L_law_1048 : List Instr := [.ifCond .eq 7, .iconst 1, .goto 4]
def t_L_law_1055 : List Instr := [.iconst 0, .nop]
def t_L_law_1056 : List Instr := [.aload_n 3, .nop]
def t_L_law_1060 : List Instr := [.istore 5, .aload_n 2, .aload_n 0, .iload 4, .iconst 1, .iadd, .nop]
def t_L_law_1069 : List Instr := [.ifCond .eq 7, .iconst 1, .goto 4]
def t_L_law_1076 : List Instr := [.iconst 0, .nop]
def t_L_law_1077 : List Instr := [.invokevirtual 131, .istore 6, .aload_n 2, .invokevirtual 71, .iload 5, .if_icmp .eq 5, .iconst 0, .ireturn]
def t_L_law_1093 : List Instr := [.iload 5, .ifCond .ne 15, .aload_n 3, .iconst 0, .laload, .iload 6, .i2l, .lcmp, .ifCond .eq 5, .iconst 0, .ireturn]
def t_L_law_1110 : List Instr := [.goto 103]
def t_L_law_1113 : List Instr := [.aload_n 1, .aload_n 0, .iload 4, .iconst 1, .iadd, .nop]
def t_L_law_1120 : List Instr := [.aload_n 3, .nop]
def t_L_law_1124 : List Instr := [.istore 5, .aload_n 2, .aload_n 0, .iload 4, .iconst 1, .iadd, .nop]
def t_L_law_1133 : List Instr := [.invokevirtual 134, .istore 6, .aload_n 2, .invokevirtual 71, .iload 5, .if_icmp .eq 5, .iconst 0, .ireturn]
def t_L_law_1149 : List Instr := [.iload 5, .ifCond .ne 15, .aload_n 3, .iconst 0, .laload, .iload 6, .i2l, .lcmp, .ifCond .eq 5, .iconst 0, .ireturn]
def t_L_law_1166 : List Instr := [.goto 47]
def t_L_law_1169 : List Instr := [.aload_n 1, .aload_n 3, .nop]
def t_L_law_1174 : List Instr := [.istore 5, .aload_n 2, .invokevirtual 137, .istore 6, .aload_n 2, .invokevirtual 71, .iload 5, .if_icmp .eq 5, .iconst 0, .ireturn]
def t_L_law_1193 : List Instr := [.iload 5, .ifCond .ne 15, .aload_n 3, .iconst 0, .laload, .iload 6, .i2l, .lcmp, .ifCond .eq 5, .iconst 0, .ireturn]
def t_L_law_1210 : List Instr := [.goto 3]
def t_L_law_1213 : List Instr := [.iinc 4 9, .goto (-1193)]
def t_L_law_1219 : List Instr := [.iconst 1, .ireturn]
def d_L_law : Nat → List Instr := fun pc => match pc with
  | 23 => t_L_law_23
  | 27 => t_L_law_27
  | 37 => t_L_law_37
  | 128 => t_L_law_128
  | 135 => t_L_law_135
  | 145 => t_L_law_145
  | 157 => t_L_law_157
  | 167 => t_L_law_167
  | 179 => t_L_law_179
  | 190 => t_L_law_190
  | 203 => t_L_law_203
  | 214 => t_L_law_214
  | 224 => t_L_law_224
  | 233 => t_L_law_233
  | 243 => t_L_law_243
  | 255 => t_L_law_255
  | 265 => t_L_law_265
  | 277 => t_L_law_277
  | 288 => t_L_law_288
  | 301 => t_L_law_301
  | 312 => t_L_law_312
  | 334 => t_L_law_334
  | 351 => t_L_law_351
  | 354 => t_L_law_354
  | 361 => t_L_law_361
  | 365 => t_L_law_365
  | 374 => t_L_law_374
  | 390 => t_L_law_390
  | 407 => t_L_law_407
  | 410 => t_L_law_410
  | 417 => t_L_law_417
  | 421 => t_L_law_421
  | 430 => t_L_law_430
  | 446 => t_L_law_446
  | 463 => t_L_law_463
  | 466 => t_L_law_466
  | 471 => t_L_law_471
  | 490 => t_L_law_490
  | 507 => t_L_law_507
  | 510 => t_L_law_510
  | 523 => t_L_law_523
  | 530 => t_L_law_530
  | 536 => t_L_law_536
  | 540 => t_L_law_540
  | 549 => t_L_law_549
  | 555 => t_L_law_555
  | 571 => t_L_law_571
  | 587 => t_L_law_587
  | 590 => t_L_law_590
  | 597 => t_L_law_597
  | 607 => t_L_law_607
  | 615 => t_L_law_615
  | 622 => t_L_law_622
  | 626 => t_L_law_626
  | 635 => t_L_law_635
  | 651 => t_L_law_651
  | 668 => t_L_law_668
  | 671 => t_L_law_671
  | 678 => t_L_law_678
  | 684 => t_L_law_684
  | 691 => t_L_law_691
  | 692 => t_L_law_692
  | 696 => t_L_law_696
  | 705 => t_L_law_705
  | 711 => t_L_law_711
  | 718 => t_L_law_718
  | 719 => t_L_law_719
  | 735 => t_L_law_735
  | 752 => t_L_law_752
  | 755 => t_L_law_755
  | 762 => t_L_law_762
  | 768 => t_L_law_768
  | 775 => t_L_law_775
  | 776 => t_L_law_776
  | 780 => t_L_law_780
  | 789 => t_L_law_789
  | 795 => t_L_law_795
  | 802 => t_L_law_802
  | 803 => t_L_law_803
  | 819 => t_L_law_819
  | 836 => t_L_law_836
  | 839 => t_L_law_839
  | 846 => t_L_law_846
  | 852 => t_L_law_852
  | 859 => t_L_law_859
  | 860 => t_L_law_860
  | 870 => t_L_law_870
  | 876 => t_L_law_876
  | 883 => t_L_law_883
  | 884 => t_L_law_884
  | 892 => t_L_law_892
  | 899 => t_L_law_899
  | 910 => t_L_law_910
  | 919 => t_L_law_919
  | 932 => t_L_law_932
  | 939 => t_L_law_939
  | 949 => t_L_law_949
  | 957 => t_L_law_957
  | 964 => t_L_law_964
  | 970 => t_L_law_970
  | 977 => t_L_law_977
  | 978 => t_L_law_978
  | 982 => t_L_law_982
  | 991 => t_L_law_991
  | 997 => t_L_law_997
  | 1004 => t_L_law_1004
  | 1005 => t_L_law_1005
  | 1021 => t_L_law_1021
  | 1038 => t_L_law_1038
  | 1041 => t_L_law_1041
  | 1048 => t_L_law_1048
  | 1055 => t_L_law_1055
  | 1056 => t_L_law_1056
  | 1060 => t_L_law_1060
  | 1069 => t_L_law_1069
  | 1076 => t_L_law_1076
  | 1077 => t_L_law_1077
  | 1093 => t_L_law_1093
  | 1110 => t_L_law_1110
  | 1113 => t_L_law_1113
  | 1120 => t_L_law_1120
  | 1124 => t_L_law_1124
  | 1133 => t_L_law_1133
  | 1149 => t_L_law_1149
  | 1166 => t_L_law_1166
  | 1169 => t_L_law_1169
  | 1174 => t_L_law_1174
  | 1193 => t_L_law_1193
  | 1210 => t_L_law_1210
  | 1213 => t_L_law_1213
  | 1219 => t_L_law_1219
  | _ => []
theorem d_L_law_23 : d_L_law 23 = t_L_law_23 := rfl
theorem d_L_law_27 : d_L_law 27 = t_L_law_27 := rfl
theorem d_L_law_37 : d_L_law 37 = t_L_law_37 := rfl
theorem d_L_law_128 : d_L_law 128 = t_L_law_128 := rfl
theorem d_L_law_135 : d_L_law 135 = t_L_law_135 := rfl
theorem d_L_law_145 : d_L_law 145 = t_L_law_145 := rfl
theorem d_L_law_157 : d_L_law 157 = t_L_law_157 := rfl
theorem d_L_law_167 : d_L_law 167 = t_L_law_167 := rfl
theorem d_L_law_179 : d_L_law 179 = t_L_law_179 := rfl
theorem d_L_law_190 : d_L_law 190 = t_L_law_190 := rfl
theorem d_L_law_203 : d_L_law 203 = t_L_law_203 := rfl
theorem d_L_law_214 : d_L_law 214 = t_L_law_214 := rfl
theorem d_L_law_224 : d_L_law 224 = t_L_law_224 := rfl
theorem d_L_law_233 : d_L_law 233 = t_L_law_233 := rfl
theorem d_L_law_243 : d_L_law 243 = t_L_law_243 := rfl
theorem d_L_law_255 : d_L_law 255 = t_L_law_255 := rfl
theorem d_L_law_265 : d_L_law 265 = t_L_law_265 := rfl
theorem d_L_law_277 : d_L_law 277 = t_L_law_277 := rfl
theorem d_L_law_288 : d_L_law 288 = t_L_law_288 := rfl
theorem d_L_law_301 : d_L_law 301 = t_L_law_301 := rfl
theorem d_L_law_312 : d_L_law 312 = t_L_law_312 := rfl
theorem d_L_law_334 : d_L_law 334 = t_L_law_334 := rfl
theorem d_L_law_351 : d_L_law 351 = t_L_law_351 := rfl
theorem d_L_law_354 : d_L_law 354 = t_L_law_354 := rfl
theorem d_L_law_361 : d_L_law 361 = t_L_law_361 := rfl
theorem d_L_law_365 : d_L_law 365 = t_L_law_365 := rfl
theorem d_L_law_374 : d_L_law 374 = t_L_law_374 := rfl
theorem d_L_law_390 : d_L_law 390 = t_L_law_390 := rfl
theorem d_L_law_407 : d_L_law 407 = t_L_law_407 := rfl
theorem d_L_law_410 : d_L_law 410 = t_L_law_410 := rfl
theorem d_L_law_417 : d_L_law 417 = t_L_law_417 := rfl
theorem d_L_law_421 : d_L_law 421 = t_L_law_421 := rfl
theorem d_L_law_430 : d_L_law 430 = t_L_law_430 := rfl
theorem d_L_law_446 : d_L_law 446 = t_L_law_446 := rfl
theorem d_L_law_463 : d_L_law 463 = t_L_law_463 := rfl
theorem d_L_law_466 : d_L_law 466 = t_L_law_466 := rfl
theorem d_L_law_471 : d_L_law 471 = t_L_law_471 := rfl
theorem d_L_law_490 : d_L_law 490 = t_L_law_490 := rfl
theorem d_L_law_507 : d_L_law 507 = t_L_law_507 := rfl
theorem d_L_law_510 : d_L_law 510 = t_L_law_510 := rfl
theorem d_L_law_523 : d_L_law 523 = t_L_law_523 := rfl
theorem d_L_law_530 : d_L_law 530 = t_L_law_530 := rfl
theorem d_L_law_536 : d_L_law 536 = t_L_law_536 := rfl
theorem d_L_law_540 : d_L_law 540 = t_L_law_540 := rfl
theorem d_L_law_549 : d_L_law 549 = t_L_law_549 := rfl
theorem d_L_law_555 : d_L_law 555 = t_L_law_555 := rfl
theorem d_L_law_571 : d_L_law 571 = t_L_law_571 := rfl
theorem d_L_law_587 : d_L_law 587 = t_L_law_587 := rfl
theorem d_L_law_590 : d_L_law 590 = t_L_law_590 := rfl
theorem d_L_law_597 : d_L_law 597 = t_L_law_597 := rfl
theorem d_L_law_607 : d_L_law 607 = t_L_law_607 := rfl
theorem d_L_law_615 : d_L_law 615 = t_L_law_615 := rfl
theorem d_L_law_622 : d_L_law 622 = t_L_law_622 := rfl
theorem d_L_law_626 : d_L_law 626 = t_L_law_626 := rfl
theorem d_L_law_635 : d_L_law 635 = t_L_law_635 := rfl
theorem d_L_law_651 : d_L_law 651 = t_L_law_651 := rfl
theorem d_L_law_668 : d_L_law 668 = t_L_law_668 := rfl
theorem d_L_law_671 : d_L_law 671 = t_L_law_671 := rfl
theorem d_L_law_678 : d_L_law 678 = t_L_law_678 := rfl
theorem d_L_law_684 : d_L_law 684 = t_L_law_684 := rfl
theorem d_L_law_691 : d_L_law 691 = t_L_law_691 := rfl
theorem d_L_law_692 : d_L_law 692 = t_L_law_692 := rfl
theorem d_L_law_696 : d_L_law 696 = t_L_law_696 := rfl
theorem d_L_law_705 : d_L_law 705 = t_L_law_705 := rfl
theorem d_L_law_711 : d_L_law 711 = t_L_law_711 := rfl
theorem d_L_law_718 : d_L_law 718 = t_L_law_718 := rfl
theorem d_L_law_719 : d_L_law 719 = t_L_law_719 := rfl
theorem d_L_law_735 : d_L_law 735 = t_L_law_735 := rfl
theorem d_L_law_752 : d_L_law 752 = t_L_law_752 := rfl
theorem d_L_law_755 : d_L_law 755 = t_L_law_755 := rfl
theorem d_L_law_762 : d_L_law 762 = t_L_law_762 := rfl
theorem d_L_law_768 : d_L_law 768 = t_L_law_768 := rfl
theorem d_L_law_775 : d_L_law 775 = t_L_law_775 := rfl
theorem d_L_law_776 : d_L_law 776 = t_L_law_776 := rfl
theorem d_L_law_780 : d_L_law 780 = t_L_law_780 := rfl
theorem d_L_law_789 : d_L_law 789 = t_L_law_789 := rfl
theorem d_L_law_795 : d_L_law 795 = t_L_law_795 := rfl
theorem d_L_law_802 : d_L_law 802 = t_L_law_802 := rfl
theorem d_L_law_803 : d_L_law 803 = t_L_law_803 := rfl
theorem d_L_law_819 : d_L_law 819 = t_L_law_819 := rfl
theorem d_L_law_836 : d_L_law 836 = t_L_law_836 := rfl
theorem d_L_law_839 : d_L_law 839 = t_L_law_839 := rfl
theorem d_L_law_846 : d_L_law 846 = t_L_law_846 := rfl
theorem d_L_law_852 : d_L_law 852 = t_L_law_852 := rfl
theorem d_L_law_859 : d_L_law 859 = t_L_law_859 := rfl
theorem d_L_law_860 : d_L_law 860 = t_L_law_860 := rfl
theorem d_L_law_870 : d_L_law 870 = t_L_law_870 := rfl
theorem d_L_law_876 : d_L_law 876 = t_L_law_876 := rfl
theorem d_L_law_883 : d_L_law 883 = t_L_law_883 := rfl
theorem d_L_law_884 : d_L_law 884 = t_L_law_884 := rfl
theorem d_L_law_892 : d_L_law 892 = t_L_law_892 := rfl
theorem d_L_law_899 : d_L_law 899 = t_L_law_899 := rfl
theorem d_L_law_910 : d_L_law 910 = t_L_law_910 := rfl
theorem d_L_law_919 : d_L_law 919 = t_L_law_919 := rfl
theorem d_L_law_932 : d_L_law 932 = t_L_law_932 := rfl
theorem d_L_law_939 : d_L_law 939 = t_L_law_939 := rfl
theorem d_L_law_949 : d_L_law 949 = t_L_law_949 := rfl
theorem d_L_law_957 : d_L_law 957 = t_L_law_957 := rfl
theorem d_L_law_964 : d_L_law 964 = t_L_law_964 := rfl
theorem d_L_law_970 : d_L_law 970 = t_L_law_970 := rfl
theorem d_L_law_977 : d_L_law 977 = t_L_law_977 := rfl
theorem d_L_law_978 : d_L_law 978 = t_L_law_978 := rfl
theorem d_L_law_982 : d_L_law 982 = t_L_law_982 := rfl
theorem d_L_law_991 : d_L_law 991 = t_L_law_991 := rfl
theorem d_L_law_997 : d_L_law 997 = t_L_law_997 := rfl
theorem d_L_law_1004 : d_L_law 1004 = t_L_law_1004 := rfl
theorem d_L_law_1005 : d_L_law 1005 = t_L_law_1005 := rfl
theorem d_L_law_1021 : d_L_law 1021 = t_L_law_1021 := rfl
theorem d_L_law_1038 : d_L_law 1038 = t_L_law_1038 := rfl
theorem d_L_law_1041 : d_L_law 1041 = t_L_law_1041 := rfl
theorem d_L_law_1048 : d_L_law 1048 = t_L_law_1048 := rfl
theorem d_L_law_1055 : d_L_law 1055 = t_L_law_1055 := rfl
theorem d_L_law_1056 : d_L_law 1056 = t_L_law_1056 := rfl
theorem d_L_law_1060 : d_L_law 1060 = t_L_law_1060 := rfl
theorem d_L_law_1069 : d_L_law 1069 = t_L_law_1069 := rfl
theorem d_L_law_1076 : d_L_law 1076 = t_L_law_1076 := rfl
theorem d_L_law_1077 : d_L_law 1077 = t_L_law_1077 := rfl
theorem d_L_law_1093 : d_L_law 1093 = t_L_law_1093 := rfl
theorem d_L_law_1110 : d_L_law 1110 = t_L_law_1110 := rfl
theorem d_L_law_1113 : d_L_law 1113 = t_L_law_1113 := rfl
theorem d_L_law_1120 : d_L_law 1120 = t_L_law_1120 := rfl
theorem d_L_law_1124 : d_L_law 1124 = t_L_law_1124 := rfl
theorem d_L_law_1133 : d_L_law 1133 = t_L_law_1133 := rfl
theorem d_L_law_1149 : d_L_law 1149 = t_L_law_1149 := rfl
theorem d_L_law_1166 : d_L_law 1166 = t_L_law_1166 := rfl
theorem d_L_law_1169 : d_L_law 1169 = t_L_law_1169 := rfl
theorem d_L_law_1174 : d_L_law 1174 = t_L_law_1174 := rfl
theorem d_L_law_1193 : d_L_law 1193 = t_L_law_1193 := rfl
theorem d_L_law_1210 : d_L_law 1210 = t_L_law_1210 := rfl
theorem d_L_law_1213 : d_L_law 1213 = t_L_law_1213 := rfl
theorem d_L_law_1219 : d_L_law 1219 = t_L_law_1219 := rfl
set_option maxRecDepth 100000 in
theorem k_L_law : ∀ pc, zok c_L_law 8 pc (d_L_law pc) = true := by
  intro pc
  unfold d_L_law
  split
  · decide +kernel
  · decide +kernel
  · decide +kernel
  · decide +kernel
  · decide +kernel
  · decide +kernel
  · decide +kernel
  · decide +kernel
  · decide +kernel
  · decide +kernel
  · decide +kernel
  · decide +kernel
  · decide +kernel
  · decide +kernel
  · decide +kernel
  · decide +kernel
  · decide +kernel
  · decide +kernel
  · decide +kernel
  · decide +kernel
  · decide +kernel
  · decide +kernel
  · decide +kernel
  · decide +kernel
  · decide +kernel
  · decide +kernel
  · decide +kernel
  · decide +kernel
  · decide +kernel
  · decide +kernel
  · decide +kernel
  · decide +kernel
  · decide +kernel
  · decide +kernel
  · decide +kernel
  · decide +kernel
  · decide +kernel
  · decide +kernel
  · decide +kernel
  · decide +kernel
  · decide +kernel
  · decide +kernel
  · decide +kernel
  · decide +kernel
  · decide +kernel
  · decide +kernel
  · decide +kernel
  · decide +kernel
  · decide +kernel
  · decide +kernel
  · decide +kernel
  · decide +kernel
  · decide +kernel
  · decide +kernel
  · decide +kernel
  · decide +kernel
  · decide +kernel
  · decide +kernel
  · decide +kernel
  · decide +kernel
  · decide +kernel
  · decide +kernel
  · decide +kernel
  · decide +kernel
  · decide +kernel
  · decide +kernel
  · decide +kernel
  · decide +kernel
  · decide +kernel
  · decide +kernel
  · decide +kernel
  · decide +kernel
  · decide +kernel
  · decide +kernel
  · decide +kernel
  · decide +kernel
  · decide +kernel
  · decide +kernel
  · decide +kernel
  · decide +kernel
  · decide +kernel
  · decide +kernel
  · decide +kernel
  · decide +kernel
  · decide +kernel
  · decide +kernel
  · decide +kernel
  · decide +kernel
  · decide +kernel
  · decide +kernel
  · decide +kernel
  · decide +kernel
  · decide +kernel
  · decide +kernel
  · decide +kernel
  · decide +kernel
  · decide +kernel
  · decide +kernel
  · decide +kernel
  · decide +kernel
  · decide +kernel
  · decide +kernel
  · decide +kernel
  · decide +kernel
  · decide +kernel
  · decide +kernel
  · decide +kernel
  · decide +kernel
  · decide +kernel
  · decide +kernel
  · decide +kernel
  · decide +kernel
  · decide +kernel
  · decide +kernel
  · decide +kernel
  · decide +kernel
  · decide +kernel
  · decide +kernel
  · decide +kernel
  · decide +kernel
  · decide +kernel
  · decide +kernel
  · decide +kernel
  · decide +kernel
  · decide +kernel
  · decide +kernel
  · decide +kernel
  · decide +kernel
  · decide +kernel
  · decide +kernel
  · decide +kernel
  · rfl
def ct_L_law : List (Nat × Nat × zSpec) := [(211, 5, sp_M_push), (214, 1, sp_M_thrown), (232, 2, sp_M_copy), (241, 2, sp_M_swap), (253, 1, sp_M_drop), (256, 1, sp_S_depth), (265, 1, sp_M_depth), (277, 3, sp_M_limb), (280, 2, sp_S_width), (289, 2, sp_M_width), (298, 2, sp_M_wrapping), (310, 3, sp_M_checked), (319, 3, sp_M_nearest), (322, 3, sp_S_fits), (334, 3, sp_M_fits), (337, 2, sp_S_key), (349, 2, sp_M_key), (352, 1, sp_S_clear), (361, 1, sp_M_clear), (364, 2, sp_S_letter), (373, 2, sp_M_letter), (382, 3, sp_M_print), (394, 2, sp_M_parse), (403, 2, sp_M_encode), (412, 1, sp_M_decode)]
set_option maxRecDepth 100000 in
theorem co_L_law : ∀ q ∈ ct_L_law, zCok "WideWordStackLaw" room_1 q := by
  intro q hq
  unfold ct_L_law at hq
  simp only [List.mem_cons, List.not_mem_nil, or_false] at hq
  rcases hq with rfl | rfl | rfl | rfl | rfl | rfl | rfl | rfl | rfl | rfl | rfl | rfl | rfl | rfl | rfl | rfl | rfl | rfl | rfl | rfl | rfl | rfl | rfl | rfl | rfl
  · exact Or.inr ⟨70, y_M_push, c_M_push, 10, (some .int), r_M_push, ⟨rfl, rfl, by decide, by decide⟩, zm_M_push, Or.inr ⟨rfl, 4, 5, rfl, l_L_70, sr_M_push, _, _, rfl⟩⟩
  · exact Or.inr ⟨71, y_M_thrown, c_M_thrown, 1, (some .int), r_M_thrown, ⟨rfl, rfl, by decide, by decide⟩, zm_M_thrown, Or.inr ⟨rfl, 0, 5, rfl, l_L_71, sr_M_thrown, _, _, rfl⟩⟩
  · exact Or.inr ⟨77, y_M_copy, c_M_copy, 2, (some .int), r_M_copy, ⟨rfl, rfl, by decide, by decide⟩, zm_M_copy, Or.inr ⟨rfl, 1, 5, rfl, l_L_77, sr_M_copy, _, _, rfl⟩⟩
  · exact Or.inr ⟨80, y_M_swap, c_M_swap, 6, (some .int), r_M_swap, ⟨rfl, rfl, by decide, by decide⟩, zm_M_swap, Or.inr ⟨rfl, 1, 5, rfl, l_L_80, sr_M_swap, _, _, rfl⟩⟩
  · exact Or.inr ⟨84, y_M_drop, c_M_drop, 1, (some .int), r_M_drop, ⟨rfl, rfl, by decide, by decide⟩, zm_M_drop, Or.inr ⟨rfl, 0, 5, rfl, l_L_84, sr_M_drop, _, _, rfl⟩⟩
  · exact Or.inr ⟨85, y_S_depth, c_S_depth, 1, (some .int), r_S_depth, ⟨rfl, rfl, by decide, by decide⟩, zm_S_depth, Or.inr ⟨rfl, 0, 4, rfl, l_L_85, sr_S_depth, _, _, rfl⟩⟩
  · exact Or.inr ⟨88, y_M_depth, c_M_depth, 1, (some .int), r_M_depth, ⟨rfl, rfl, by decide, by decide⟩, zm_M_depth, Or.inr ⟨rfl, 0, 5, rfl, l_L_88, sr_M_depth, _, _, rfl⟩⟩
  · exact Or.inr ⟨92, y_M_limb, c_M_limb, 7, (some .long), r_M_limb, ⟨rfl, rfl, by decide, by decide⟩, zm_M_limb, Or.inr ⟨rfl, 2, 5, rfl, l_L_92, sr_M_limb, _, _, rfl⟩⟩
  · exact Or.inr ⟨93, y_S_width, c_S_width, 2, (some .int), r_S_width, ⟨rfl, rfl, by decide, by decide⟩, zm_S_width, Or.inr ⟨rfl, 1, 4, rfl, l_L_93, sr_S_width, _, _, rfl⟩⟩
  · exact Or.inr ⟨96, y_M_width, c_M_width, 3, (some .int), r_M_width, ⟨rfl, rfl, by decide, by decide⟩, zm_M_width, Or.inr ⟨rfl, 1, 5, rfl, l_L_96, sr_M_width, _, _, rfl⟩⟩
  · exact Or.inr ⟨99, y_M_wrapping, c_M_wrapping, 3, (some .int), r_M_wrapping, ⟨rfl, rfl, by decide, by decide⟩, zm_M_wrapping, Or.inr ⟨rfl, 1, 5, rfl, l_L_99, sr_M_wrapping, _, _, rfl⟩⟩
  · exact Or.inr ⟨103, y_M_checked, c_M_checked, 4, (some .int), r_M_checked, ⟨rfl, rfl, by decide, by decide⟩, zm_M_checked, Or.inr ⟨rfl, 2, 5, rfl, l_L_103, sr_M_checked, _, _, rfl⟩⟩
  · exact Or.inr ⟨106, y_M_nearest, c_M_nearest, 4, (some .int), r_M_nearest, ⟨rfl, rfl, by decide, by decide⟩, zm_M_nearest, Or.inr ⟨rfl, 2, 5, rfl, l_L_106, sr_M_nearest, _, _, rfl⟩⟩
  · exact Or.inr ⟨107, y_S_fits, c_S_fits, 3, (some .boolean), r_S_fits, ⟨rfl, rfl, by decide, by decide⟩, zm_S_fits, Or.inr ⟨rfl, 2, 4, rfl, l_L_107, sr_S_fits, _, _, rfl⟩⟩
  · exact Or.inr ⟨111, y_M_fits, c_M_fits, 3, (some .boolean), r_M_fits, ⟨rfl, rfl, by decide, by decide⟩, zm_M_fits, Or.inr ⟨rfl, 2, 5, rfl, l_L_111, sr_M_fits, _, _, rfl⟩⟩
  · exact Or.inr ⟨112, y_S_key, c_S_key, 2, (some .boolean), r_S_key, ⟨rfl, rfl, by decide, by decide⟩, zm_S_key, Or.inr ⟨rfl, 1, 4, rfl, l_L_112, sr_S_key, _, _, rfl⟩⟩
  · exact Or.inr ⟨116, y_M_key, c_M_key, 2, (some .boolean), r_M_key, ⟨rfl, rfl, by decide, by decide⟩, zm_M_key, Or.inr ⟨rfl, 1, 5, rfl, l_L_116, sr_M_key, _, _, rfl⟩⟩
  · exact Or.inr ⟨117, y_S_clear, c_S_clear, 2, (some .int), r_S_clear, ⟨rfl, rfl, by decide, by decide⟩, zm_S_clear, Or.inr ⟨rfl, 0, 4, rfl, l_L_117, sr_S_clear, _, _, rfl⟩⟩
  · exact Or.inr ⟨120, y_M_clear, c_M_clear, 2, (some .int), r_M_clear, ⟨rfl, rfl, by decide, by decide⟩, zm_M_clear, Or.inr ⟨rfl, 0, 5, rfl, l_L_120, sr_M_clear, _, _, rfl⟩⟩
  · exact Or.inr ⟨121, y_S_letter, c_S_letter, 2, (some .int), r_S_letter, ⟨rfl, rfl, by decide, by decide⟩, zm_S_letter, Or.inr ⟨rfl, 1, 4, rfl, l_L_121, sr_S_letter, _, _, rfl⟩⟩
  · exact Or.inr ⟨124, y_M_letter, c_M_letter, 2, (some .int), r_M_letter, ⟨rfl, rfl, by decide, by decide⟩, zm_M_letter, Or.inr ⟨rfl, 1, 5, rfl, l_L_124, sr_M_letter, _, _, rfl⟩⟩
  · exact Or.inr ⟨127, y_M_print, c_M_print, 7, (some .int), r_M_print, ⟨rfl, rfl, by decide, by decide⟩, zm_M_print, Or.inr ⟨rfl, 2, 5, rfl, l_L_127, sr_M_print, _, _, rfl⟩⟩
  · exact Or.inr ⟨131, y_M_parse, c_M_parse, 3, (some .int), r_M_parse, ⟨rfl, rfl, by decide, by decide⟩, zm_M_parse, Or.inr ⟨rfl, 1, 5, rfl, l_L_131, sr_M_parse, _, _, rfl⟩⟩
  · exact Or.inr ⟨134, y_M_encode, c_M_encode, 4, (some .int), r_M_encode, ⟨rfl, rfl, by decide, by decide⟩, zm_M_encode, Or.inr ⟨rfl, 1, 5, rfl, l_L_134, sr_M_encode, _, _, rfl⟩⟩
  · exact Or.inr ⟨137, y_M_decode, c_M_decode, 2, (some .int), r_M_decode, ⟨rfl, rfl, by decide, by decide⟩, zm_M_decode, Or.inr ⟨rfl, 0, 5, rfl, l_L_137, sr_M_decode, _, _, rfl⟩⟩
def lald : List Nat := [36, 134, 144, 156, 166, 178, 189, 202, 213, 232, 242, 254, 264, 276, 287, 300, 311, 360, 373, 416, 429, 529, 535, 548, 554, 596, 606, 621, 634, 677, 683, 704, 710, 761, 767, 788, 794, 845, 851, 869, 875, 898, 909, 938, 948, 963, 969, 990, 996, 1047, 1068, 1119, 1132]
set_option maxRecDepth 100000 in
theorem lald_ok : ∀ pc ∈ lald, decode c_L_law pc = .ok (.iaload, 1) := by decide +kernel
def lwr : List (Nat × Nat × zSpec) := [(221, 6, sp_L_push), (362, 3, sp_L_copy), (418, 3, sp_L_swap), (468, 2, sp_L_drop), (537, 4, sp_L_limb), (623, 3, sp_L_wrapping), (693, 4, sp_L_checked), (777, 4, sp_L_nearest), (979, 4, sp_L_print), (1057, 3, sp_L_parse), (1121, 3, sp_L_encode), (1171, 2, sp_L_decode)]
/-- a wrapper's call is right -/
def zWok (pc : Nat) (n : Nat) (S : zSpec) : Prop := ∃ (j : Nat) (y : MethodName) (cc : ByteArray) (nl : Nat) (hh : zHh) (rm : Room), decode c_L_law pc = .ok (.invokestatic j, 3) ∧ (rm.cells = 1 ∧ rm.slots = 6 ∧ rm.frames + 1 ≤ room_1.frames ∧ 8 + (nl + 11) + rm.locals ≤ room_1.locals) ∧ (∀ l : Launch, l.stackTraces = false → ∀ vs σ K, S vs σ K → zMetL l y cc nl (some .int) hh rm vs σ K) ∧
  Cond.codeWith y cc nl (some .int) hh ∈ zwt ∧ Cond.initialized y.cls ∈ zwt ∧ Cond.methodLink "WideWordStackLaw" j y ∈ zwt ∧ Cond.static y ∈ zwt ∧ zMH y n
set_option maxRecDepth 100000 in
theorem lwr_ok : ∀ q ∈ lwr, zWok q.1 q.2.1 q.2.2 := by
  intro q hq
  unfold lwr at hq
  simp only [List.mem_cons, List.not_mem_nil, or_false] at hq
  rcases hq with rfl | rfl | rfl | rfl | rfl | rfl | rfl | rfl | rfl | rfl | rfl | rfl
  · exact ⟨65, y_L_push, c_L_push, 11, hh_L_push, rl_L_push, by decide +kernel, ⟨rfl, rfl, by decide, by decide⟩, zl_L_push, zwi 320 rfl rfl, zwi 51 rfl rfl, zwi 318 rfl rfl, zwi 319 rfl rfl, ⟨by decide +kernel, by decide +kernel, by decide +kernel⟩⟩
  · exact ⟨74, y_L_copy, c_L_copy, 4, hh_L_copy, rl_L_copy, by decide +kernel, ⟨rfl, rfl, by decide, by decide⟩, zl_L_copy, zwi 404 rfl rfl, zwi 51 rfl rfl, zwi 402 rfl rfl, zwi 403 rfl rfl, ⟨by decide +kernel, by decide +kernel, by decide +kernel⟩⟩
  · exact ⟨78, y_L_swap, c_L_swap, 4, hh_L_swap, rl_L_swap, by decide +kernel, ⟨rfl, rfl, by decide, by decide⟩, zl_L_swap, zwi 437 rfl rfl, zwi 51 rfl rfl, zwi 435 rfl rfl, zwi 436 rfl rfl, ⟨by decide +kernel, by decide +kernel, by decide +kernel⟩⟩
  · exact ⟨81, y_L_drop, c_L_drop, 3, hh_L_drop, rl_L_drop, by decide +kernel, ⟨rfl, rfl, by decide, by decide⟩, zl_L_drop, zwi 447 rfl rfl, zwi 51 rfl rfl, zwi 445 rfl rfl, zwi 446 rfl rfl, ⟨by decide +kernel, by decide +kernel, by decide +kernel⟩⟩
  · exact ⟨89, y_L_limb, c_L_limb, 5, hh_L_limb, rl_L_limb, by decide +kernel, ⟨rfl, rfl, by decide, by decide⟩, zl_L_limb, zwi 459 rfl rfl, zwi 51 rfl rfl, zwi 457 rfl rfl, zwi 458 rfl rfl, ⟨by decide +kernel, by decide +kernel, by decide +kernel⟩⟩
  · exact ⟨97, y_L_wrapping, c_L_wrapping, 4, hh_L_wrapping, rl_L_wrapping, by decide +kernel, ⟨rfl, rfl, by decide, by decide⟩, zl_L_wrapping, zwi 470 rfl rfl, zwi 51 rfl rfl, zwi 468 rfl rfl, zwi 469 rfl rfl, ⟨by decide +kernel, by decide +kernel, by decide +kernel⟩⟩
  · exact ⟨100, y_L_checked, c_L_checked, 5, hh_L_checked, rl_L_checked, by decide +kernel, ⟨rfl, rfl, by decide, by decide⟩, zl_L_checked, zwi 598 rfl rfl, zwi 51 rfl rfl, zwi 596 rfl rfl, zwi 597 rfl rfl, ⟨by decide +kernel, by decide +kernel, by decide +kernel⟩⟩
  · exact ⟨104, y_L_nearest, c_L_nearest, 5, hh_L_nearest, rl_L_nearest, by decide +kernel, ⟨rfl, rfl, by decide, by decide⟩, zl_L_nearest, zwi 628 rfl rfl, zwi 51 rfl rfl, zwi 626 rfl rfl, zwi 627 rfl rfl, ⟨by decide +kernel, by decide +kernel, by decide +kernel⟩⟩
  · exact ⟨125, y_L_print, c_L_print, 5, hh_L_print, rl_L_print, by decide +kernel, ⟨rfl, rfl, by decide, by decide⟩, zl_L_print, zwi 646 rfl rfl, zwi 51 rfl rfl, zwi 644 rfl rfl, zwi 645 rfl rfl, ⟨by decide +kernel, by decide +kernel, by decide +kernel⟩⟩
  · exact ⟨128, y_L_parse, c_L_parse, 4, hh_L_parse, rl_L_parse, by decide +kernel, ⟨rfl, rfl, by decide, by decide⟩, zl_L_parse, zwi 677 rfl rfl, zwi 51 rfl rfl, zwi 675 rfl rfl, zwi 676 rfl rfl, ⟨by decide +kernel, by decide +kernel, by decide +kernel⟩⟩
  · exact ⟨132, y_L_encode, c_L_encode, 4, hh_L_encode, rl_L_encode, by decide +kernel, ⟨rfl, rfl, by decide, by decide⟩, zl_L_encode, zwi 705 rfl rfl, zwi 51 rfl rfl, zwi 703 rfl rfl, zwi 704 rfl rfl, ⟨by decide +kernel, by decide +kernel, by decide +kernel⟩⟩
  · exact ⟨135, y_L_decode, c_L_decode, 3, hh_L_decode, rl_L_decode, by decide +kernel, ⟨rfl, rfl, by decide, by decide⟩, zl_L_decode, zwi 719 rfl rfl, zwi 51 rfl rfl, zwi 717 rfl rfl, zwi 718 rfl rfl, ⟨by decide +kernel, by decide +kernel, by decide +kernel⟩⟩
