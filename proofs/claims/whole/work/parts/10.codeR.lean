def t_JA_fill_0 : List Instr := [.iconst 0, .istore_n 3, .aload_n 0, .arraylength, .istore 4, .nop]
def t_JA_fill_6 : List Instr := [.iload_n 3, .iload 4, .if_icmp .ge 13, .aload_n 0, .iload_n 3, .lload_n 1, .lastore, .iinc 3 1, .goto (-13)]
def t_JA_fill_22 : List Instr := [.return_]
def d_JA_fill : Nat → List Instr := fun pc => match pc with
  | 0 => t_JA_fill_0
  | 6 => t_JA_fill_6
  | 22 => t_JA_fill_22
  | _ => []
theorem d_JA_fill_0 : d_JA_fill 0 = t_JA_fill_0 := rfl
theorem d_JA_fill_6 : d_JA_fill 6 = t_JA_fill_6 := rfl
theorem d_JA_fill_22 : d_JA_fill 22 = t_JA_fill_22 := rfl
set_option maxRecDepth 100000 in
theorem k_JA_fill : ∀ pc, zok c_JA_fill 5 pc (d_JA_fill pc) = true := by
  intro pc
  unfold d_JA_fill
  split
  · decide +kernel
  · decide +kernel
  · decide +kernel
  · rfl
def t_JL_numberOfLeadingZeros_0 : List Instr := [.lload_n 0, .bipush 32, .lushr, .l2i, .istore_n 2, .iload_n 2, .ifCond .ne 14, .bipush 32, .lload_n 0, .l2i, .invokestatic 308, .iadd, .goto 7]
def t_JL_numberOfLeadingZeros_21 : List Instr := [.iload_n 2, .invokestatic 308, .ireturn]
def t_JL_numberOfLeadingZeros_25 : List Instr := [.ireturn]
def d_JL_numberOfLeadingZeros : Nat → List Instr := fun pc => match pc with
  | 0 => t_JL_numberOfLeadingZeros_0
  | 21 => t_JL_numberOfLeadingZeros_21
  | 25 => t_JL_numberOfLeadingZeros_25
  | _ => []
theorem d_JL_numberOfLeadingZeros_0 : d_JL_numberOfLeadingZeros 0 = t_JL_numberOfLeadingZeros_0 := rfl
theorem d_JL_numberOfLeadingZeros_21 : d_JL_numberOfLeadingZeros 21 = t_JL_numberOfLeadingZeros_21 := rfl
theorem d_JL_numberOfLeadingZeros_25 : d_JL_numberOfLeadingZeros 25 = t_JL_numberOfLeadingZeros_25 := rfl
set_option maxRecDepth 100000 in
theorem k_JL_numberOfLeadingZeros : ∀ pc, zok c_JL_numberOfLeadingZeros 3 pc (d_JL_numberOfLeadingZeros pc) = true := by
  intro pc
  unfold d_JL_numberOfLeadingZeros
  split
  · decide +kernel
  · decide +kernel
  · decide +kernel
  · rfl
def t_JI_numberOfLeadingZeros_0 : List Instr := [.iload_n 0, .ifCond .gt 14, .iload_n 0, .ifCond .ne 8, .bipush 32, .goto 4]
def t_JI_numberOfLeadingZeros_13 : List Instr := [.iconst 0, .ireturn]
def t_JI_numberOfLeadingZeros_14 : List Instr := [.ireturn]
def t_JI_numberOfLeadingZeros_15 : List Instr := [.bipush 31, .istore_n 1, .iload_n 0, .ldc_w 264, .if_icmp .lt 11, .iinc 1 (-16), .iload_n 0, .bipush 16, .iushr, .istore_n 0, .nop]
def t_JI_numberOfLeadingZeros_33 : List Instr := [.iload_n 0, .sipush 256, .if_icmp .lt 11, .iinc 1 (-8), .iload_n 0, .bipush 8, .iushr, .istore_n 0, .nop]
def t_JI_numberOfLeadingZeros_48 : List Instr := [.iload_n 0, .bipush 16, .if_icmp .lt 10, .iinc 1 (-4), .iload_n 0, .iconst 4, .iushr, .istore_n 0, .nop]
def t_JI_numberOfLeadingZeros_61 : List Instr := [.iload_n 0, .iconst 4, .if_icmp .lt 10, .iinc 1 (-2), .iload_n 0, .iconst 2, .iushr, .istore_n 0, .nop]
def t_JI_numberOfLeadingZeros_73 : List Instr := [.iload_n 1, .iload_n 0, .iconst 1, .iushr, .isub, .ireturn]
def d_JI_numberOfLeadingZeros : Nat → List Instr := fun pc => match pc with
  | 0 => t_JI_numberOfLeadingZeros_0
  | 13 => t_JI_numberOfLeadingZeros_13
  | 14 => t_JI_numberOfLeadingZeros_14
  | 15 => t_JI_numberOfLeadingZeros_15
  | 33 => t_JI_numberOfLeadingZeros_33
  | 48 => t_JI_numberOfLeadingZeros_48
  | 61 => t_JI_numberOfLeadingZeros_61
  | 73 => t_JI_numberOfLeadingZeros_73
  | _ => []
theorem d_JI_numberOfLeadingZeros_0 : d_JI_numberOfLeadingZeros 0 = t_JI_numberOfLeadingZeros_0 := rfl
theorem d_JI_numberOfLeadingZeros_13 : d_JI_numberOfLeadingZeros 13 = t_JI_numberOfLeadingZeros_13 := rfl
theorem d_JI_numberOfLeadingZeros_14 : d_JI_numberOfLeadingZeros 14 = t_JI_numberOfLeadingZeros_14 := rfl
theorem d_JI_numberOfLeadingZeros_15 : d_JI_numberOfLeadingZeros 15 = t_JI_numberOfLeadingZeros_15 := rfl
theorem d_JI_numberOfLeadingZeros_33 : d_JI_numberOfLeadingZeros 33 = t_JI_numberOfLeadingZeros_33 := rfl
theorem d_JI_numberOfLeadingZeros_48 : d_JI_numberOfLeadingZeros 48 = t_JI_numberOfLeadingZeros_48 := rfl
theorem d_JI_numberOfLeadingZeros_61 : d_JI_numberOfLeadingZeros 61 = t_JI_numberOfLeadingZeros_61 := rfl
theorem d_JI_numberOfLeadingZeros_73 : d_JI_numberOfLeadingZeros 73 = t_JI_numberOfLeadingZeros_73 := rfl
set_option maxRecDepth 100000 in
theorem k_JI_numberOfLeadingZeros : ∀ pc, zok c_JI_numberOfLeadingZeros 2 pc (d_JI_numberOfLeadingZeros pc) = true := by
  intro pc
  unfold d_JI_numberOfLeadingZeros
  split
  · decide +kernel
  · decide +kernel
  · decide +kernel
  · decide +kernel
  · decide +kernel
  · decide +kernel
  · decide +kernel
  · decide +kernel
  · rfl
def t_JM_floorDiv_0 : List Instr := [.iload_n 0, .iload_n 1, .idiv, .istore_n 2, .iload_n 0, .iload_n 1, .ixor, .ifCond .ge 14, .iload_n 2, .iload_n 1, .imul, .iload_n 0, .if_icmp .eq 7, .iload_n 2, .iconst 1, .isub, .ireturn]
def t_JM_floorDiv_21 : List Instr := [.iload_n 2, .ireturn]
def d_JM_floorDiv : Nat → List Instr := fun pc => match pc with
  | 0 => t_JM_floorDiv_0
  | 21 => t_JM_floorDiv_21
  | _ => []
theorem d_JM_floorDiv_0 : d_JM_floorDiv 0 = t_JM_floorDiv_0 := rfl
theorem d_JM_floorDiv_21 : d_JM_floorDiv 21 = t_JM_floorDiv_21 := rfl
set_option maxRecDepth 100000 in
theorem k_JM_floorDiv : ∀ pc, zok c_JM_floorDiv 3 pc (d_JM_floorDiv pc) = true := by
  intro pc
  unfold d_JM_floorDiv
  split
  · decide +kernel
  · decide +kernel
  · rfl
def t_JM_floorMod_0 : List Instr := [.iload_n 0, .iload_n 1, .irem, .istore_n 2, .iload_n 0, .iload_n 1, .ixor, .ifCond .ge 11, .iload_n 2, .ifCond .eq 7, .iload_n 2, .iload_n 1, .iadd, .ireturn]
def t_JM_floorMod_18 : List Instr := [.iload_n 2, .ireturn]
def d_JM_floorMod : Nat → List Instr := fun pc => match pc with
  | 0 => t_JM_floorMod_0
  | 18 => t_JM_floorMod_18
  | _ => []
theorem d_JM_floorMod_0 : d_JM_floorMod 0 = t_JM_floorMod_0 := rfl
theorem d_JM_floorMod_18 : d_JM_floorMod 18 = t_JM_floorMod_18 := rfl
set_option maxRecDepth 100000 in
theorem k_JM_floorMod : ∀ pc, zok c_JM_floorMod 3 pc (d_JM_floorMod pc) = true := by
  intro pc
  unfold d_JM_floorMod
  split
  · decide +kernel
  · decide +kernel
  · rfl
def t_JM_max_0 : List Instr := [.iload_n 0, .iload_n 1, .if_icmp .lt 7, .iload_n 0, .goto 4]
def t_JM_max_9 : List Instr := [.iload_n 1, .ireturn]
def t_JM_max_10 : List Instr := [.ireturn]
def d_JM_max : Nat → List Instr := fun pc => match pc with
  | 0 => t_JM_max_0
  | 9 => t_JM_max_9
  | 10 => t_JM_max_10
  | _ => []
theorem d_JM_max_0 : d_JM_max 0 = t_JM_max_0 := rfl
theorem d_JM_max_9 : d_JM_max 9 = t_JM_max_9 := rfl
theorem d_JM_max_10 : d_JM_max 10 = t_JM_max_10 := rfl
set_option maxRecDepth 100000 in
theorem k_JM_max : ∀ pc, zok c_JM_max 2 pc (d_JM_max pc) = true := by
  intro pc
  unfold d_JM_max
  split
  · decide +kernel
  · decide +kernel
  · decide +kernel
  · rfl
def t_R_bitLength_0 : List Instr := [.aload_n 0, .arraylength, .iconst 1, .isub, .istore_n 1, .nop]
def t_R_bitLength_5 : List Instr := [.iload_n 1, .ifCond .lt 32, .aload_n 0, .iload_n 1, .laload, .lconst 0, .lcmp, .ifCond .eq 18, .bipush 32, .iload_n 1, .imul, .bipush 64, .iadd, .aload_n 0, .iload_n 1, .laload, .invokestatic 25, .isub, .ireturn]
def t_R_bitLength_32 : List Instr := [.iinc 1 (-1), .goto (-30)]
def t_R_bitLength_38 : List Instr := [.iconst 0, .ireturn]
def d_R_bitLength : Nat → List Instr := fun pc => match pc with
  | 0 => t_R_bitLength_0
  | 5 => t_R_bitLength_5
  | 32 => t_R_bitLength_32
  | 38 => t_R_bitLength_38
  | _ => []
theorem d_R_bitLength_0 : d_R_bitLength 0 = t_R_bitLength_0 := rfl
theorem d_R_bitLength_5 : d_R_bitLength 5 = t_R_bitLength_5 := rfl
theorem d_R_bitLength_32 : d_R_bitLength 32 = t_R_bitLength_32 := rfl
theorem d_R_bitLength_38 : d_R_bitLength 38 = t_R_bitLength_38 := rfl
set_option maxRecDepth 100000 in
theorem k_R_bitLength : ∀ pc, zok c_R_bitLength 2 pc (d_R_bitLength pc) = true := by
  intro pc
  unfold d_R_bitLength
  split
  · decide +kernel
  · decide +kernel
  · decide +kernel
  · decide +kernel
  · rfl
def t_R_assign_0 : List Instr := [.aload_n 1, .iconst 0, .aload_n 0, .iconst 0, .bipush 8, .invokestatic 9, .return_]
def d_R_assign : Nat → List Instr := fun pc => match pc with
  | 0 => t_R_assign_0
  | _ => []
theorem d_R_assign_0 : d_R_assign 0 = t_R_assign_0 := rfl
set_option maxRecDepth 100000 in
theorem k_R_assign : ∀ pc, zok c_R_assign 2 pc (d_R_assign pc) = true := by
  intro pc
  unfold d_R_assign
  split
  · decide +kernel
  · rfl
def t_R_isNegative_0 : List Instr := [.aload_n 0, .bipush 7, .laload, .ldc2_w 23, .lcmp, .ifCond .lt 7, .iconst 1, .goto 4]
def t_R_isNegative_15 : List Instr := [.iconst 0, .ireturn]
def t_R_isNegative_16 : List Instr := [.ireturn]
def d_R_isNegative : Nat → List Instr := fun pc => match pc with
  | 0 => t_R_isNegative_0
  | 15 => t_R_isNegative_15
  | 16 => t_R_isNegative_16
  | _ => []
theorem d_R_isNegative_0 : d_R_isNegative 0 = t_R_isNegative_0 := rfl
theorem d_R_isNegative_15 : d_R_isNegative 15 = t_R_isNegative_15 := rfl
theorem d_R_isNegative_16 : d_R_isNegative 16 = t_R_isNegative_16 := rfl
set_option maxRecDepth 100000 in
theorem k_R_isNegative : ∀ pc, zok c_R_isNegative 1 pc (d_R_isNegative pc) = true := by
  intro pc
  unfold d_R_isNegative
  split
  · decide +kernel
  · decide +kernel
  · decide +kernel
  · rfl
def t_R_negateWord_0 : List Instr := [.lconst 1, .lstore_n 1, .iconst 0, .istore_n 3, .nop]
def t_R_negateWord_4 : List Instr := [.iload_n 3, .bipush 8, .if_icmp .ge 35, .aload_n 0, .iload_n 3, .laload, .ldc2_w 21, .lxor, .lload_n 1, .ladd, .lstore 4, .aload_n 0, .iload_n 3, .lload 4, .ldc2_w 21, .land, .lastore, .lload 4, .bipush 32, .lushr, .lstore_n 1, .iinc 3 1, .goto (-35)]
def t_R_negateWord_42 : List Instr := [.return_]
def d_R_negateWord : Nat → List Instr := fun pc => match pc with
  | 0 => t_R_negateWord_0
  | 4 => t_R_negateWord_4
  | 42 => t_R_negateWord_42
  | _ => []
theorem d_R_negateWord_0 : d_R_negateWord 0 = t_R_negateWord_0 := rfl
theorem d_R_negateWord_4 : d_R_negateWord 4 = t_R_negateWord_4 := rfl
theorem d_R_negateWord_42 : d_R_negateWord 42 = t_R_negateWord_42 := rfl
set_option maxRecDepth 100000 in
theorem k_R_negateWord : ∀ pc, zok c_R_negateWord 6 pc (d_R_negateWord pc) = true := by
  intro pc
  unfold d_R_negateWord
  split
  · decide +kernel
  · decide +kernel
  · decide +kernel
  · rfl
def t_R_add_0 : List Instr := [.lconst 0, .lstore_n 3, .iconst 0, .istore 5, .nop]
def t_R_add_5 : List Instr := [.iload 5, .aload_n 2, .arraylength, .if_icmp .ge 38, .aload_n 0, .iload 5, .laload, .aload_n 1, .iload 5, .laload, .ladd, .lload_n 3, .ladd, .lstore 6, .aload_n 2, .iload 5, .lload 6, .ldc2_w 21, .land, .lastore, .lload 6, .bipush 32, .lushr, .lstore_n 3, .iinc 5 1, .goto (-39)]
def t_R_add_47 : List Instr := [.return_]
def d_R_add : Nat → List Instr := fun pc => match pc with
  | 0 => t_R_add_0
  | 5 => t_R_add_5
  | 47 => t_R_add_47
  | _ => []
theorem d_R_add_0 : d_R_add 0 = t_R_add_0 := rfl
theorem d_R_add_5 : d_R_add 5 = t_R_add_5 := rfl
theorem d_R_add_47 : d_R_add 47 = t_R_add_47 := rfl
set_option maxRecDepth 100000 in
theorem k_R_add : ∀ pc, zok c_R_add 8 pc (d_R_add pc) = true := by
  intro pc
  unfold d_R_add
  split
  · decide +kernel
  · decide +kernel
  · decide +kernel
  · rfl
def t_R_isZero_0 : List Instr := [.iconst 0, .istore_n 1, .nop]
def t_R_isZero_2 : List Instr := [.iload_n 1, .aload_n 0, .arraylength, .if_icmp .ge 19, .aload_n 0, .iload_n 1, .laload, .lconst 0, .lcmp, .ifCond .eq 5, .iconst 0, .ireturn]
def t_R_isZero_18 : List Instr := [.iinc 1 1, .goto (-19)]
def t_R_isZero_24 : List Instr := [.iconst 1, .ireturn]
def d_R_isZero : Nat → List Instr := fun pc => match pc with
  | 0 => t_R_isZero_0
  | 2 => t_R_isZero_2
  | 18 => t_R_isZero_18
  | 24 => t_R_isZero_24
  | _ => []
theorem d_R_isZero_0 : d_R_isZero 0 = t_R_isZero_0 := rfl
theorem d_R_isZero_2 : d_R_isZero 2 = t_R_isZero_2 := rfl
theorem d_R_isZero_18 : d_R_isZero 18 = t_R_isZero_18 := rfl
theorem d_R_isZero_24 : d_R_isZero 24 = t_R_isZero_24 := rfl
set_option maxRecDepth 100000 in
theorem k_R_isZero : ∀ pc, zok c_R_isZero 2 pc (d_R_isZero pc) = true := by
  intro pc
  unfold d_R_isZero
  split
  · decide +kernel
  · decide +kernel
  · decide +kernel
  · decide +kernel
  · rfl
def t_R_compareRows_0 : List Instr := [.aload_n 0, .arraylength, .iconst 1, .isub, .istore_n 2, .nop]
def t_R_compareRows_5 : List Instr := [.iload_n 2, .ifCond .lt 35, .aload_n 0, .iload_n 2, .laload, .aload_n 1, .iload_n 2, .laload, .lcmp, .ifCond .eq 19, .aload_n 0, .iload_n 2, .laload, .aload_n 1, .iload_n 2, .laload, .lcmp, .ifCond .ge 7, .iconst (-1), .goto 4]
def t_R_compareRows_33 : List Instr := [.iconst 1, .ireturn]
def t_R_compareRows_34 : List Instr := [.ireturn]
def t_R_compareRows_35 : List Instr := [.iinc 2 (-1), .goto (-33)]
def t_R_compareRows_41 : List Instr := [.iconst 0, .ireturn]
def d_R_compareRows : Nat → List Instr := fun pc => match pc with
  | 0 => t_R_compareRows_0
  | 5 => t_R_compareRows_5
  | 33 => t_R_compareRows_33
  | 34 => t_R_compareRows_34
  | 35 => t_R_compareRows_35
  | 41 => t_R_compareRows_41
  | _ => []
theorem d_R_compareRows_0 : d_R_compareRows 0 = t_R_compareRows_0 := rfl
theorem d_R_compareRows_5 : d_R_compareRows 5 = t_R_compareRows_5 := rfl
theorem d_R_compareRows_33 : d_R_compareRows 33 = t_R_compareRows_33 := rfl
theorem d_R_compareRows_34 : d_R_compareRows 34 = t_R_compareRows_34 := rfl
theorem d_R_compareRows_35 : d_R_compareRows 35 = t_R_compareRows_35 := rfl
theorem d_R_compareRows_41 : d_R_compareRows 41 = t_R_compareRows_41 := rfl
set_option maxRecDepth 100000 in
theorem k_R_compareRows : ∀ pc, zok c_R_compareRows 3 pc (d_R_compareRows pc) = true := by
  intro pc
  unfold d_R_compareRows
  split
  · decide +kernel
  · decide +kernel
  · decide +kernel
  · decide +kernel
  · decide +kernel
  · decide +kernel
  · rfl
def t_R_subtract_0 : List Instr := [.lconst 0, .lstore_n 3, .iconst 0, .istore 5, .nop]
def t_R_subtract_5 : List Instr := [.iload 5, .aload_n 2, .arraylength, .if_icmp .ge 45, .aload_n 0, .iload 5, .laload, .aload_n 1, .iload 5, .laload, .lsub, .lload_n 3, .lsub, .lstore 6, .aload_n 2, .iload 5, .lload 6, .ldc2_w 21, .land, .lastore, .lload 6, .lconst 0, .lcmp, .ifCond .ge 7, .lconst 1, .goto 4]
def t_R_subtract_46 : List Instr := [.lconst 0, .nop]
def t_R_subtract_47 : List Instr := [.lstore_n 3, .iinc 5 1, .goto (-46)]
def t_R_subtract_54 : List Instr := [.return_]
def d_R_subtract : Nat → List Instr := fun pc => match pc with
  | 0 => t_R_subtract_0
  | 5 => t_R_subtract_5
  | 46 => t_R_subtract_46
  | 47 => t_R_subtract_47
  | 54 => t_R_subtract_54
  | _ => []
theorem d_R_subtract_0 : d_R_subtract 0 = t_R_subtract_0 := rfl
theorem d_R_subtract_5 : d_R_subtract 5 = t_R_subtract_5 := rfl
theorem d_R_subtract_46 : d_R_subtract 46 = t_R_subtract_46 := rfl
theorem d_R_subtract_47 : d_R_subtract 47 = t_R_subtract_47 := rfl
theorem d_R_subtract_54 : d_R_subtract 54 = t_R_subtract_54 := rfl
set_option maxRecDepth 100000 in
theorem k_R_subtract : ∀ pc, zok c_R_subtract 8 pc (d_R_subtract pc) = true := by
  intro pc
  unfold d_R_subtract
  split
  · decide +kernel
  · decide +kernel
  · decide +kernel
  · decide +kernel
  · decide +kernel
  · rfl
def t_R_multiply_0 : List Instr := [.aload_n 2, .lconst 0, .invokestatic 15, .iconst 0, .istore_n 3, .nop]
def t_R_multiply_7 : List Instr := [.iload_n 3, .aload_n 2, .arraylength, .if_icmp .ge 69, .lconst 0, .lstore 4, .iconst 0, .istore 6, .nop]
def t_R_multiply_19 : List Instr := [.iload_n 3, .iload 6, .iadd, .aload_n 2, .arraylength, .if_icmp .ge 48, .aload_n 0, .iload_n 3, .laload, .aload_n 1, .iload 6, .laload, .lmul, .aload_n 2, .iload_n 3, .iload 6, .iadd, .laload, .ladd, .lload 4, .ladd, .lstore 7, .aload_n 2, .iload_n 3, .iload 6, .iadd, .lload 7, .ldc2_w 21, .land, .lastore, .lload 7, .bipush 32, .lushr, .lstore 4, .iinc 6 1, .goto (-51)]
def t_R_multiply_73 : List Instr := [.iinc 3 1, .goto (-69)]
def t_R_multiply_79 : List Instr := [.return_]
def d_R_multiply : Nat → List Instr := fun pc => match pc with
  | 0 => t_R_multiply_0
  | 7 => t_R_multiply_7
  | 19 => t_R_multiply_19
  | 73 => t_R_multiply_73
  | 79 => t_R_multiply_79
  | _ => []
theorem d_R_multiply_0 : d_R_multiply 0 = t_R_multiply_0 := rfl
theorem d_R_multiply_7 : d_R_multiply 7 = t_R_multiply_7 := rfl
theorem d_R_multiply_19 : d_R_multiply 19 = t_R_multiply_19 := rfl
theorem d_R_multiply_73 : d_R_multiply 73 = t_R_multiply_73 := rfl
theorem d_R_multiply_79 : d_R_multiply 79 = t_R_multiply_79 := rfl
set_option maxRecDepth 100000 in
theorem k_R_multiply : ∀ pc, zok c_R_multiply 9 pc (d_R_multiply pc) = true := by
  intro pc
  unfold d_R_multiply
  split
  · decide +kernel
  · decide +kernel
  · decide +kernel
  · decide +kernel
  · decide +kernel
  · rfl
def t_R_divide_0 : List Instr := [.aload_n 2, .lconst 0, .invokestatic 15, .aload_n 3, .lconst 0, .invokestatic 15, .aload_n 1, .invokestatic 43, .ifCond .eq 5, .iconst 0, .ireturn]
def t_R_divide_19 : List Instr := [.aload_n 0, .invokestatic 46, .iconst 1, .isub, .istore 4, .nop]
def t_R_divide_27 : List Instr := [.iload 4, .ifCond .lt 54, .aload_n 3, .ldc2_w 50, .aload_n 0, .iload 4, .invokestatic 52, .invokestatic 56, .pop2, .aload_n 3, .aload_n 1, .invokestatic 39, .ifCond .lt 26, .aload_n 3, .aload_n 1, .aload_n 3, .invokestatic 60, .aload_n 2, .iload 4, .bipush 32, .idiv, .dup2, .laload, .lconst 1, .iload 4, .bipush 32, .irem, .lshl, .lor, .lastore, .nop]
def t_R_divide_77 : List Instr := [.iinc 4 (-1), .goto (-53)]
def t_R_divide_83 : List Instr := [.iconst 1, .ireturn]
def d_R_divide : Nat → List Instr := fun pc => match pc with
  | 0 => t_R_divide_0
  | 19 => t_R_divide_19
  | 27 => t_R_divide_27
  | 77 => t_R_divide_77
  | 83 => t_R_divide_83
  | _ => []
theorem d_R_divide_0 : d_R_divide 0 = t_R_divide_0 := rfl
theorem d_R_divide_19 : d_R_divide 19 = t_R_divide_19 := rfl
theorem d_R_divide_27 : d_R_divide 27 = t_R_divide_27 := rfl
theorem d_R_divide_77 : d_R_divide 77 = t_R_divide_77 := rfl
theorem d_R_divide_83 : d_R_divide 83 = t_R_divide_83 := rfl
set_option maxRecDepth 100000 in
theorem k_R_divide : ∀ pc, zok c_R_divide 5 pc (d_R_divide pc) = true := by
  intro pc
  unfold d_R_divide
  split
  · decide +kernel
  · decide +kernel
  · decide +kernel
  · decide +kernel
  · decide +kernel
  · rfl
def t_R_bitAt_0 : List Instr := [.aload_n 0, .iload_n 1, .bipush 32, .idiv, .laload, .iload_n 1, .bipush 32, .irem, .lushr, .lconst 1, .land, .lreturn]
def d_R_bitAt : Nat → List Instr := fun pc => match pc with
  | 0 => t_R_bitAt_0
  | _ => []
theorem d_R_bitAt_0 : d_R_bitAt 0 = t_R_bitAt_0 := rfl
set_option maxRecDepth 100000 in
theorem k_R_bitAt : ∀ pc, zok c_R_bitAt 2 pc (d_R_bitAt pc) = true := by
  intro pc
  unfold d_R_bitAt
  split
  · decide +kernel
  · rfl
def t_R_multiplyAdd_0 : List Instr := [.lload_n 3, .lstore 5, .iconst 0, .istore 7, .nop]
def t_R_multiplyAdd_6 : List Instr := [.iload 7, .aload_n 0, .arraylength, .if_icmp .ge 37, .aload_n 0, .iload 7, .laload, .lload_n 1, .lmul, .lload 5, .ladd, .lstore 8, .aload_n 0, .iload 7, .lload 8, .ldc2_w 21, .land, .lastore, .lload 8, .bipush 32, .lushr, .lstore 5, .iinc 7 1, .goto (-38)]
def t_R_multiplyAdd_47 : List Instr := [.lload 5, .lreturn]
def d_R_multiplyAdd : Nat → List Instr := fun pc => match pc with
  | 0 => t_R_multiplyAdd_0
  | 6 => t_R_multiplyAdd_6
  | 47 => t_R_multiplyAdd_47
  | _ => []
theorem d_R_multiplyAdd_0 : d_R_multiplyAdd 0 = t_R_multiplyAdd_0 := rfl
theorem d_R_multiplyAdd_6 : d_R_multiplyAdd 6 = t_R_multiplyAdd_6 := rfl
theorem d_R_multiplyAdd_47 : d_R_multiplyAdd 47 = t_R_multiplyAdd_47 := rfl
set_option maxRecDepth 100000 in
theorem k_R_multiplyAdd : ∀ pc, zok c_R_multiplyAdd 10 pc (d_R_multiplyAdd pc) = true := by
  intro pc
  unfold d_R_multiplyAdd
  split
  · decide +kernel
  · decide +kernel
  · decide +kernel
  · rfl
def t_R_setLimb_0 : List Instr := [.bipush 6, .iconst 2, .iload_n 1, .imul, .isub, .istore 4, .aload_n 0, .iload 4, .lload_n 2, .ldc2_w 21, .land, .lastore, .aload_n 0, .iload 4, .iconst 1, .iadd, .lload_n 2, .bipush 32, .lushr, .lastore, .return_]
def d_R_setLimb : Nat → List Instr := fun pc => match pc with
  | 0 => t_R_setLimb_0
  | _ => []
theorem d_R_setLimb_0 : d_R_setLimb 0 = t_R_setLimb_0 := rfl
set_option maxRecDepth 100000 in
theorem k_R_setLimb : ∀ pc, zok c_R_setLimb 5 pc (d_R_setLimb pc) = true := by
  intro pc
  unfold d_R_setLimb
  split
  · decide +kernel
  · rfl
def t_R_exchange_0 : List Instr := [.iconst 0, .istore_n 2, .nop]
def t_R_exchange_2 : List Instr := [.iload_n 2, .bipush 8, .if_icmp .ge 23, .aload_n 0, .iload_n 2, .laload, .lstore_n 3, .aload_n 0, .iload_n 2, .aload_n 1, .iload_n 2, .laload, .lastore, .aload_n 1, .iload_n 2, .lload_n 3, .lastore, .iinc 2 1, .goto (-23)]
def t_R_exchange_28 : List Instr := [.return_]
def d_R_exchange : Nat → List Instr := fun pc => match pc with
  | 0 => t_R_exchange_0
  | 2 => t_R_exchange_2
  | 28 => t_R_exchange_28
  | _ => []
theorem d_R_exchange_0 : d_R_exchange 0 = t_R_exchange_0 := rfl
theorem d_R_exchange_2 : d_R_exchange 2 = t_R_exchange_2 := rfl
theorem d_R_exchange_28 : d_R_exchange 28 = t_R_exchange_28 := rfl
set_option maxRecDepth 100000 in
theorem k_R_exchange : ∀ pc, zok c_R_exchange 5 pc (d_R_exchange pc) = true := by
  intro pc
  unfold d_R_exchange
  split
  · decide +kernel
  · decide +kernel
  · decide +kernel
  · rfl
def t_R_limbOf_0 : List Instr := [.bipush 6, .iconst 2, .iload_n 1, .imul, .isub, .istore_n 2, .aload_n 0, .iload_n 2, .iconst 1, .iadd, .laload, .bipush 32, .lshl, .aload_n 0, .iload_n 2, .laload, .lor, .lreturn]
def d_R_limbOf : Nat → List Instr := fun pc => match pc with
  | 0 => t_R_limbOf_0
  | _ => []
theorem d_R_limbOf_0 : d_R_limbOf 0 = t_R_limbOf_0 := rfl
set_option maxRecDepth 100000 in
theorem k_R_limbOf : ∀ pc, zok c_R_limbOf 3 pc (d_R_limbOf pc) = true := by
  intro pc
  unfold d_R_limbOf
  split
  · decide +kernel
  · rfl
def t_R_setSmall_0 : List Instr := [.aload_n 0, .lconst 0, .invokestatic 15, .aload_n 0, .iconst 0, .lload_n 1, .lastore, .return_]
def d_R_setSmall : Nat → List Instr := fun pc => match pc with
  | 0 => t_R_setSmall_0
  | _ => []
theorem d_R_setSmall_0 : d_R_setSmall 0 = t_R_setSmall_0 := rfl
set_option maxRecDepth 100000 in
theorem k_R_setSmall : ∀ pc, zok c_R_setSmall 3 pc (d_R_setSmall pc) = true := by
  intro pc
  unfold d_R_setSmall
  split
  · decide +kernel
  · rfl
def t_R_compareSigned_0 : List Instr := [.aload_n 0, .invokestatic 35, .aload_n 1, .invokestatic 35, .if_icmp .eq 16, .aload_n 0, .invokestatic 35, .ifCond .eq 7, .iconst (-1), .goto 4]
def t_R_compareSigned_22 : List Instr := [.iconst 1, .ireturn]
def t_R_compareSigned_23 : List Instr := [.ireturn]
def t_R_compareSigned_24 : List Instr := [.aload_n 0, .aload_n 1, .invokestatic 39, .ireturn]
def d_R_compareSigned : Nat → List Instr := fun pc => match pc with
  | 0 => t_R_compareSigned_0
  | 22 => t_R_compareSigned_22
  | 23 => t_R_compareSigned_23
  | 24 => t_R_compareSigned_24
  | _ => []
theorem d_R_compareSigned_0 : d_R_compareSigned 0 = t_R_compareSigned_0 := rfl
theorem d_R_compareSigned_22 : d_R_compareSigned 22 = t_R_compareSigned_22 := rfl
theorem d_R_compareSigned_23 : d_R_compareSigned 23 = t_R_compareSigned_23 := rfl
theorem d_R_compareSigned_24 : d_R_compareSigned 24 = t_R_compareSigned_24 := rfl
set_option maxRecDepth 100000 in
theorem k_R_compareSigned : ∀ pc, zok c_R_compareSigned 2 pc (d_R_compareSigned pc) = true := by
  intro pc
  unfold d_R_compareSigned
  split
  · decide +kernel
  · decide +kernel
  · decide +kernel
  · decide +kernel
  · rfl
def t_R_atMost_0 : List Instr := [.iconst 1, .istore_n 2, .nop]
def t_R_atMost_2 : List Instr := [.iload_n 2, .aload_n 0, .arraylength, .if_icmp .ge 19, .aload_n 0, .iload_n 2, .laload, .lconst 0, .lcmp, .ifCond .eq 5, .iload_n 1, .ireturn]
def t_R_atMost_18 : List Instr := [.iinc 2 1, .goto (-19)]
def t_R_atMost_24 : List Instr := [.aload_n 0, .iconst 0, .laload, .iload_n 1, .i2l, .lcmp, .ifCond .ge 10, .aload_n 0, .iconst 0, .laload, .l2i, .goto 4]
def t_R_atMost_40 : List Instr := [.iload_n 1, .ireturn]
def t_R_atMost_41 : List Instr := [.ireturn]
def d_R_atMost : Nat → List Instr := fun pc => match pc with
  | 0 => t_R_atMost_0
  | 2 => t_R_atMost_2
  | 18 => t_R_atMost_18
  | 24 => t_R_atMost_24
  | 40 => t_R_atMost_40
  | 41 => t_R_atMost_41
  | _ => []
theorem d_R_atMost_0 : d_R_atMost 0 = t_R_atMost_0 := rfl
theorem d_R_atMost_2 : d_R_atMost 2 = t_R_atMost_2 := rfl
theorem d_R_atMost_18 : d_R_atMost 18 = t_R_atMost_18 := rfl
theorem d_R_atMost_24 : d_R_atMost 24 = t_R_atMost_24 := rfl
theorem d_R_atMost_40 : d_R_atMost 40 = t_R_atMost_40 := rfl
theorem d_R_atMost_41 : d_R_atMost 41 = t_R_atMost_41 := rfl
set_option maxRecDepth 100000 in
theorem k_R_atMost : ∀ pc, zok c_R_atMost 3 pc (d_R_atMost pc) = true := by
  intro pc
  unfold d_R_atMost
  split
  · decide +kernel
  · decide +kernel
  · decide +kernel
  · decide +kernel
  · decide +kernel
  · decide +kernel
  · rfl
def t_R_shiftDown_0 : List Instr := [.iconst 0, .istore 5, .nop]
def t_R_shiftDown_3 : List Instr := [.iload 5, .bipush 8, .if_icmp .ge 72, .bipush 32, .iload 5, .imul, .iload_n 1, .iadd, .istore 6, .iload 6, .bipush 32, .invokestatic 66, .istore 7, .aload_n 0, .iload 7, .lload_n 2, .invokestatic 72, .lstore 8, .aload_n 0, .iload 7, .iconst 1, .iadd, .lload_n 2, .invokestatic 72, .lstore 10, .aload 4, .iload 5, .lload 10, .bipush 32, .lshl, .lload 8, .lor, .iload 6, .bipush 32, .invokestatic 76, .lushr, .ldc2_w 21, .land, .lastore, .iinc 5 1, .goto (-73)]
def t_R_shiftDown_79 : List Instr := [.return_]
def d_R_shiftDown : Nat → List Instr := fun pc => match pc with
  | 0 => t_R_shiftDown_0
  | 3 => t_R_shiftDown_3
  | 79 => t_R_shiftDown_79
  | _ => []
theorem d_R_shiftDown_0 : d_R_shiftDown 0 = t_R_shiftDown_0 := rfl
theorem d_R_shiftDown_3 : d_R_shiftDown 3 = t_R_shiftDown_3 := rfl
theorem d_R_shiftDown_79 : d_R_shiftDown 79 = t_R_shiftDown_79 := rfl
set_option maxRecDepth 100000 in
theorem k_R_shiftDown : ∀ pc, zok c_R_shiftDown 12 pc (d_R_shiftDown pc) = true := by
  intro pc
  unfold d_R_shiftDown
  split
  · decide +kernel
  · decide +kernel
  · decide +kernel
  · rfl
def t_R_digitOr_0 : List Instr := [.iload_n 1, .ifCond .ge 5, .lconst 0, .lreturn]
def t_R_digitOr_6 : List Instr := [.iload_n 1, .bipush 8, .if_icmp .ge 9, .aload_n 0, .iload_n 1, .laload, .goto 4]
def t_R_digitOr_18 : List Instr := [.lload_n 2, .lreturn]
def t_R_digitOr_19 : List Instr := [.lreturn]
def d_R_digitOr : Nat → List Instr := fun pc => match pc with
  | 0 => t_R_digitOr_0
  | 6 => t_R_digitOr_6
  | 18 => t_R_digitOr_18
  | 19 => t_R_digitOr_19
  | _ => []
theorem d_R_digitOr_0 : d_R_digitOr 0 = t_R_digitOr_0 := rfl
theorem d_R_digitOr_6 : d_R_digitOr 6 = t_R_digitOr_6 := rfl
theorem d_R_digitOr_18 : d_R_digitOr 18 = t_R_digitOr_18 := rfl
theorem d_R_digitOr_19 : d_R_digitOr 19 = t_R_digitOr_19 := rfl
set_option maxRecDepth 100000 in
theorem k_R_digitOr : ∀ pc, zok c_R_digitOr 4 pc (d_R_digitOr pc) = true := by
  intro pc
  unfold d_R_digitOr
  split
  · decide +kernel
  · decide +kernel
  · decide +kernel
  · decide +kernel
  · rfl
def t_R_byteAt_0 : List Instr := [.aload_n 0, .iload_n 1, .iconst 4, .idiv, .laload, .bipush 8, .iload_n 1, .iconst 4, .irem, .imul, .lushr, .ldc2_w 31, .land, .l2i, .ireturn]
def d_R_byteAt : Nat → List Instr := fun pc => match pc with
  | 0 => t_R_byteAt_0
  | _ => []
theorem d_R_byteAt_0 : d_R_byteAt 0 = t_R_byteAt_0 := rfl
set_option maxRecDepth 100000 in
theorem k_R_byteAt : ∀ pc, zok c_R_byteAt 2 pc (d_R_byteAt pc) = true := by
  intro pc
  unfold d_R_byteAt
  split
  · decide +kernel
  · rfl
def t_R_setByte_0 : List Instr := [.iload_n 1, .iconst 4, .idiv, .istore 4, .bipush 8, .iload_n 1, .iconst 4, .irem, .imul, .istore 5, .aload_n 0, .iload 4, .aload_n 0, .iload 4, .laload, .ldc2_w 31, .iload 5, .lshl, .ldc2_w 33, .lxor, .land, .lload_n 2, .iload 5, .lshl, .lor, .lastore, .return_]
def d_R_setByte : Nat → List Instr := fun pc => match pc with
  | 0 => t_R_setByte_0
  | _ => []
theorem d_R_setByte_0 : d_R_setByte 0 = t_R_setByte_0 := rfl
set_option maxRecDepth 100000 in
theorem k_R_setByte : ∀ pc, zok c_R_setByte 6 pc (d_R_setByte pc) = true := by
  intro pc
  unfold d_R_setByte
  split
  · decide +kernel
  · rfl
def t_R_divideByTen_0 : List Instr := [.lconst 0, .lstore_n 1, .aload_n 0, .arraylength, .iconst 1, .isub, .istore_n 3, .nop]
def t_R_divideByTen_7 : List Instr := [.iload_n 3, .ifCond .lt 35, .lload_n 1, .bipush 32, .lshl, .aload_n 0, .iload_n 3, .laload, .lor, .lstore 4, .aload_n 0, .iload_n 3, .lload 4, .ldc2_w 64, .ldiv, .lastore, .lload 4, .ldc2_w 64, .lrem, .lstore_n 1, .iinc 3 (-1), .goto (-33)]
def t_R_divideByTen_43 : List Instr := [.lload_n 1, .l2i, .ireturn]
def d_R_divideByTen : Nat → List Instr := fun pc => match pc with
  | 0 => t_R_divideByTen_0
  | 7 => t_R_divideByTen_7
  | 43 => t_R_divideByTen_43
  | _ => []
theorem d_R_divideByTen_0 : d_R_divideByTen 0 = t_R_divideByTen_0 := rfl
theorem d_R_divideByTen_7 : d_R_divideByTen 7 = t_R_divideByTen_7 := rfl
theorem d_R_divideByTen_43 : d_R_divideByTen 43 = t_R_divideByTen_43 := rfl
set_option maxRecDepth 100000 in
theorem k_R_divideByTen : ∀ pc, zok c_R_divideByTen 6 pc (d_R_divideByTen pc) = true := by
  intro pc
  unfold d_R_divideByTen
  split
  · decide +kernel
  · decide +kernel
  · decide +kernel
  · rfl
