def t_W_setWord_0 : List Instr := [.aload_n 0, .getfield 9, .lconst 0, .invokestatic 19, .aload_n 0, .getfield 9, .aload_n 1, .invokestatic 25, .aload_n 0, .iload_n 2, .ifCond .eq 14, .aload_n 1, .invokestatic 29, .ifCond .eq 7, .iconst 1, .goto 4]
def t_W_setWord_32 : List Instr := [.iconst 0, .nop]
def t_W_setWord_33 : List Instr := [.putfield 15, .aload_n 0, .getfield 15, .ifCond .eq 10, .aload_n 0, .getfield 9, .invokestatic 33, .return_]
def t_W_setWord_50 : List Instr := [.return_]
def d_W_setWord : Nat → List Instr := fun pc => match pc with
  | 0 => t_W_setWord_0
  | 32 => t_W_setWord_32
  | 33 => t_W_setWord_33
  | 50 => t_W_setWord_50
  | _ => []
theorem d_W_setWord_0 : d_W_setWord 0 = t_W_setWord_0 := rfl
theorem d_W_setWord_32 : d_W_setWord 32 = t_W_setWord_32 := rfl
theorem d_W_setWord_33 : d_W_setWord 33 = t_W_setWord_33 := rfl
theorem d_W_setWord_50 : d_W_setWord 50 = t_W_setWord_50 := rfl
set_option maxRecDepth 100000 in
theorem k_W_setWord : ∀ pc, zok c_W_setWord 3 pc (d_W_setWord pc) = true := by
  intro pc
  unfold d_W_setWord
  split
  · decide +kernel
  · decide +kernel
  · decide +kernel
  · decide +kernel
  · rfl
def t_W_setSum_0 : List Instr := [.aload_n 0, .aload_n 1, .aload_n 2, .aload_n 2, .getfield 15, .invokevirtual 43, .return_]
def d_W_setSum : Nat → List Instr := fun pc => match pc with
  | 0 => t_W_setSum_0
  | _ => []
theorem d_W_setSum_0 : d_W_setSum 0 = t_W_setSum_0 := rfl
set_option maxRecDepth 100000 in
theorem k_W_setSum : ∀ pc, zok c_W_setSum 3 pc (d_W_setSum pc) = true := by
  intro pc
  unfold d_W_setSum
  split
  · decide +kernel
  · rfl
def t_W_setSumOfSigned_0 : List Instr := [.aload_n 1, .getfield 15, .iload_n 3, .if_icmp .ne 29, .aload_n 1, .getfield 9, .aload_n 2, .getfield 9, .aload_n 0, .getfield 9, .invokestatic 47, .aload_n 0, .aload_n 1, .getfield 15, .invokevirtual 51, .goto 63]
def t_W_setSumOfSigned_34 : List Instr := [.aload_n 1, .getfield 9, .aload_n 2, .getfield 9, .invokestatic 55, .ifCond .lt 29, .aload_n 1, .getfield 9, .aload_n 2, .getfield 9, .aload_n 0, .getfield 9, .invokestatic 59, .aload_n 0, .aload_n 1, .getfield 15, .invokevirtual 51, .goto 23]
def t_W_setSumOfSigned_74 : List Instr := [.aload_n 2, .getfield 9, .aload_n 1, .getfield 9, .aload_n 0, .getfield 9, .invokestatic 59, .aload_n 0, .iload_n 3, .invokevirtual 51, .nop]
def t_W_setSumOfSigned_94 : List Instr := [.return_]
def d_W_setSumOfSigned : Nat → List Instr := fun pc => match pc with
  | 0 => t_W_setSumOfSigned_0
  | 34 => t_W_setSumOfSigned_34
  | 74 => t_W_setSumOfSigned_74
  | 94 => t_W_setSumOfSigned_94
  | _ => []
theorem d_W_setSumOfSigned_0 : d_W_setSumOfSigned 0 = t_W_setSumOfSigned_0 := rfl
theorem d_W_setSumOfSigned_34 : d_W_setSumOfSigned 34 = t_W_setSumOfSigned_34 := rfl
theorem d_W_setSumOfSigned_74 : d_W_setSumOfSigned 74 = t_W_setSumOfSigned_74 := rfl
theorem d_W_setSumOfSigned_94 : d_W_setSumOfSigned 94 = t_W_setSumOfSigned_94 := rfl
set_option maxRecDepth 100000 in
theorem k_W_setSumOfSigned : ∀ pc, zok c_W_setSumOfSigned 4 pc (d_W_setSumOfSigned pc) = true := by
  intro pc
  unfold d_W_setSumOfSigned
  split
  · decide +kernel
  · decide +kernel
  · decide +kernel
  · decide +kernel
  · rfl
def t_W_setSign_0 : List Instr := [.aload_n 0, .iload_n 1, .ifCond .eq 17, .aload_n 0, .getfield 9, .invokestatic 69, .ifCond .ne 7, .iconst 1, .goto 4]
def t_W_setSign_19 : List Instr := [.iconst 0, .nop]
def t_W_setSign_20 : List Instr := [.putfield 15, .return_]
def d_W_setSign : Nat → List Instr := fun pc => match pc with
  | 0 => t_W_setSign_0
  | 19 => t_W_setSign_19
  | 20 => t_W_setSign_20
  | _ => []
theorem d_W_setSign_0 : d_W_setSign 0 = t_W_setSign_0 := rfl
theorem d_W_setSign_19 : d_W_setSign 19 = t_W_setSign_19 := rfl
theorem d_W_setSign_20 : d_W_setSign 20 = t_W_setSign_20 := rfl
set_option maxRecDepth 100000 in
theorem k_W_setSign : ∀ pc, zok c_W_setSign 2 pc (d_W_setSign pc) = true := by
  intro pc
  unfold d_W_setSign
  split
  · decide +kernel
  · decide +kernel
  · decide +kernel
  · rfl
def t_W_setProduct_0 : List Instr := [.aload_n 1, .getfield 9, .aload_n 2, .getfield 9, .aload_n 0, .getfield 9, .invokestatic 62, .aload_n 0, .aload_n 1, .getfield 15, .aload_n 2, .getfield 15, .if_icmp .eq 7, .iconst 1, .goto 4]
def t_W_setProduct_31 : List Instr := [.iconst 0, .nop]
def t_W_setProduct_32 : List Instr := [.invokevirtual 51, .return_]
def d_W_setProduct : Nat → List Instr := fun pc => match pc with
  | 0 => t_W_setProduct_0
  | 31 => t_W_setProduct_31
  | 32 => t_W_setProduct_32
  | _ => []
theorem d_W_setProduct_0 : d_W_setProduct 0 = t_W_setProduct_0 := rfl
theorem d_W_setProduct_31 : d_W_setProduct 31 = t_W_setProduct_31 := rfl
theorem d_W_setProduct_32 : d_W_setProduct 32 = t_W_setProduct_32 := rfl
set_option maxRecDepth 100000 in
theorem k_W_setProduct : ∀ pc, zok c_W_setProduct 3 pc (d_W_setProduct pc) = true := by
  intro pc
  unfold d_W_setProduct
  split
  · decide +kernel
  · decide +kernel
  · decide +kernel
  · rfl
def t_W_setDifference_0 : List Instr := [.aload_n 0, .aload_n 1, .aload_n 2, .aload_n 2, .getfield 15, .ifCond .ne 7, .iconst 1, .goto 4]
def t_W_setDifference_14 : List Instr := [.iconst 0, .nop]
def t_W_setDifference_15 : List Instr := [.invokevirtual 43, .return_]
def d_W_setDifference : Nat → List Instr := fun pc => match pc with
  | 0 => t_W_setDifference_0
  | 14 => t_W_setDifference_14
  | 15 => t_W_setDifference_15
  | _ => []
theorem d_W_setDifference_0 : d_W_setDifference 0 = t_W_setDifference_0 := rfl
theorem d_W_setDifference_14 : d_W_setDifference 14 = t_W_setDifference_14 := rfl
theorem d_W_setDifference_15 : d_W_setDifference 15 = t_W_setDifference_15 := rfl
set_option maxRecDepth 100000 in
theorem k_W_setDifference : ∀ pc, zok c_W_setDifference 3 pc (d_W_setDifference pc) = true := by
  intro pc
  unfold d_W_setDifference
  split
  · decide +kernel
  · decide +kernel
  · decide +kernel
  · rfl
def t_W_setQuotient_0 : List Instr := [.aload_n 1, .getfield 9, .aload_n 2, .getfield 9, .aload_n 0, .getfield 9, .aload_n 3, .invokestatic 65, .istore 4, .aload_n 0, .aload_n 1, .getfield 15, .aload_n 2, .getfield 15, .if_icmp .eq 7, .iconst 1, .goto 4]
def t_W_setQuotient_34 : List Instr := [.iconst 0, .nop]
def t_W_setQuotient_35 : List Instr := [.invokevirtual 51, .iload 4, .ireturn]
def d_W_setQuotient : Nat → List Instr := fun pc => match pc with
  | 0 => t_W_setQuotient_0
  | 34 => t_W_setQuotient_34
  | 35 => t_W_setQuotient_35
  | _ => []
theorem d_W_setQuotient_0 : d_W_setQuotient 0 = t_W_setQuotient_0 := rfl
theorem d_W_setQuotient_34 : d_W_setQuotient 34 = t_W_setQuotient_34 := rfl
theorem d_W_setQuotient_35 : d_W_setQuotient 35 = t_W_setQuotient_35 := rfl
set_option maxRecDepth 100000 in
theorem k_W_setQuotient : ∀ pc, zok c_W_setQuotient 5 pc (d_W_setQuotient pc) = true := by
  intro pc
  unfold d_W_setQuotient
  split
  · decide +kernel
  · decide +kernel
  · decide +kernel
  · rfl
def t_W_setRemainder_0 : List Instr := [.aload_n 1, .getfield 9, .aload_n 2, .getfield 9, .aload_n 3, .aload_n 0, .getfield 9, .invokestatic 65, .istore 4, .aload_n 0, .aload_n 1, .getfield 15, .invokevirtual 51, .iload 4, .ireturn]
def d_W_setRemainder : Nat → List Instr := fun pc => match pc with
  | 0 => t_W_setRemainder_0
  | _ => []
theorem d_W_setRemainder_0 : d_W_setRemainder 0 = t_W_setRemainder_0 := rfl
set_option maxRecDepth 100000 in
theorem k_W_setRemainder : ∀ pc, zok c_W_setRemainder 5 pc (d_W_setRemainder pc) = true := by
  intro pc
  unfold d_W_setRemainder
  split
  · decide +kernel
  · rfl
def t_W_isInRange_0 : List Instr := [.iload_n 1, .ifCond .ne 29, .aload_n 0, .getfield 15, .ifCond .ne 20, .aload_n 0, .getfield 9, .getstatic 72, .invokestatic 55, .ifCond .ge 7, .iconst 1, .goto 4]
def t_W_isInRange_28 : List Instr := [.iconst 0, .nop]
def t_W_isInRange_29 : List Instr := [.ireturn]
def t_W_isInRange_30 : List Instr := [.aload_n 0, .getfield 9, .getstatic 75, .invokestatic 55, .istore_n 2, .iload_n 2, .ifCond .lt 14, .iload_n 2, .ifCond .ne 14, .aload_n 0, .getfield 15, .ifCond .eq 7, .iconst 1, .goto 4]
def t_W_isInRange_56 : List Instr := [.iconst 1, .goto 4]
def t_W_isInRange_60 : List Instr := [.iconst 0, .nop]
def t_W_isInRange_61 : List Instr := [.ireturn]
def d_W_isInRange : Nat → List Instr := fun pc => match pc with
  | 0 => t_W_isInRange_0
  | 28 => t_W_isInRange_28
  | 29 => t_W_isInRange_29
  | 30 => t_W_isInRange_30
  | 56 => t_W_isInRange_56
  | 60 => t_W_isInRange_60
  | 61 => t_W_isInRange_61
  | _ => []
theorem d_W_isInRange_0 : d_W_isInRange 0 = t_W_isInRange_0 := rfl
theorem d_W_isInRange_28 : d_W_isInRange 28 = t_W_isInRange_28 := rfl
theorem d_W_isInRange_29 : d_W_isInRange 29 = t_W_isInRange_29 := rfl
theorem d_W_isInRange_30 : d_W_isInRange 30 = t_W_isInRange_30 := rfl
theorem d_W_isInRange_56 : d_W_isInRange 56 = t_W_isInRange_56 := rfl
theorem d_W_isInRange_60 : d_W_isInRange 60 = t_W_isInRange_60 := rfl
theorem d_W_isInRange_61 : d_W_isInRange 61 = t_W_isInRange_61 := rfl
set_option maxRecDepth 100000 in
theorem k_W_isInRange : ∀ pc, zok c_W_isInRange 3 pc (d_W_isInRange pc) = true := by
  intro pc
  unfold d_W_isInRange
  split
  · decide +kernel
  · decide +kernel
  · decide +kernel
  · decide +kernel
  · decide +kernel
  · decide +kernel
  · decide +kernel
  · rfl
def t_W_putWrapped_0 : List Instr := [.aload_n 1, .aload_n 0, .getfield 9, .invokestatic 25, .aload_n 0, .getfield 15, .ifCond .eq 7, .aload_n 1, .invokestatic 33, .return_]
def t_W_putWrapped_19 : List Instr := [.return_]
def d_W_putWrapped : Nat → List Instr := fun pc => match pc with
  | 0 => t_W_putWrapped_0
  | 19 => t_W_putWrapped_19
  | _ => []
theorem d_W_putWrapped_0 : d_W_putWrapped 0 = t_W_putWrapped_0 := rfl
theorem d_W_putWrapped_19 : d_W_putWrapped 19 = t_W_putWrapped_19 := rfl
set_option maxRecDepth 100000 in
theorem k_W_putWrapped : ∀ pc, zok c_W_putWrapped 2 pc (d_W_putWrapped pc) = true := by
  intro pc
  unfold d_W_putWrapped
  split
  · decide +kernel
  · decide +kernel
  · rfl
def t_W_setWhole_0 : List Instr := [.aload_n 1, .getfield 9, .iconst 0, .aload_n 0, .getfield 9, .iconst 0, .bipush 16, .invokestatic 37, .aload_n 0, .aload_n 1, .getfield 15, .putfield 15, .return_]
def d_W_setWhole : Nat → List Instr := fun pc => match pc with
  | 0 => t_W_setWhole_0
  | _ => []
theorem d_W_setWhole_0 : d_W_setWhole 0 = t_W_setWhole_0 := rfl
set_option maxRecDepth 100000 in
theorem k_W_setWhole : ∀ pc, zok c_W_setWhole 2 pc (d_W_setWhole pc) = true := by
  intro pc
  unfold d_W_setWhole
  split
  · decide +kernel
  · rfl
def t_W_putBound_0 : List Instr := [.aload_n 2, .aload_n 0, .getfield 15, .ifCond .eq 7, .lconst 0, .goto 6]
def t_W_putBound_12 : List Instr := [.ldc2_w 78, .nop]
def t_W_putBound_15 : List Instr := [.invokestatic 19, .iload_n 1, .ifCond .eq 13, .aload_n 2, .bipush 7, .dup2, .laload, .ldc2_w 80, .lxor, .lastore, .return_]
def t_W_putBound_32 : List Instr := [.return_]
def d_W_putBound : Nat → List Instr := fun pc => match pc with
  | 0 => t_W_putBound_0
  | 12 => t_W_putBound_12
  | 15 => t_W_putBound_15
  | 32 => t_W_putBound_32
  | _ => []
theorem d_W_putBound_0 : d_W_putBound 0 = t_W_putBound_0 := rfl
theorem d_W_putBound_12 : d_W_putBound 12 = t_W_putBound_12 := rfl
theorem d_W_putBound_15 : d_W_putBound 15 = t_W_putBound_15 := rfl
theorem d_W_putBound_32 : d_W_putBound 32 = t_W_putBound_32 := rfl
set_option maxRecDepth 100000 in
theorem k_W_putBound : ∀ pc, zok c_W_putBound 3 pc (d_W_putBound pc) = true := by
  intro pc
  unfold d_W_putBound
  split
  · decide +kernel
  · decide +kernel
  · decide +kernel
  · decide +kernel
  · rfl
def t_E_isOperation_0 : List Instr := [.iload_n 0, .ifCond .lt 12, .iload_n 0, .iconst 4, .if_icmp .gt 7, .iconst 1, .goto 4]
def t_E_isOperation_13 : List Instr := [.iconst 0, .nop]
def t_E_isOperation_14 : List Instr := [.ireturn]
def d_E_isOperation : Nat → List Instr := fun pc => match pc with
  | 0 => t_E_isOperation_0
  | 13 => t_E_isOperation_13
  | 14 => t_E_isOperation_14
  | _ => []
theorem d_E_isOperation_0 : d_E_isOperation 0 = t_E_isOperation_0 := rfl
theorem d_E_isOperation_13 : d_E_isOperation 13 = t_E_isOperation_13 := rfl
theorem d_E_isOperation_14 : d_E_isOperation 14 = t_E_isOperation_14 := rfl
set_option maxRecDepth 100000 in
theorem k_E_isOperation : ∀ pc, zok c_E_isOperation 1 pc (d_E_isOperation pc) = true := by
  intro pc
  unfold d_E_isOperation
  split
  · decide +kernel
  · decide +kernel
  · decide +kernel
  · rfl
def t_E_work_0 : List Instr := [.aload_n 0, .getfield 10, .aload_n 3, .iload_n 2, .invokevirtual 28, .aload_n 0, .getfield 16, .aload 4, .iload_n 2, .invokevirtual 28, .iload_n 1, .tableswitch 103 0 3 #[32, 49, 66, 83]]
def t_E_work_52 : List Instr := [.aload_n 0, .getfield 19, .aload_n 0, .getfield 10, .aload_n 0, .getfield 16, .invokevirtual 32, .iconst 1, .ireturn]
def t_E_work_69 : List Instr := [.aload_n 0, .getfield 19, .aload_n 0, .getfield 10, .aload_n 0, .getfield 16, .invokevirtual 36, .iconst 1, .ireturn]
def t_E_work_86 : List Instr := [.aload_n 0, .getfield 19, .aload_n 0, .getfield 10, .aload_n 0, .getfield 16, .invokevirtual 39, .iconst 1, .ireturn]
def t_E_work_103 : List Instr := [.aload_n 0, .getfield 19, .aload_n 0, .getfield 10, .aload_n 0, .getfield 16, .aload_n 0, .getfield 24, .invokevirtual 42, .ireturn]
def t_E_work_123 : List Instr := [.aload_n 0, .getfield 19, .aload_n 0, .getfield 10, .aload_n 0, .getfield 16, .aload_n 0, .getfield 24, .invokevirtual 46, .ireturn]
def d_E_work : Nat → List Instr := fun pc => match pc with
  | 0 => t_E_work_0
  | 52 => t_E_work_52
  | 69 => t_E_work_69
  | 86 => t_E_work_86
  | 103 => t_E_work_103
  | 123 => t_E_work_123
  | _ => []
theorem d_E_work_0 : d_E_work 0 = t_E_work_0 := rfl
theorem d_E_work_52 : d_E_work 52 = t_E_work_52 := rfl
theorem d_E_work_69 : d_E_work 69 = t_E_work_69 := rfl
theorem d_E_work_86 : d_E_work 86 = t_E_work_86 := rfl
theorem d_E_work_103 : d_E_work 103 = t_E_work_103 := rfl
theorem d_E_work_123 : d_E_work 123 = t_E_work_123 := rfl
set_option maxRecDepth 100000 in
theorem k_E_work : ∀ pc, zok c_E_work 5 pc (d_E_work pc) = true := by
  intro pc
  unfold d_E_work
  split
  · decide +kernel
  · decide +kernel
  · decide +kernel
  · decide +kernel
  · decide +kernel
  · decide +kernel
  · rfl
def t_E_isInRange_0 : List Instr := [.aload_n 0, .getfield 19, .iload_n 1, .invokevirtual 53, .ireturn]
def d_E_isInRange : Nat → List Instr := fun pc => match pc with
  | 0 => t_E_isInRange_0
  | _ => []
theorem d_E_isInRange_0 : d_E_isInRange 0 = t_E_isInRange_0 := rfl
set_option maxRecDepth 100000 in
theorem k_E_isInRange : ∀ pc, zok c_E_isInRange 2 pc (d_E_isInRange pc) = true := by
  intro pc
  unfold d_E_isInRange
  split
  · decide +kernel
  · rfl
def t_E_putWrapped_0 : List Instr := [.aload_n 0, .getfield 19, .aload_n 1, .invokevirtual 57, .return_]
def d_E_putWrapped : Nat → List Instr := fun pc => match pc with
  | 0 => t_E_putWrapped_0
  | _ => []
theorem d_E_putWrapped_0 : d_E_putWrapped 0 = t_E_putWrapped_0 := rfl
set_option maxRecDepth 100000 in
theorem k_E_putWrapped : ∀ pc, zok c_E_putWrapped 2 pc (d_E_putWrapped pc) = true := by
  intro pc
  unfold d_E_putWrapped
  split
  · decide +kernel
  · rfl
def t_E_reduce_0 : List Instr := [.aload_n 0, .getfield 10, .aload_n 0, .getfield 19, .invokevirtual 49, .aload_n 0, .getfield 16, .aload_n 1, .iconst 0, .invokevirtual 28, .aload_n 0, .getfield 19, .aload_n 0, .getfield 10, .aload_n 0, .getfield 16, .aload_n 0, .getfield 24, .invokevirtual 46, .pop, .return_]
def d_E_reduce : Nat → List Instr := fun pc => match pc with
  | 0 => t_E_reduce_0
  | _ => []
theorem d_E_reduce_0 : d_E_reduce 0 = t_E_reduce_0 := rfl
set_option maxRecDepth 100000 in
theorem k_E_reduce : ∀ pc, zok c_E_reduce 2 pc (d_E_reduce pc) = true := by
  intro pc
  unfold d_E_reduce
  split
  · decide +kernel
  · rfl
def t_E_putNearest_0 : List Instr := [.aload_n 0, .getfield 19, .iload_n 1, .invokevirtual 53, .ifCond .eq 14, .aload_n 0, .getfield 19, .aload_n 2, .invokevirtual 57, .goto 12]
def t_E_putNearest_22 : List Instr := [.aload_n 0, .getfield 19, .iload_n 1, .aload_n 2, .invokevirtual 61, .nop]
def t_E_putNearest_31 : List Instr := [.return_]
def d_E_putNearest : Nat → List Instr := fun pc => match pc with
  | 0 => t_E_putNearest_0
  | 22 => t_E_putNearest_22
  | 31 => t_E_putNearest_31
  | _ => []
theorem d_E_putNearest_0 : d_E_putNearest 0 = t_E_putNearest_0 := rfl
theorem d_E_putNearest_22 : d_E_putNearest 22 = t_E_putNearest_22 := rfl
theorem d_E_putNearest_31 : d_E_putNearest 31 = t_E_putNearest_31 := rfl
set_option maxRecDepth 100000 in
theorem k_E_putNearest : ∀ pc, zok c_E_putNearest 3 pc (d_E_putNearest pc) = true := by
  intro pc
  unfold d_E_putNearest
  split
  · decide +kernel
  · decide +kernel
  · decide +kernel
  · rfl
def t_P_isOperation_0 : List Instr := [.iload_n 0, .ifCond .lt 13, .iload_n 0, .bipush 24, .if_icmp .gt 7, .iconst 1, .goto 4]
def t_P_isOperation_14 : List Instr := [.iconst 0, .nop]
def t_P_isOperation_15 : List Instr := [.ireturn]
def d_P_isOperation : Nat → List Instr := fun pc => match pc with
  | 0 => t_P_isOperation_0
  | 14 => t_P_isOperation_14
  | 15 => t_P_isOperation_15
  | _ => []
theorem d_P_isOperation_0 : d_P_isOperation 0 = t_P_isOperation_0 := rfl
theorem d_P_isOperation_14 : d_P_isOperation 14 = t_P_isOperation_14 := rfl
theorem d_P_isOperation_15 : d_P_isOperation 15 = t_P_isOperation_15 := rfl
set_option maxRecDepth 100000 in
theorem k_P_isOperation : ∀ pc, zok c_P_isOperation 1 pc (d_P_isOperation pc) = true := by
  intro pc
  unfold d_P_isOperation
  split
  · decide +kernel
  · decide +kernel
  · decide +kernel
  · rfl
def t_P_wordsTaken_0 : List Instr := [.iload_n 0, .lookupswitch 47 #[(7, 45), (8, 45), (16, 43), (20, 43)]]
def t_P_wordsTaken_44 : List Instr := [.iconst 1, .ireturn]
def t_P_wordsTaken_46 : List Instr := [.iconst 3, .ireturn]
def t_P_wordsTaken_48 : List Instr := [.iconst 2, .ireturn]
def d_P_wordsTaken : Nat → List Instr := fun pc => match pc with
  | 0 => t_P_wordsTaken_0
  | 44 => t_P_wordsTaken_44
  | 46 => t_P_wordsTaken_46
  | 48 => t_P_wordsTaken_48
  | _ => []
theorem d_P_wordsTaken_0 : d_P_wordsTaken 0 = t_P_wordsTaken_0 := rfl
theorem d_P_wordsTaken_44 : d_P_wordsTaken 44 = t_P_wordsTaken_44 := rfl
theorem d_P_wordsTaken_46 : d_P_wordsTaken 46 = t_P_wordsTaken_46 := rfl
theorem d_P_wordsTaken_48 : d_P_wordsTaken 48 = t_P_wordsTaken_48 := rfl
set_option maxRecDepth 100000 in
theorem k_P_wordsTaken : ∀ pc, zok c_P_wordsTaken 1 pc (d_P_wordsTaken pc) = true := by
  intro pc
  unfold d_P_wordsTaken
  split
  · decide +kernel
  · decide +kernel
  · decide +kernel
  · decide +kernel
  · rfl
def t_P_workOnOne_0 : List Instr := [.iload_n 1, .bipush 16, .if_icmp .ne 14, .aload_n 2, .invokestatic 19, .aload_n 3, .invokestatic 23, .goto 31]
def t_P_workOnOne_17 : List Instr := [.iconst 0, .istore 4, .nop]
def t_P_workOnOne_20 : List Instr := [.iload 4, .bipush 8, .if_icmp .ge 21, .aload_n 3, .iload 4, .aload_n 2, .iload 4, .laload, .ldc2_w 27, .lxor, .lastore, .iinc 4 1, .goto (-22)]
def t_P_workOnOne_45 : List Instr := [.return_]
def d_P_workOnOne : Nat → List Instr := fun pc => match pc with
  | 0 => t_P_workOnOne_0
  | 17 => t_P_workOnOne_17
  | 20 => t_P_workOnOne_20
  | 45 => t_P_workOnOne_45
  | _ => []
theorem d_P_workOnOne_0 : d_P_workOnOne 0 = t_P_workOnOne_0 := rfl
theorem d_P_workOnOne_17 : d_P_workOnOne 17 = t_P_workOnOne_17 := rfl
theorem d_P_workOnOne_20 : d_P_workOnOne 20 = t_P_workOnOne_20 := rfl
theorem d_P_workOnOne_45 : d_P_workOnOne 45 = t_P_workOnOne_45 := rfl
set_option maxRecDepth 100000 in
theorem k_P_workOnOne : ∀ pc, zok c_P_workOnOne 5 pc (d_P_workOnOne pc) = true := by
  intro pc
  unfold d_P_workOnOne
  split
  · decide +kernel
  · decide +kernel
  · decide +kernel
  · decide +kernel
  · rfl
def t_P_putTruth_0 : List Instr := [.aload_n 1, .iload_n 0, .ifCond .eq 7, .lconst 1, .goto 4]
def t_P_putTruth_9 : List Instr := [.lconst 0, .nop]
def t_P_putTruth_10 : List Instr := [.invokestatic 67, .return_]
def d_P_putTruth : Nat → List Instr := fun pc => match pc with
  | 0 => t_P_putTruth_0
  | 9 => t_P_putTruth_9
  | 10 => t_P_putTruth_10
  | _ => []
theorem d_P_putTruth_0 : d_P_putTruth 0 = t_P_putTruth_0 := rfl
theorem d_P_putTruth_9 : d_P_putTruth 9 = t_P_putTruth_9 := rfl
theorem d_P_putTruth_10 : d_P_putTruth 10 = t_P_putTruth_10 := rfl
set_option maxRecDepth 100000 in
theorem k_P_putTruth : ∀ pc, zok c_P_putTruth 2 pc (d_P_putTruth pc) = true := by
  intro pc
  unfold d_P_putTruth
  split
  · decide +kernel
  · decide +kernel
  · decide +kernel
  · rfl
def t_P_workOnTwo_0 : List Instr := [.iload_n 1, .bipush 6, .if_icmp .gt 45, .aload_n 0, .getfield 7, .iload_n 1, .invokestatic 42, .iload_n 1, .iconst 4, .if_icmp .eq 9, .iload_n 1, .bipush 6, .if_icmp .ne 7, .iconst 1, .goto 4]
def t_P_workOnTwo_25 : List Instr := [.iconst 1, .goto 4]
def t_P_workOnTwo_29 : List Instr := [.iconst 0, .nop]
def t_P_workOnTwo_30 : List Instr := [.aload_n 2, .aload_n 3, .invokevirtual 31, .pop, .aload_n 0, .getfield 7, .aload 4, .invokevirtual 39, .goto 109]
def t_P_workOnTwo_48 : List Instr := [.iload_n 1, .bipush 11, .if_icmp .lt 23, .iload_n 1, .bipush 15, .if_icmp .gt 17, .iload_n 1, .aload_n 2, .aload_n 3, .invokestatic 46, .aload 4, .invokestatic 23, .goto 83]
def t_P_workOnTwo_74 : List Instr := [.iload_n 1, .bipush 17, .if_icmp .lt 20, .iload_n 1, .bipush 19, .if_icmp .gt 14, .iload_n 1, .aload_n 2, .aload_n 3, .aload 4, .invokestatic 50, .goto 60]
def t_P_workOnTwo_97 : List Instr := [.iload_n 1, .bipush 22, .if_icmp .lt 14, .iload_n 1, .aload_n 2, .aload_n 3, .aload 4, .invokestatic 54, .goto 43]
def t_P_workOnTwo_114 : List Instr := [.iload_n 1, .bipush 9, .if_icmp .ne 14, .aload_n 0, .aload_n 2, .aload_n 3, .aload 4, .invokevirtual 57, .goto 26]
def t_P_workOnTwo_131 : List Instr := [.iload_n 1, .bipush 10, .if_icmp .ne 13, .aload_n 2, .aload_n 3, .aload 4, .invokestatic 61, .goto 10]
def t_P_workOnTwo_147 : List Instr := [.aload_n 2, .aload_n 3, .aload 4, .invokestatic 64, .nop]
def t_P_workOnTwo_154 : List Instr := [.return_]
def d_P_workOnTwo : Nat → List Instr := fun pc => match pc with
  | 0 => t_P_workOnTwo_0
  | 25 => t_P_workOnTwo_25
  | 29 => t_P_workOnTwo_29
  | 30 => t_P_workOnTwo_30
  | 48 => t_P_workOnTwo_48
  | 74 => t_P_workOnTwo_74
  | 97 => t_P_workOnTwo_97
  | 114 => t_P_workOnTwo_114
  | 131 => t_P_workOnTwo_131
  | 147 => t_P_workOnTwo_147
  | 154 => t_P_workOnTwo_154
  | _ => []
theorem d_P_workOnTwo_0 : d_P_workOnTwo 0 = t_P_workOnTwo_0 := rfl
theorem d_P_workOnTwo_25 : d_P_workOnTwo 25 = t_P_workOnTwo_25 := rfl
theorem d_P_workOnTwo_29 : d_P_workOnTwo 29 = t_P_workOnTwo_29 := rfl
theorem d_P_workOnTwo_30 : d_P_workOnTwo 30 = t_P_workOnTwo_30 := rfl
theorem d_P_workOnTwo_48 : d_P_workOnTwo 48 = t_P_workOnTwo_48 := rfl
theorem d_P_workOnTwo_74 : d_P_workOnTwo 74 = t_P_workOnTwo_74 := rfl
theorem d_P_workOnTwo_97 : d_P_workOnTwo 97 = t_P_workOnTwo_97 := rfl
theorem d_P_workOnTwo_114 : d_P_workOnTwo 114 = t_P_workOnTwo_114 := rfl
theorem d_P_workOnTwo_131 : d_P_workOnTwo 131 = t_P_workOnTwo_131 := rfl
theorem d_P_workOnTwo_147 : d_P_workOnTwo 147 = t_P_workOnTwo_147 := rfl
theorem d_P_workOnTwo_154 : d_P_workOnTwo 154 = t_P_workOnTwo_154 := rfl
set_option maxRecDepth 100000 in
theorem k_P_workOnTwo : ∀ pc, zok c_P_workOnTwo 5 pc (d_P_workOnTwo pc) = true := by
  intro pc
  unfold d_P_workOnTwo
  split
  · decide +kernel
  · decide +kernel
  · decide +kernel
  · decide +kernel
  · decide +kernel
  · decide +kernel
  · decide +kernel
  · decide +kernel
  · decide +kernel
  · decide +kernel
  · decide +kernel
  · rfl
def t_P_exactOf_0 : List Instr := [.iload_n 0, .tableswitch 43 0 4 #[35, 37, 39, 41, 41]]
def t_P_exactOf_36 : List Instr := [.iconst 0, .ireturn]
def t_P_exactOf_38 : List Instr := [.iconst 1, .ireturn]
def t_P_exactOf_40 : List Instr := [.iconst 2, .ireturn]
def t_P_exactOf_42 : List Instr := [.iconst 3, .ireturn]
def t_P_exactOf_44 : List Instr := [.iconst 4, .ireturn]
def d_P_exactOf : Nat → List Instr := fun pc => match pc with
  | 0 => t_P_exactOf_0
  | 36 => t_P_exactOf_36
  | 38 => t_P_exactOf_38
  | 40 => t_P_exactOf_40
  | 42 => t_P_exactOf_42
  | 44 => t_P_exactOf_44
  | _ => []
theorem d_P_exactOf_0 : d_P_exactOf 0 = t_P_exactOf_0 := rfl
theorem d_P_exactOf_36 : d_P_exactOf 36 = t_P_exactOf_36 := rfl
theorem d_P_exactOf_38 : d_P_exactOf 38 = t_P_exactOf_38 := rfl
theorem d_P_exactOf_40 : d_P_exactOf 40 = t_P_exactOf_40 := rfl
theorem d_P_exactOf_42 : d_P_exactOf 42 = t_P_exactOf_42 := rfl
theorem d_P_exactOf_44 : d_P_exactOf 44 = t_P_exactOf_44 := rfl
set_option maxRecDepth 100000 in
theorem k_P_exactOf : ∀ pc, zok c_P_exactOf 1 pc (d_P_exactOf pc) = true := by
  intro pc
  unfold d_P_exactOf
  split
  · decide +kernel
  · decide +kernel
  · decide +kernel
  · decide +kernel
  · decide +kernel
  · decide +kernel
  · rfl
def t_P_holds_0 : List Instr := [.iload_n 0, .tableswitch 87 11 14 #[31, 45, 59, 73]]
def t_P_holds_32 : List Instr := [.aload_n 1, .aload_n 2, .invokestatic 99, .ifCond .ge 7, .iconst 1, .goto 4]
def t_P_holds_44 : List Instr := [.iconst 0, .nop]
def t_P_holds_45 : List Instr := [.ireturn]
def t_P_holds_46 : List Instr := [.aload_n 1, .aload_n 2, .invokestatic 99, .ifCond .le 7, .iconst 1, .goto 4]
def t_P_holds_58 : List Instr := [.iconst 0, .nop]
def t_P_holds_59 : List Instr := [.ireturn]
def t_P_holds_60 : List Instr := [.aload_n 1, .aload_n 2, .invokestatic 103, .ifCond .ge 7, .iconst 1, .goto 4]
def t_P_holds_72 : List Instr := [.iconst 0, .nop]
def t_P_holds_73 : List Instr := [.ireturn]
def t_P_holds_74 : List Instr := [.aload_n 1, .aload_n 2, .invokestatic 103, .ifCond .le 7, .iconst 1, .goto 4]
def t_P_holds_86 : List Instr := [.iconst 0, .nop]
def t_P_holds_87 : List Instr := [.ireturn]
def t_P_holds_88 : List Instr := [.aload_n 1, .aload_n 2, .invokestatic 99, .ifCond .ne 7, .iconst 1, .goto 4]
def t_P_holds_100 : List Instr := [.iconst 0, .nop]
def t_P_holds_101 : List Instr := [.ireturn]
def d_P_holds : Nat → List Instr := fun pc => match pc with
  | 0 => t_P_holds_0
  | 32 => t_P_holds_32
  | 44 => t_P_holds_44
  | 45 => t_P_holds_45
  | 46 => t_P_holds_46
  | 58 => t_P_holds_58
  | 59 => t_P_holds_59
  | 60 => t_P_holds_60
  | 72 => t_P_holds_72
  | 73 => t_P_holds_73
  | 74 => t_P_holds_74
  | 86 => t_P_holds_86
  | 87 => t_P_holds_87
  | 88 => t_P_holds_88
  | 100 => t_P_holds_100
  | 101 => t_P_holds_101
  | _ => []
theorem d_P_holds_0 : d_P_holds 0 = t_P_holds_0 := rfl
theorem d_P_holds_32 : d_P_holds 32 = t_P_holds_32 := rfl
theorem d_P_holds_44 : d_P_holds 44 = t_P_holds_44 := rfl
theorem d_P_holds_45 : d_P_holds 45 = t_P_holds_45 := rfl
theorem d_P_holds_46 : d_P_holds 46 = t_P_holds_46 := rfl
theorem d_P_holds_58 : d_P_holds 58 = t_P_holds_58 := rfl
theorem d_P_holds_59 : d_P_holds 59 = t_P_holds_59 := rfl
theorem d_P_holds_60 : d_P_holds 60 = t_P_holds_60 := rfl
theorem d_P_holds_72 : d_P_holds 72 = t_P_holds_72 := rfl
theorem d_P_holds_73 : d_P_holds 73 = t_P_holds_73 := rfl
theorem d_P_holds_74 : d_P_holds 74 = t_P_holds_74 := rfl
theorem d_P_holds_86 : d_P_holds 86 = t_P_holds_86 := rfl
theorem d_P_holds_87 : d_P_holds 87 = t_P_holds_87 := rfl
theorem d_P_holds_88 : d_P_holds 88 = t_P_holds_88 := rfl
theorem d_P_holds_100 : d_P_holds 100 = t_P_holds_100 := rfl
theorem d_P_holds_101 : d_P_holds 101 = t_P_holds_101 := rfl
set_option maxRecDepth 100000 in
theorem k_P_holds : ∀ pc, zok c_P_holds 3 pc (d_P_holds pc) = true := by
  intro pc
  unfold d_P_holds
  split
  · decide +kernel
  · decide +kernel
  · decide +kernel
  · decide +kernel
  · decide +kernel
  · decide +kernel
  · decide +kernel
  · decide +kernel
  · decide +kernel
  · decide +kernel
  · decide +kernel
  · decide +kernel
  · decide +kernel
  · decide +kernel
  · decide +kernel
  · decide +kernel
  · rfl
def t_P_combine_0 : List Instr := [.iconst 0, .istore 4, .nop]
def t_P_combine_3 : List Instr := [.iload 4, .bipush 8, .if_icmp .ge 66, .iload_n 0, .bipush 17, .if_icmp .ne 19, .aload_n 3, .iload 4, .aload_n 1, .iload 4, .laload, .aload_n 2, .iload 4, .laload, .land, .lastore, .goto 38]
def t_P_combine_32 : List Instr := [.iload_n 0, .bipush 18, .if_icmp .ne 19, .aload_n 3, .iload 4, .aload_n 1, .iload 4, .laload, .aload_n 2, .iload 4, .laload, .lor, .lastore, .goto 16]
def t_P_combine_54 : List Instr := [.aload_n 3, .iload 4, .aload_n 1, .iload 4, .laload, .aload_n 2, .iload 4, .laload, .lxor, .lastore, .nop]
def t_P_combine_67 : List Instr := [.iinc 4 1, .goto (-67)]
def t_P_combine_73 : List Instr := [.return_]
def d_P_combine : Nat → List Instr := fun pc => match pc with
  | 0 => t_P_combine_0
  | 3 => t_P_combine_3
  | 32 => t_P_combine_32
  | 54 => t_P_combine_54
  | 67 => t_P_combine_67
  | 73 => t_P_combine_73
  | _ => []
theorem d_P_combine_0 : d_P_combine 0 = t_P_combine_0 := rfl
theorem d_P_combine_3 : d_P_combine 3 = t_P_combine_3 := rfl
theorem d_P_combine_32 : d_P_combine 32 = t_P_combine_32 := rfl
theorem d_P_combine_54 : d_P_combine 54 = t_P_combine_54 := rfl
theorem d_P_combine_67 : d_P_combine 67 = t_P_combine_67 := rfl
theorem d_P_combine_73 : d_P_combine 73 = t_P_combine_73 := rfl
set_option maxRecDepth 100000 in
theorem k_P_combine : ∀ pc, zok c_P_combine 5 pc (d_P_combine pc) = true := by
  intro pc
  unfold d_P_combine
  split
  · decide +kernel
  · decide +kernel
  · decide +kernel
  · decide +kernel
  · decide +kernel
  · decide +kernel
  · rfl
def t_P_shift_0 : List Instr := [.aload_n 1, .sipush 256, .invokestatic 86, .istore 4, .iload_n 0, .bipush 22, .if_icmp .ne 15, .aload_n 2, .iload 4, .ineg, .lconst 0, .aload_n 3, .invokestatic 106, .goto 42]
def t_P_shift_27 : List Instr := [.iload_n 0, .bipush 24, .if_icmp .ne 14, .aload_n 2, .invokestatic 110, .ifCond .eq 7, .iconst 1, .goto 4]
def t_P_shift_44 : List Instr := [.iconst 0, .nop]
def t_P_shift_45 : List Instr := [.istore 5, .aload_n 2, .iload 4, .iload 5, .ifCond .eq 9, .ldc2_w 27, .goto 4]
def t_P_shift_61 : List Instr := [.lconst 0, .nop]
def t_P_shift_62 : List Instr := [.aload_n 3, .invokestatic 106, .nop]
def t_P_shift_66 : List Instr := [.return_]
def d_P_shift : Nat → List Instr := fun pc => match pc with
  | 0 => t_P_shift_0
  | 27 => t_P_shift_27
  | 44 => t_P_shift_44
  | 45 => t_P_shift_45
  | 61 => t_P_shift_61
  | 62 => t_P_shift_62
  | 66 => t_P_shift_66
  | _ => []
theorem d_P_shift_0 : d_P_shift 0 = t_P_shift_0 := rfl
theorem d_P_shift_27 : d_P_shift 27 = t_P_shift_27 := rfl
theorem d_P_shift_44 : d_P_shift 44 = t_P_shift_44 := rfl
theorem d_P_shift_45 : d_P_shift 45 = t_P_shift_45 := rfl
theorem d_P_shift_61 : d_P_shift 61 = t_P_shift_61 := rfl
theorem d_P_shift_62 : d_P_shift 62 = t_P_shift_62 := rfl
theorem d_P_shift_66 : d_P_shift 66 = t_P_shift_66 := rfl
set_option maxRecDepth 100000 in
theorem k_P_shift : ∀ pc, zok c_P_shift 6 pc (d_P_shift pc) = true := by
  intro pc
  unfold d_P_shift
  split
  · decide +kernel
  · decide +kernel
  · decide +kernel
  · decide +kernel
  · decide +kernel
  · decide +kernel
  · decide +kernel
  · rfl
def t_P_raise_0 : List Instr := [.aload_n 3, .lconst 1, .invokestatic 67, .aload_n 2, .invokestatic 71, .iconst 1, .isub, .istore 4, .nop]
def t_P_raise_13 : List Instr := [.iload 4, .ifCond .lt 49, .aload_n 3, .aload_n 3, .aload_n 0, .getfield 15, .invokestatic 75, .aload_n 2, .iload 4, .invokestatic 78, .lconst 0, .lcmp, .ifCond .ne 14, .aload_n 3, .aload_n 0, .getfield 15, .invokestatic 82, .goto 12]
def t_P_raise_49 : List Instr := [.aload_n 0, .getfield 15, .aload_n 1, .aload_n 3, .invokestatic 75, .nop]
def t_P_raise_58 : List Instr := [.iinc 4 (-1), .goto (-48)]
def t_P_raise_64 : List Instr := [.return_]
def d_P_raise : Nat → List Instr := fun pc => match pc with
  | 0 => t_P_raise_0
  | 13 => t_P_raise_13
  | 49 => t_P_raise_49
  | 58 => t_P_raise_58
  | 64 => t_P_raise_64
  | _ => []
theorem d_P_raise_0 : d_P_raise 0 = t_P_raise_0 := rfl
theorem d_P_raise_13 : d_P_raise 13 = t_P_raise_13 := rfl
theorem d_P_raise_49 : d_P_raise 49 = t_P_raise_49 := rfl
theorem d_P_raise_58 : d_P_raise 58 = t_P_raise_58 := rfl
theorem d_P_raise_64 : d_P_raise 64 = t_P_raise_64 := rfl
set_option maxRecDepth 100000 in
theorem k_P_raise : ∀ pc, zok c_P_raise 5 pc (d_P_raise pc) = true := by
  intro pc
  unfold d_P_raise
  split
  · decide +kernel
  · decide +kernel
  · decide +kernel
  · decide +kernel
  · decide +kernel
  · rfl
def t_P_extendSign_0 : List Instr := [.aload_n 2, .aload_n 1, .invokestatic 82, .aload_n 0, .bipush 31, .invokestatic 86, .istore_n 3, .aload_n 1, .iload_n 3, .invokestatic 90, .sipush 128, .if_icmp .lt 9, .ldc2_w 93, .goto 4]
def t_P_extendSign_29 : List Instr := [.lconst 0, .nop]
def t_P_extendSign_30 : List Instr := [.lstore 4, .iload_n 3, .iconst 1, .iadd, .istore 6, .nop]
def t_P_extendSign_37 : List Instr := [.iload 6, .bipush 32, .if_icmp .ge 17, .aload_n 2, .iload 6, .lload 4, .invokestatic 95, .iinc 6 1, .goto (-18)]
def t_P_extendSign_58 : List Instr := [.return_]
def d_P_extendSign : Nat → List Instr := fun pc => match pc with
  | 0 => t_P_extendSign_0
  | 29 => t_P_extendSign_29
  | 30 => t_P_extendSign_30
  | 37 => t_P_extendSign_37
  | 58 => t_P_extendSign_58
  | _ => []
theorem d_P_extendSign_0 : d_P_extendSign 0 = t_P_extendSign_0 := rfl
theorem d_P_extendSign_29 : d_P_extendSign 29 = t_P_extendSign_29 := rfl
theorem d_P_extendSign_30 : d_P_extendSign 30 = t_P_extendSign_30 := rfl
theorem d_P_extendSign_37 : d_P_extendSign 37 = t_P_extendSign_37 := rfl
theorem d_P_extendSign_58 : d_P_extendSign 58 = t_P_extendSign_58 := rfl
set_option maxRecDepth 100000 in
theorem k_P_extendSign : ∀ pc, zok c_P_extendSign 7 pc (d_P_extendSign pc) = true := by
  intro pc
  unfold d_P_extendSign
  split
  · decide +kernel
  · decide +kernel
  · decide +kernel
  · decide +kernel
  · decide +kernel
  · rfl
def t_P_pickByte_0 : List Instr := [.aload_n 0, .bipush 32, .invokestatic 86, .istore_n 3, .aload_n 2, .iload_n 3, .bipush 32, .if_icmp .ge 15, .aload_n 1, .bipush 31, .iload_n 3, .isub, .invokestatic 90, .i2l, .goto 4]
def t_P_pickByte_26 : List Instr := [.lconst 0, .nop]
def t_P_pickByte_27 : List Instr := [.invokestatic 67, .return_]
def d_P_pickByte : Nat → List Instr := fun pc => match pc with
  | 0 => t_P_pickByte_0
  | 26 => t_P_pickByte_26
  | 27 => t_P_pickByte_27
  | _ => []
theorem d_P_pickByte_0 : d_P_pickByte 0 = t_P_pickByte_0 := rfl
theorem d_P_pickByte_26 : d_P_pickByte 26 = t_P_pickByte_26 := rfl
theorem d_P_pickByte_27 : d_P_pickByte 27 = t_P_pickByte_27 := rfl
set_option maxRecDepth 100000 in
theorem k_P_pickByte : ∀ pc, zok c_P_pickByte 4 pc (d_P_pickByte pc) = true := by
  intro pc
  unfold d_P_pickByte
  split
  · decide +kernel
  · decide +kernel
  · decide +kernel
  · rfl
def t_P_workOnThree_0 : List Instr := [.aload_n 0, .getfield 7, .iload_n 1, .bipush 7, .if_icmp .ne 7, .iconst 0, .goto 4]
def t_P_workOnThree_14 : List Instr := [.iconst 1, .nop]
def t_P_workOnThree_15 : List Instr := [.iconst 0, .aload_n 2, .aload_n 3, .invokevirtual 31, .pop, .aload_n 0, .getfield 7, .aload 4, .invokevirtual 35, .aload_n 0, .getfield 7, .aload 5, .invokevirtual 39, .return_]
def d_P_workOnThree : Nat → List Instr := fun pc => match pc with
  | 0 => t_P_workOnThree_0
  | 14 => t_P_workOnThree_14
  | 15 => t_P_workOnThree_15
  | _ => []
theorem d_P_workOnThree_0 : d_P_workOnThree 0 = t_P_workOnThree_0 := rfl
theorem d_P_workOnThree_14 : d_P_workOnThree 14 = t_P_workOnThree_14 := rfl
theorem d_P_workOnThree_15 : d_P_workOnThree 15 = t_P_workOnThree_15 := rfl
set_option maxRecDepth 100000 in
theorem k_P_workOnThree : ∀ pc, zok c_P_workOnThree 6 pc (d_P_workOnThree pc) = true := by
  intro pc
  unfold d_P_workOnThree
  split
  · decide +kernel
  · decide +kernel
  · decide +kernel
  · rfl
def t_T_append_0 : List Instr := [.iload_n 1, .sipush 255, .if_icmp .gt 12, .aload_n 0, .getfield 13, .bipush 80, .if_icmp .lt 5, .iconst 0, .ireturn]
def t_T_append_16 : List Instr := [.iconst 0, .ireturn]
def t_T_append_18 : List Instr := [.aload_n 0, .getfield 9, .aload_n 0, .getfield 13, .iload_n 1, .castore, .aload_n 0, .dup, .getfield 13, .iconst 1, .iadd, .putfield 13, .iconst 1, .ireturn]
def d_T_append : Nat → List Instr := fun pc => match pc with
  | 0 => t_T_append_0
  | 16 => t_T_append_16
  | 18 => t_T_append_18
  | _ => []
theorem d_T_append_0 : d_T_append 0 = t_T_append_0 := rfl
theorem d_T_append_16 : d_T_append 16 = t_T_append_16 := rfl
theorem d_T_append_18 : d_T_append 18 = t_T_append_18 := rfl
set_option maxRecDepth 100000 in
theorem k_T_append : ∀ pc, zok c_T_append 2 pc (d_T_append pc) = true := by
  intro pc
  unfold d_T_append
  split
  · decide +kernel
  · decide +kernel
  · decide +kernel
  · rfl
def t_T_size_0 : List Instr := [.aload_n 0, .getfield 13, .ireturn]
def d_T_size : Nat → List Instr := fun pc => match pc with
  | 0 => t_T_size_0
  | _ => []
theorem d_T_size_0 : d_T_size 0 = t_T_size_0 := rfl
set_option maxRecDepth 100000 in
theorem k_T_size : ∀ pc, zok c_T_size 1 pc (d_T_size pc) = true := by
  intro pc
  unfold d_T_size
  split
  · decide +kernel
  · rfl
def t_T_makeEmpty_0 : List Instr := [.aload_n 0, .iconst 0, .putfield 13, .return_]
def d_T_makeEmpty : Nat → List Instr := fun pc => match pc with
  | 0 => t_T_makeEmpty_0
  | _ => []
theorem d_T_makeEmpty_0 : d_T_makeEmpty 0 = t_T_makeEmpty_0 := rfl
set_option maxRecDepth 100000 in
theorem k_T_makeEmpty : ∀ pc, zok c_T_makeEmpty 1 pc (d_T_makeEmpty pc) = true := by
  intro pc
  unfold d_T_makeEmpty
  split
  · decide +kernel
  · rfl
def t_T_codeAt_0 : List Instr := [.iload_n 1, .ifCond .lt 11, .iload_n 1, .aload_n 0, .getfield 13, .if_icmp .lt 5, .iconst (-1), .ireturn]
def t_T_codeAt_12 : List Instr := [.iconst (-1), .ireturn]
def t_T_codeAt_14 : List Instr := [.aload_n 0, .getfield 9, .iload_n 1, .caload, .ireturn]
def d_T_codeAt : Nat → List Instr := fun pc => match pc with
  | 0 => t_T_codeAt_0
  | 12 => t_T_codeAt_12
  | 14 => t_T_codeAt_14
  | _ => []
theorem d_T_codeAt_0 : d_T_codeAt 0 = t_T_codeAt_0 := rfl
theorem d_T_codeAt_12 : d_T_codeAt 12 = t_T_codeAt_12 := rfl
theorem d_T_codeAt_14 : d_T_codeAt 14 = t_T_codeAt_14 := rfl
set_option maxRecDepth 100000 in
theorem k_T_codeAt : ∀ pc, zok c_T_codeAt 2 pc (d_T_codeAt pc) = true := by
  intro pc
  unfold d_T_codeAt
  split
  · decide +kernel
  · decide +kernel
  · decide +kernel
  · rfl
def t_T_turnRound_0 : List Instr := [.iconst 0, .istore_n 1, .nop]
def t_T_turnRound_2 : List Instr := [.iload_n 1, .aload_n 0, .getfield 13, .iconst 2, .idiv, .if_icmp .ge 49, .aload_n 0, .getfield 9, .iload_n 1, .caload, .istore_n 2, .aload_n 0, .getfield 9, .iload_n 1, .aload_n 0, .getfield 9, .aload_n 0, .getfield 13, .iconst 1, .isub, .iload_n 1, .isub, .caload, .castore, .aload_n 0, .getfield 9, .aload_n 0, .getfield 13, .iconst 1, .isub, .iload_n 1, .isub, .iload_n 2, .castore, .iinc 1 1, .goto (-53)]
def t_T_turnRound_58 : List Instr := [.return_]
def d_T_turnRound : Nat → List Instr := fun pc => match pc with
  | 0 => t_T_turnRound_0
  | 2 => t_T_turnRound_2
  | 58 => t_T_turnRound_58
  | _ => []
theorem d_T_turnRound_0 : d_T_turnRound 0 = t_T_turnRound_0 := rfl
theorem d_T_turnRound_2 : d_T_turnRound 2 = t_T_turnRound_2 := rfl
theorem d_T_turnRound_58 : d_T_turnRound 58 = t_T_turnRound_58 := rfl
set_option maxRecDepth 100000 in
theorem k_T_turnRound : ∀ pc, zok c_T_turnRound 3 pc (d_T_turnRound pc) = true := by
  intro pc
  unfold d_T_turnRound
  split
  · decide +kernel
  · decide +kernel
  · decide +kernel
  · rfl
def t_N_writeHex_0 : List Instr := [.aload_n 1, .bipush 48, .invokevirtual 13, .pop, .aload_n 1, .bipush 120, .invokevirtual 13, .pop, .iconst 1, .aload_n 0, .invokestatic 28, .iconst 3, .iadd, .iconst 4, .idiv, .invokestatic 31, .istore_n 2, .iload_n 2, .iconst 1, .isub, .istore_n 3, .nop]
def t_N_writeHex_31 : List Instr := [.iload_n 3, .ifCond .lt 33, .aload_n 1, .aload_n 0, .iload_n 3, .iconst 2, .idiv, .invokestatic 37, .iconst 4, .iload_n 3, .iconst 2, .irem, .imul, .ishr, .bipush 15, .iand, .invokestatic 41, .invokevirtual 13, .pop, .iinc 3 (-1), .goto (-31)]
def t_N_writeHex_65 : List Instr := [.return_]
def d_N_writeHex : Nat → List Instr := fun pc => match pc with
  | 0 => t_N_writeHex_0
  | 31 => t_N_writeHex_31
  | 65 => t_N_writeHex_65
  | _ => []
theorem d_N_writeHex_0 : d_N_writeHex 0 = t_N_writeHex_0 := rfl
theorem d_N_writeHex_31 : d_N_writeHex 31 = t_N_writeHex_31 := rfl
theorem d_N_writeHex_65 : d_N_writeHex 65 = t_N_writeHex_65 := rfl
set_option maxRecDepth 100000 in
theorem k_N_writeHex : ∀ pc, zok c_N_writeHex 4 pc (d_N_writeHex pc) = true := by
  intro pc
  unfold d_N_writeHex
  split
  · decide +kernel
  · decide +kernel
  · decide +kernel
  · rfl
def t_N_hexDigit_0 : List Instr := [.iload_n 0, .bipush 10, .if_icmp .ge 10, .bipush 48, .iload_n 0, .iadd, .goto 10]
def t_N_hexDigit_13 : List Instr := [.bipush 97, .iload_n 0, .iadd, .bipush 10, .isub, .nop]
def t_N_hexDigit_20 : List Instr := [.i2c, .ireturn]
def d_N_hexDigit : Nat → List Instr := fun pc => match pc with
  | 0 => t_N_hexDigit_0
  | 13 => t_N_hexDigit_13
  | 20 => t_N_hexDigit_20
  | _ => []
theorem d_N_hexDigit_0 : d_N_hexDigit 0 = t_N_hexDigit_0 := rfl
theorem d_N_hexDigit_13 : d_N_hexDigit 13 = t_N_hexDigit_13 := rfl
theorem d_N_hexDigit_20 : d_N_hexDigit 20 = t_N_hexDigit_20 := rfl
set_option maxRecDepth 100000 in
theorem k_N_hexDigit : ∀ pc, zok c_N_hexDigit 1 pc (d_N_hexDigit pc) = true := by
  intro pc
  unfold d_N_hexDigit
  split
  · decide +kernel
  · decide +kernel
  · decide +kernel
  · rfl
def t_N_writeDecimal_0 : List Instr := [.aload_n 1, .bipush 48, .aload_n 0, .invokestatic 7, .iadd, .i2c, .invokevirtual 13, .pop, .iconst 1, .istore_n 2, .nop]
def t_N_writeDecimal_15 : List Instr := [.iload_n 2, .bipush 78, .if_icmp .ge 29, .aload_n 0, .invokestatic 21, .ifCond .ne 22, .aload_n 1, .bipush 48, .aload_n 0, .invokestatic 7, .iadd, .i2c, .invokevirtual 13, .pop, .iinc 2 1, .goto (-29)]
def t_N_writeDecimal_47 : List Instr := [.aload_n 1, .invokevirtual 25, .return_]
def d_N_writeDecimal : Nat → List Instr := fun pc => match pc with
  | 0 => t_N_writeDecimal_0
  | 15 => t_N_writeDecimal_15
  | 47 => t_N_writeDecimal_47
  | _ => []
theorem d_N_writeDecimal_0 : d_N_writeDecimal 0 = t_N_writeDecimal_0 := rfl
theorem d_N_writeDecimal_15 : d_N_writeDecimal 15 = t_N_writeDecimal_15 := rfl
theorem d_N_writeDecimal_47 : d_N_writeDecimal 47 = t_N_writeDecimal_47 := rfl
set_option maxRecDepth 100000 in
theorem k_N_writeDecimal : ∀ pc, zok c_N_writeDecimal 3 pc (d_N_writeDecimal pc) = true := by
  intro pc
  unfold d_N_writeDecimal
  split
  · decide +kernel
  · decide +kernel
  · decide +kernel
  · rfl
def t_N_readHex_0 : List Instr := [.aload_n 0, .iconst 0, .invokevirtual 49, .bipush 48, .if_icmp .ne 28, .aload_n 0, .iconst 1, .invokevirtual 49, .bipush 120, .if_icmp .ne 18, .aload_n 0, .iconst 2, .bipush 16, .aload_n 1, .invokestatic 45, .ifCond .eq 7, .iconst 1, .goto 4]
def t_N_readHex_35 : List Instr := [.iconst 0, .nop]
def t_N_readHex_36 : List Instr := [.ireturn]
def d_N_readHex : Nat → List Instr := fun pc => match pc with
  | 0 => t_N_readHex_0
  | 35 => t_N_readHex_35
  | 36 => t_N_readHex_36
  | _ => []
theorem d_N_readHex_0 : d_N_readHex 0 = t_N_readHex_0 := rfl
theorem d_N_readHex_35 : d_N_readHex 35 = t_N_readHex_35 := rfl
theorem d_N_readHex_36 : d_N_readHex 36 = t_N_readHex_36 := rfl
set_option maxRecDepth 100000 in
theorem k_N_readHex : ∀ pc, zok c_N_readHex 2 pc (d_N_readHex pc) = true := by
  intro pc
  unfold d_N_readHex
  split
  · decide +kernel
  · decide +kernel
  · decide +kernel
  · rfl
def t_N_readDigits_0 : List Instr := [.aload_n 0, .invokevirtual 53, .iload_n 1, .isub, .istore 4, .iload 4, .iconst 1, .if_icmp .lt 19, .iload 4, .iconst 1, .if_icmp .le 15, .aload_n 0, .iload_n 1, .invokevirtual 49, .bipush 48, .if_icmp .ne 5, .iconst 0, .ireturn]
def t_N_readDigits_30 : List Instr := [.iconst 0, .ireturn]
def t_N_readDigits_32 : List Instr := [.aload_n 3, .lconst 0, .invokestatic 57, .iload_n 1, .istore 5, .nop]
def t_N_readDigits_40 : List Instr := [.iload 5, .aload_n 0, .invokevirtual 53, .if_icmp .ge 42, .aload_n 0, .iload 5, .invokevirtual 49, .iload_n 2, .invokestatic 63, .istore 6, .iload 6, .ifCond .lt 17, .aload_n 3, .iload_n 2, .i2l, .iload 6, .i2l, .invokestatic 66, .lconst 0, .lcmp, .ifCond .eq 5, .iconst 0, .ireturn]
def t_N_readDigits_80 : List Instr := [.iconst 0, .ireturn]
def t_N_readDigits_82 : List Instr := [.iinc 5 1, .goto (-45)]
def t_N_readDigits_88 : List Instr := [.iconst 1, .ireturn]
def d_N_readDigits : Nat → List Instr := fun pc => match pc with
  | 0 => t_N_readDigits_0
  | 30 => t_N_readDigits_30
  | 32 => t_N_readDigits_32
  | 40 => t_N_readDigits_40
  | 80 => t_N_readDigits_80
  | 82 => t_N_readDigits_82
  | 88 => t_N_readDigits_88
  | _ => []
theorem d_N_readDigits_0 : d_N_readDigits 0 = t_N_readDigits_0 := rfl
theorem d_N_readDigits_30 : d_N_readDigits 30 = t_N_readDigits_30 := rfl
theorem d_N_readDigits_32 : d_N_readDigits 32 = t_N_readDigits_32 := rfl
theorem d_N_readDigits_40 : d_N_readDigits 40 = t_N_readDigits_40 := rfl
theorem d_N_readDigits_80 : d_N_readDigits 80 = t_N_readDigits_80 := rfl
theorem d_N_readDigits_82 : d_N_readDigits 82 = t_N_readDigits_82 := rfl
theorem d_N_readDigits_88 : d_N_readDigits 88 = t_N_readDigits_88 := rfl
set_option maxRecDepth 100000 in
theorem k_N_readDigits : ∀ pc, zok c_N_readDigits 7 pc (d_N_readDigits pc) = true := by
  intro pc
  unfold d_N_readDigits
  split
  · decide +kernel
  · decide +kernel
  · decide +kernel
  · decide +kernel
  · decide +kernel
  · decide +kernel
  · decide +kernel
  · rfl
def t_N_valueOf_0 : List Instr := [.iload_n 0, .bipush 48, .if_icmp .lt 14, .iload_n 0, .bipush 57, .if_icmp .gt 8, .iload_n 0, .bipush 48, .isub, .ireturn]
def t_N_valueOf_17 : List Instr := [.iload_n 1, .bipush 16, .if_icmp .ne 25, .iload_n 0, .bipush 97, .if_icmp .lt 19, .iload_n 0, .bipush 102, .if_icmp .gt 13, .iload_n 0, .bipush 97, .isub, .bipush 10, .iadd, .goto 4]
def t_N_valueOf_45 : List Instr := [.iconst (-1), .nop]
def t_N_valueOf_46 : List Instr := [.ireturn]
def d_N_valueOf : Nat → List Instr := fun pc => match pc with
  | 0 => t_N_valueOf_0
  | 17 => t_N_valueOf_17
  | 45 => t_N_valueOf_45
  | 46 => t_N_valueOf_46
  | _ => []
theorem d_N_valueOf_0 : d_N_valueOf 0 = t_N_valueOf_0 := rfl
theorem d_N_valueOf_17 : d_N_valueOf 17 = t_N_valueOf_17 := rfl
theorem d_N_valueOf_45 : d_N_valueOf 45 = t_N_valueOf_45 := rfl
theorem d_N_valueOf_46 : d_N_valueOf 46 = t_N_valueOf_46 := rfl
set_option maxRecDepth 100000 in
theorem k_N_valueOf : ∀ pc, zok c_N_valueOf 2 pc (d_N_valueOf pc) = true := by
  intro pc
  unfold d_N_valueOf
  split
  · decide +kernel
  · decide +kernel
  · decide +kernel
  · decide +kernel
  · rfl
def t_N_readDecimal_0 : List Instr := [.aload_n 0, .iconst 0, .bipush 10, .aload_n 1, .invokestatic 45, .ireturn]
def d_N_readDecimal : Nat → List Instr := fun pc => match pc with
  | 0 => t_N_readDecimal_0
  | _ => []
theorem d_N_readDecimal_0 : d_N_readDecimal 0 = t_N_readDecimal_0 := rfl
set_option maxRecDepth 100000 in
theorem k_N_readDecimal : ∀ pc, zok c_N_readDecimal 2 pc (d_N_readDecimal pc) = true := by
  intro pc
  unfold d_N_readDecimal
  split
  · decide +kernel
  · rfl
def t_C_write_0 : List Instr := [.aload_n 0, .sipush 128, .invokestatic 9, .istore_n 2, .iload_n 2, .ifCond .le 18, .iload_n 2, .sipush 128, .if_icmp .ge 11, .aload_n 1, .iload_n 2, .i2c, .invokevirtual 15, .pop, .return_]
def t_C_write_27 : List Instr := [.aload_n 0, .invokestatic 21, .bipush 7, .iadd, .bipush 8, .idiv, .istore_n 3, .aload_n 1, .sipush 128, .iload_n 3, .iadd, .i2c, .invokevirtual 15, .pop, .iload_n 3, .iconst 1, .isub, .istore 4, .nop]
def t_C_write_54 : List Instr := [.iload 4, .ifCond .lt 21, .aload_n 1, .aload_n 0, .iload 4, .invokestatic 25, .i2c, .invokevirtual 15, .pop, .iinc 4 (-1), .goto (-20)]
def t_C_write_77 : List Instr := [.return_]
def d_C_write : Nat → List Instr := fun pc => match pc with
  | 0 => t_C_write_0
  | 27 => t_C_write_27
  | 54 => t_C_write_54
  | 77 => t_C_write_77
  | _ => []
theorem d_C_write_0 : d_C_write 0 = t_C_write_0 := rfl
theorem d_C_write_27 : d_C_write 27 = t_C_write_27 := rfl
theorem d_C_write_54 : d_C_write 54 = t_C_write_54 := rfl
theorem d_C_write_77 : d_C_write 77 = t_C_write_77 := rfl
set_option maxRecDepth 100000 in
theorem k_C_write : ∀ pc, zok c_C_write 5 pc (d_C_write pc) = true := by
  intro pc
  unfold d_C_write
  split
  · decide +kernel
  · decide +kernel
  · decide +kernel
  · decide +kernel
  · rfl
def t_C_read_0 : List Instr := [.aload_n 0, .iconst 0, .invokevirtual 28, .istore_n 2, .iload_n 2, .ifCond .le 30, .iload_n 2, .sipush 128, .if_icmp .ge 23, .aload_n 1, .iload_n 2, .i2l, .invokestatic 32, .aload_n 0, .invokevirtual 36, .iconst 1, .if_icmp .ne 7, .iconst 1, .goto 4]
def t_C_read_35 : List Instr := [.iconst 0, .nop]
def t_C_read_36 : List Instr := [.ireturn]
def t_C_read_37 : List Instr := [.iload_n 2, .sipush 128, .isub, .istore_n 3, .iload_n 3, .ifCond .lt 19, .iload_n 3, .bipush 32, .if_icmp .gt 13, .aload_n 0, .invokevirtual 36, .iload_n 3, .iconst 1, .iadd, .if_icmp .eq 5, .iconst 0, .ireturn]
def t_C_read_63 : List Instr := [.iconst 0, .ireturn]
def t_C_read_65 : List Instr := [.aload_n 1, .lconst 0, .invokestatic 40, .iconst 1, .istore 4, .nop]
def t_C_read_73 : List Instr := [.iload 4, .iload_n 3, .if_icmp .gt 24, .aload_n 1, .iload_n 3, .iload 4, .isub, .aload_n 0, .iload 4, .invokevirtual 28, .i2l, .invokestatic 45, .iinc 4 1, .goto (-24)]
def t_C_read_100 : List Instr := [.iload_n 3, .ifCond .eq 11, .aload_n 0, .iload_n 3, .invokestatic 49, .ifCond .eq 7, .iconst 1, .goto 4]
def t_C_read_112 : List Instr := [.iconst 1, .goto 4]
def t_C_read_116 : List Instr := [.iconst 0, .nop]
def t_C_read_117 : List Instr := [.ireturn]
def d_C_read : Nat → List Instr := fun pc => match pc with
  | 0 => t_C_read_0
  | 35 => t_C_read_35
  | 36 => t_C_read_36
  | 37 => t_C_read_37
  | 63 => t_C_read_63
  | 65 => t_C_read_65
  | 73 => t_C_read_73
  | 100 => t_C_read_100
  | 112 => t_C_read_112
  | 116 => t_C_read_116
  | 117 => t_C_read_117
  | _ => []
theorem d_C_read_0 : d_C_read 0 = t_C_read_0 := rfl
theorem d_C_read_35 : d_C_read 35 = t_C_read_35 := rfl
theorem d_C_read_36 : d_C_read 36 = t_C_read_36 := rfl
theorem d_C_read_37 : d_C_read 37 = t_C_read_37 := rfl
theorem d_C_read_63 : d_C_read 63 = t_C_read_63 := rfl
theorem d_C_read_65 : d_C_read 65 = t_C_read_65 := rfl
theorem d_C_read_73 : d_C_read 73 = t_C_read_73 := rfl
theorem d_C_read_100 : d_C_read 100 = t_C_read_100 := rfl
theorem d_C_read_112 : d_C_read 112 = t_C_read_112 := rfl
theorem d_C_read_116 : d_C_read 116 = t_C_read_116 := rfl
theorem d_C_read_117 : d_C_read 117 = t_C_read_117 := rfl
set_option maxRecDepth 100000 in
theorem k_C_read : ∀ pc, zok c_C_read 5 pc (d_C_read pc) = true := by
  intro pc
  unfold d_C_read
  split
  · decide +kernel
  · decide +kernel
  · decide +kernel
  · decide +kernel
  · decide +kernel
  · decide +kernel
  · decide +kernel
  · decide +kernel
  · decide +kernel
  · decide +kernel
  · decide +kernel
  · rfl
def t_C_isShortest_0 : List Instr := [.aload_n 0, .iconst 1, .invokevirtual 28, .istore_n 2, .iload_n 1, .iconst 1, .if_icmp .ne 18, .iload_n 2, .sipush 128, .if_icmp .lt 7, .iconst 1, .goto 16]
def t_C_isShortest_22 : List Instr := [.iconst 0, .goto 12]
def t_C_isShortest_26 : List Instr := [.iload_n 2, .ifCond .le 7, .iconst 1, .goto 4]
def t_C_isShortest_34 : List Instr := [.iconst 0, .nop]
def t_C_isShortest_35 : List Instr := [.ireturn]
def d_C_isShortest : Nat → List Instr := fun pc => match pc with
  | 0 => t_C_isShortest_0
  | 22 => t_C_isShortest_22
  | 26 => t_C_isShortest_26
  | 34 => t_C_isShortest_34
  | 35 => t_C_isShortest_35
  | _ => []
theorem d_C_isShortest_0 : d_C_isShortest 0 = t_C_isShortest_0 := rfl
theorem d_C_isShortest_22 : d_C_isShortest 22 = t_C_isShortest_22 := rfl
theorem d_C_isShortest_26 : d_C_isShortest 26 = t_C_isShortest_26 := rfl
theorem d_C_isShortest_34 : d_C_isShortest 34 = t_C_isShortest_34 := rfl
theorem d_C_isShortest_35 : d_C_isShortest 35 = t_C_isShortest_35 := rfl
set_option maxRecDepth 100000 in
theorem k_C_isShortest : ∀ pc, zok c_C_isShortest 3 pc (d_C_isShortest pc) = true := by
  intro pc
  unfold d_C_isShortest
  split
  · decide +kernel
  · decide +kernel
  · decide +kernel
  · decide +kernel
  · decide +kernel
  · rfl
